theorem dX8_turnFirst_100 : decode cX8_turnFirst 100 = .ok (.aload_n 0, 1) := by decide +kernel
theorem dX8_turnFirst_101 : decode cX8_turnFirst 101 = .ok (.getfield 44, 3) := by decide +kernel
theorem dX8_turnFirst_104 : decode cX8_turnFirst 104 = .ok (.goto 7, 3) := by decide +kernel
theorem dX8_turnFirst_107 : decode cX8_turnFirst 107 = .ok (.aload_n 0, 1) := by decide +kernel
theorem dX8_turnFirst_108 : decode cX8_turnFirst 108 = .ok (.getfield 41, 3) := by decide +kernel
theorem dX8_turnFirst_111 : decode cX8_turnFirst 111 = .ok (.iload 8, 2) := by decide +kernel
theorem dX8_turnFirst_113 : decode cX8_turnFirst 113 = .ok (.iload 5, 2) := by decide +kernel
theorem dX8_turnFirst_115 : decode cX8_turnFirst 115 = .ok (.iload_n 1, 1) := by decide +kernel
theorem dX8_turnFirst_116 : decode cX8_turnFirst 116 = .ok (.iconst 0, 1) := by decide +kernel
theorem dX8_turnFirst_117 : decode cX8_turnFirst 117 = .ok (.invokevirtual 118, 3) := by decide +kernel
theorem dX8_turnFirst_120 : decode cX8_turnFirst 120 = .ok (.aload_n 0, 1) := by decide +kernel
theorem dX8_turnFirst_121 : decode cX8_turnFirst 121 = .ok (.iload 8, 2) := by decide +kernel
theorem dX8_turnFirst_123 : decode cX8_turnFirst 123 = .ok (.iload_n 1, 1) := by decide +kernel
theorem dX8_turnFirst_124 : decode cX8_turnFirst 124 = .ok (.invokevirtual 122, 3) := by decide +kernel
theorem dX8_turnFirst_127 : decode cX8_turnFirst 127 = .ok (.iinc 6 1, 3) := by decide +kernel
theorem dX8_turnFirst_130 : decode cX8_turnFirst 130 = .ok (.goto (-84), 3) := by decide +kernel
theorem dX8_turnFirst_133 : decode cX8_turnFirst 133 = .ok (.aload_n 0, 1) := by decide +kernel
theorem dX8_turnFirst_134 : decode cX8_turnFirst 134 = .ok (.invokevirtual 126, 3) := by decide +kernel
theorem dX8_turnFirst_137 : decode cX8_turnFirst 137 = .ok (.return_, 1) := by decide +kernel
set_option maxRecDepth 20000 in
theorem ggX8_turnSecond_X8_makeWords : GoodIn wsX8_turnSecond wsX8_makeWords := goodIn_r _ [15, 16, 17, 18, 19, 20, 21, 22, 14, 23, 61, 62, 63, 64, 65, 66, 67, 68, 69, 70, 71, 72, 73, 74, 75, 76, 77, 78, 79, 80, 81, 82, 83] (by decide +kernel) (by decide +kernel)
set_option maxRecDepth 20000 in
theorem gX8_turnSecond_X8_makeWords : GoodIn wsX8_turnSecond (wsV RX8 107 RX8 yX8_makeWords wsX8_makeWords) := goodIn_app (goodIn_of _ (by decide +kernel)) ggX8_turnSecond_X8_makeWords
set_option maxRecDepth 20000 in
theorem ggX8_turnSecond_X8_part : GoodIn wsX8_turnSecond wsX8_part := goodIn_r _ [27, 6, 1, 7, 4, 28, 5, 61, 62, 63, 64, 65, 66, 67, 68, 69, 70, 71, 72, 73, 74, 75, 76, 77, 78, 79, 80, 81, 82, 83] (by decide +kernel) (by decide +kernel)
set_option maxRecDepth 20000 in
theorem gX8_turnSecond_X8_part : GoodIn wsX8_turnSecond (wsV RX8 111 RX8 yX8_part wsX8_part) := goodIn_app (goodIn_of _ (by decide +kernel)) ggX8_turnSecond_X8_part
set_option maxRecDepth 20000 in
theorem ggX8_turnSecond_X8_lay : GoodIn wsX8_turnSecond wsX8_lay := goodIn_r _ [32, 8, 33, 34, 61, 62, 63, 64, 65, 66, 67, 68, 69, 70, 71, 72, 73, 74, 75, 76, 77, 78, 79, 80, 81, 82, 83] (by decide +kernel) (by decide +kernel)
set_option maxRecDepth 20000 in
theorem gX8_turnSecond_X8_lay : GoodIn wsX8_turnSecond (wsV RX8 79 RX8 yX8_lay wsX8_lay) := goodIn_app (goodIn_of _ (by decide +kernel)) ggX8_turnSecond_X8_lay
set_option maxRecDepth 20000 in
theorem ggX8_turnSecond_X8_encipher : GoodIn wsX8_turnSecond wsX8_encipher := goodIn_r _ [38, 17, 39, 20, 9, 40, 41, 42, 14, 43, 18, 21, 22, 23, 61, 62, 63, 64, 65, 66, 67, 68, 69, 70, 71, 72, 73, 74, 75, 76, 77, 78, 79, 80, 81, 82, 83] (by decide +kernel) (by decide +kernel)
set_option maxRecDepth 20000 in
theorem gX8_turnSecond_X8_encipher : GoodIn wsX8_turnSecond (wsV RX8 101 RX8 yX8_encipher wsX8_encipher) := goodIn_app (goodIn_of _ (by decide +kernel)) ggX8_turnSecond_X8_encipher
set_option maxRecDepth 20000 in
theorem ggX8_turnSecond_X8_add : GoodIn wsX8_turnSecond wsX8_add := goodIn_r _ [47, 33, 48, 49, 50, 51, 14, 52, 10, 61, 62, 63, 64, 65, 66, 67, 68, 69, 70, 71, 72, 73, 74, 75, 76, 77, 78, 79, 80, 81, 82, 83] (by decide +kernel) (by decide +kernel)
set_option maxRecDepth 20000 in
theorem gX8_turnSecond_X8_add : GoodIn wsX8_turnSecond (wsV RX8 118 RX8 yX8_add wsX8_add) := goodIn_app (goodIn_of _ (by decide +kernel)) ggX8_turnSecond_X8_add
set_option maxRecDepth 20000 in
theorem ggX8_turnSecond_X8_change : GoodIn wsX8_turnSecond wsX8_change := goodIn_r _ [56, 6, 7, 5, 4, 48, 61, 62, 63, 64, 65, 66, 67, 68, 69, 70, 71, 72, 73, 74, 75, 76, 77, 78, 79, 80, 81, 82, 83] (by decide +kernel) (by decide +kernel)
set_option maxRecDepth 20000 in
theorem gX8_turnSecond_X8_change : GoodIn wsX8_turnSecond (wsV RX8 122 RX8 yX8_change wsX8_change) := goodIn_app (goodIn_of _ (by decide +kernel)) ggX8_turnSecond_X8_change
set_option maxRecDepth 20000 in
theorem ggX8_turnSecond_X8_join : GoodIn wsX8_turnSecond wsX8_join := goodIn_r _ [60, 1, 28, 6, 4, 5, 61, 62, 63, 64, 65, 66, 67, 68, 69, 70, 71, 72, 73, 74, 75, 76, 77, 78, 79, 80, 81, 82, 83] (by decide +kernel) (by decide +kernel)
set_option maxRecDepth 20000 in
theorem gX8_turnSecond_X8_join : GoodIn wsX8_turnSecond (wsV RX8 126 RX8 yX8_join wsX8_join) := goodIn_app (goodIn_of _ (by decide +kernel)) ggX8_turnSecond_X8_join
theorem dX8_turnSecond_0 : decode cX8_turnSecond 0 = .ok (.aload_n 0, 1) := by decide +kernel
theorem dX8_turnSecond_1 : decode cX8_turnSecond 1 = .ok (.getfield 89, 3) := by decide +kernel
theorem dX8_turnSecond_4 : decode cX8_turnSecond 4 = .ok (.iconst 1, 1) := by decide +kernel
theorem dX8_turnSecond_5 : decode cX8_turnSecond 5 = .ok (.iadd, 1) := by decide +kernel
theorem dX8_turnSecond_6 : decode cX8_turnSecond 6 = .ok (.iconst 2, 1) := by decide +kernel
theorem dX8_turnSecond_7 : decode cX8_turnSecond 7 = .ok (.idiv, 1) := by decide +kernel
theorem dX8_turnSecond_8 : decode cX8_turnSecond 8 = .ok (.istore_n 2, 1) := by decide +kernel
theorem dX8_turnSecond_9 : decode cX8_turnSecond 9 = .ok (.aload_n 0, 1) := by decide +kernel
theorem dX8_turnSecond_10 : decode cX8_turnSecond 10 = .ok (.getfield 89, 3) := by decide +kernel
theorem dX8_turnSecond_13 : decode cX8_turnSecond 13 = .ok (.iload_n 2, 1) := by decide +kernel
theorem dX8_turnSecond_14 : decode cX8_turnSecond 14 = .ok (.isub, 1) := by decide +kernel
theorem dX8_turnSecond_15 : decode cX8_turnSecond 15 = .ok (.istore_n 3, 1) := by decide +kernel
theorem dX8_turnSecond_16 : decode cX8_turnSecond 16 = .ok (.aload_n 0, 1) := by decide +kernel
theorem dX8_turnSecond_17 : decode cX8_turnSecond 17 = .ok (.iconst 1, 1) := by decide +kernel
theorem dX8_turnSecond_18 : decode cX8_turnSecond 18 = .ok (.invokevirtual 107, 3) := by decide +kernel
theorem dX8_turnSecond_21 : decode cX8_turnSecond 21 = .ok (.aload_n 0, 1) := by decide +kernel
theorem dX8_turnSecond_22 : decode cX8_turnSecond 22 = .ok (.iload_n 2, 1) := by decide +kernel
theorem dX8_turnSecond_23 : decode cX8_turnSecond 23 = .ok (.invokevirtual 111, 3) := by decide +kernel
theorem dX8_turnSecond_26 : decode cX8_turnSecond 26 = .ok (.iconst 0, 1) := by decide +kernel
theorem dX8_turnSecond_27 : decode cX8_turnSecond 27 = .ok (.istore 4, 2) := by decide +kernel
theorem dX8_turnSecond_29 : decode cX8_turnSecond 29 = .ok (.iload 4, 2) := by decide +kernel
theorem dX8_turnSecond_31 : decode cX8_turnSecond 31 = .ok (.bipush 8, 2) := by decide +kernel
theorem dX8_turnSecond_33 : decode cX8_turnSecond 33 = .ok (.if_icmp .ge 341, 3) := by decide +kernel
theorem dX8_turnSecond_36 : decode cX8_turnSecond 36 = .ok (.iload_n 1, 1) := by decide +kernel
theorem dX8_turnSecond_37 : decode cX8_turnSecond 37 = .ok (.ifCond .eq 11, 3) := by decide +kernel
theorem dX8_turnSecond_40 : decode cX8_turnSecond 40 = .ok (.bipush 7, 2) := by decide +kernel
theorem dX8_turnSecond_42 : decode cX8_turnSecond 42 = .ok (.iload 4, 2) := by decide +kernel
theorem dX8_turnSecond_44 : decode cX8_turnSecond 44 = .ok (.isub, 1) := by decide +kernel
theorem dX8_turnSecond_45 : decode cX8_turnSecond 45 = .ok (.goto 5, 3) := by decide +kernel
theorem dX8_turnSecond_48 : decode cX8_turnSecond 48 = .ok (.iload 4, 2) := by decide +kernel
theorem dX8_turnSecond_50 : decode cX8_turnSecond 50 = .ok (.istore 5, 2) := by decide +kernel
theorem dX8_turnSecond_52 : decode cX8_turnSecond 52 = .ok (.iload 5, 2) := by decide +kernel
theorem dX8_turnSecond_54 : decode cX8_turnSecond 54 = .ok (.iconst 2, 1) := by decide +kernel
theorem dX8_turnSecond_55 : decode cX8_turnSecond 55 = .ok (.irem, 1) := by decide +kernel
theorem dX8_turnSecond_56 : decode cX8_turnSecond 56 = .ok (.ifCond .ne 7, 3) := by decide +kernel
theorem dX8_turnSecond_59 : decode cX8_turnSecond 59 = .ok (.iload_n 2, 1) := by decide +kernel
theorem dX8_turnSecond_60 : decode cX8_turnSecond 60 = .ok (.goto 4, 3) := by decide +kernel
theorem dX8_turnSecond_63 : decode cX8_turnSecond 63 = .ok (.iload_n 3, 1) := by decide +kernel
theorem dX8_turnSecond_64 : decode cX8_turnSecond 64 = .ok (.istore 6, 2) := by decide +kernel
theorem dX8_turnSecond_66 : decode cX8_turnSecond 66 = .ok (.iload 5, 2) := by decide +kernel
theorem dX8_turnSecond_68 : decode cX8_turnSecond 68 = .ok (.iconst 2, 1) := by decide +kernel
theorem dX8_turnSecond_69 : decode cX8_turnSecond 69 = .ok (.irem, 1) := by decide +kernel
theorem dX8_turnSecond_70 : decode cX8_turnSecond 70 = .ok (.ifCond .ne 7, 3) := by decide +kernel
theorem dX8_turnSecond_73 : decode cX8_turnSecond 73 = .ok (.iconst 1, 1) := by decide +kernel
theorem dX8_turnSecond_74 : decode cX8_turnSecond 74 = .ok (.goto 4, 3) := by decide +kernel
theorem dX8_turnSecond_77 : decode cX8_turnSecond 77 = .ok (.iconst 0, 1) := by decide +kernel
theorem dX8_turnSecond_78 : decode cX8_turnSecond 78 = .ok (.istore 7, 2) := by decide +kernel
theorem dX8_turnSecond_80 : decode cX8_turnSecond 80 = .ok (.aload_n 0, 1) := by decide +kernel
theorem dX8_turnSecond_81 : decode cX8_turnSecond 81 = .ok (.getfield 53, 3) := by decide +kernel
theorem dX8_turnSecond_84 : decode cX8_turnSecond 84 = .ok (.iconst 0, 1) := by decide +kernel
theorem dX8_turnSecond_85 : decode cX8_turnSecond 85 = .ok (.iload 7, 2) := by decide +kernel
theorem dX8_turnSecond_87 : decode cX8_turnSecond 87 = .ok (.ifCond .eq 12, 3) := by decide +kernel
theorem dX8_turnSecond_90 : decode cX8_turnSecond 90 = .ok (.aload_n 0, 1) := by decide +kernel
theorem dX8_turnSecond_91 : decode cX8_turnSecond 91 = .ok (.getfield 20, 3) := by decide +kernel
theorem dX8_turnSecond_94 : decode cX8_turnSecond 94 = .ok (.iconst 4, 1) := by decide +kernel
theorem dX8_turnSecond_95 : decode cX8_turnSecond 95 = .ok (.iaload, 1) := by decide +kernel
theorem dX8_turnSecond_96 : decode cX8_turnSecond 96 = .ok (.goto 9, 3) := by decide +kernel
theorem dX8_turnSecond_99 : decode cX8_turnSecond 99 = .ok (.aload_n 0, 1) := by decide +kernel
theorem dX8_turnSecond_100 : decode cX8_turnSecond 100 = .ok (.getfield 20, 3) := by decide +kernel
theorem dX8_turnSecond_103 : decode cX8_turnSecond 103 = .ok (.iconst 0, 1) := by decide +kernel
theorem dX8_turnSecond_104 : decode cX8_turnSecond 104 = .ok (.iaload, 1) := by decide +kernel
theorem dX8_turnSecond_105 : decode cX8_turnSecond 105 = .ok (.iastore, 1) := by decide +kernel
theorem dX8_turnSecond_106 : decode cX8_turnSecond 106 = .ok (.aload_n 0, 1) := by decide +kernel
theorem dX8_turnSecond_107 : decode cX8_turnSecond 107 = .ok (.getfield 53, 3) := by decide +kernel
theorem dX8_turnSecond_110 : decode cX8_turnSecond 110 = .ok (.iconst 1, 1) := by decide +kernel
theorem dX8_turnSecond_111 : decode cX8_turnSecond 111 = .ok (.iload 7, 2) := by decide +kernel
theorem dX8_turnSecond_113 : decode cX8_turnSecond 113 = .ok (.ifCond .eq 12, 3) := by decide +kernel
theorem dX8_turnSecond_116 : decode cX8_turnSecond 116 = .ok (.aload_n 0, 1) := by decide +kernel
theorem dX8_turnSecond_117 : decode cX8_turnSecond 117 = .ok (.getfield 20, 3) := by decide +kernel
theorem dX8_turnSecond_120 : decode cX8_turnSecond 120 = .ok (.iconst 5, 1) := by decide +kernel
theorem dX8_turnSecond_121 : decode cX8_turnSecond 121 = .ok (.iaload, 1) := by decide +kernel
theorem dX8_turnSecond_122 : decode cX8_turnSecond 122 = .ok (.goto 9, 3) := by decide +kernel
theorem dX8_turnSecond_125 : decode cX8_turnSecond 125 = .ok (.aload_n 0, 1) := by decide +kernel
theorem dX8_turnSecond_126 : decode cX8_turnSecond 126 = .ok (.getfield 20, 3) := by decide +kernel
theorem dX8_turnSecond_129 : decode cX8_turnSecond 129 = .ok (.iconst 1, 1) := by decide +kernel
theorem dX8_turnSecond_130 : decode cX8_turnSecond 130 = .ok (.iaload, 1) := by decide +kernel
theorem dX8_turnSecond_131 : decode cX8_turnSecond 131 = .ok (.iastore, 1) := by decide +kernel
theorem dX8_turnSecond_132 : decode cX8_turnSecond 132 = .ok (.aload_n 0, 1) := by decide +kernel
theorem dX8_turnSecond_133 : decode cX8_turnSecond 133 = .ok (.getfield 53, 3) := by decide +kernel
theorem dX8_turnSecond_136 : decode cX8_turnSecond 136 = .ok (.iconst 2, 1) := by decide +kernel
theorem dX8_turnSecond_137 : decode cX8_turnSecond 137 = .ok (.iload 7, 2) := by decide +kernel
theorem dX8_turnSecond_139 : decode cX8_turnSecond 139 = .ok (.ifCond .eq 13, 3) := by decide +kernel
theorem dX8_turnSecond_142 : decode cX8_turnSecond 142 = .ok (.aload_n 0, 1) := by decide +kernel
theorem dX8_turnSecond_143 : decode cX8_turnSecond 143 = .ok (.getfield 20, 3) := by decide +kernel
theorem dX8_turnSecond_146 : decode cX8_turnSecond 146 = .ok (.bipush 6, 2) := by decide +kernel
theorem dX8_turnSecond_148 : decode cX8_turnSecond 148 = .ok (.iaload, 1) := by decide +kernel
theorem dX8_turnSecond_149 : decode cX8_turnSecond 149 = .ok (.goto 9, 3) := by decide +kernel
theorem dX8_turnSecond_152 : decode cX8_turnSecond 152 = .ok (.aload_n 0, 1) := by decide +kernel
theorem dX8_turnSecond_153 : decode cX8_turnSecond 153 = .ok (.getfield 20, 3) := by decide +kernel
theorem dX8_turnSecond_156 : decode cX8_turnSecond 156 = .ok (.iconst 2, 1) := by decide +kernel
theorem dX8_turnSecond_157 : decode cX8_turnSecond 157 = .ok (.iaload, 1) := by decide +kernel
theorem dX8_turnSecond_158 : decode cX8_turnSecond 158 = .ok (.iastore, 1) := by decide +kernel
theorem dX8_turnSecond_159 : decode cX8_turnSecond 159 = .ok (.aload_n 0, 1) := by decide +kernel
theorem dX8_turnSecond_160 : decode cX8_turnSecond 160 = .ok (.getfield 53, 3) := by decide +kernel
theorem dX8_turnSecond_163 : decode cX8_turnSecond 163 = .ok (.iconst 3, 1) := by decide +kernel
theorem dX8_turnSecond_164 : decode cX8_turnSecond 164 = .ok (.iload 7, 2) := by decide +kernel
theorem dX8_turnSecond_166 : decode cX8_turnSecond 166 = .ok (.ifCond .eq 17, 3) := by decide +kernel
theorem dX8_turnSecond_169 : decode cX8_turnSecond 169 = .ok (.aload_n 0, 1) := by decide +kernel
theorem dX8_turnSecond_170 : decode cX8_turnSecond 170 = .ok (.getfield 20, 3) := by decide +kernel
theorem dX8_turnSecond_173 : decode cX8_turnSecond 173 = .ok (.iconst 3, 1) := by decide +kernel
theorem dX8_turnSecond_174 : decode cX8_turnSecond 174 = .ok (.iaload, 1) := by decide +kernel
theorem dX8_turnSecond_175 : decode cX8_turnSecond 175 = .ok (.bipush 15, 2) := by decide +kernel
theorem dX8_turnSecond_177 : decode cX8_turnSecond 177 = .ok (.iand, 1) := by decide +kernel
theorem dX8_turnSecond_178 : decode cX8_turnSecond 178 = .ok (.iconst 4, 1) := by decide +kernel
theorem dX8_turnSecond_179 : decode cX8_turnSecond 179 = .ok (.ishl, 1) := by decide +kernel
theorem dX8_turnSecond_180 : decode cX8_turnSecond 180 = .ok (.goto 13, 3) := by decide +kernel
theorem dX8_turnSecond_183 : decode cX8_turnSecond 183 = .ok (.aload_n 0, 1) := by decide +kernel
theorem dX8_turnSecond_184 : decode cX8_turnSecond 184 = .ok (.getfield 20, 3) := by decide +kernel
theorem dX8_turnSecond_187 : decode cX8_turnSecond 187 = .ok (.iconst 3, 1) := by decide +kernel
theorem dX8_turnSecond_188 : decode cX8_turnSecond 188 = .ok (.iaload, 1) := by decide +kernel
theorem dX8_turnSecond_189 : decode cX8_turnSecond 189 = .ok (.sipush 240, 3) := by decide +kernel
theorem dX8_turnSecond_192 : decode cX8_turnSecond 192 = .ok (.iand, 1) := by decide +kernel
theorem dX8_turnSecond_193 : decode cX8_turnSecond 193 = .ok (.iload 5, 2) := by decide +kernel
theorem dX8_turnSecond_195 : decode cX8_turnSecond 195 = .ok (.ixor, 1) := by decide +kernel
theorem dX8_turnSecond_196 : decode cX8_turnSecond 196 = .ok (.iastore, 1) := by decide +kernel
theorem dX8_turnSecond_197 : decode cX8_turnSecond 197 = .ok (.aload_n 0, 1) := by decide +kernel
theorem dX8_turnSecond_198 : decode cX8_turnSecond 198 = .ok (.iload_n 1, 1) := by decide +kernel
theorem dX8_turnSecond_199 : decode cX8_turnSecond 199 = .ok (.ifCond .eq 10, 3) := by decide +kernel
theorem dX8_turnSecond_202 : decode cX8_turnSecond 202 = .ok (.aload_n 0, 1) := by decide +kernel
theorem dX8_turnSecond_203 : decode cX8_turnSecond 203 = .ok (.getfield 41, 3) := by decide +kernel
theorem dX8_turnSecond_206 : decode cX8_turnSecond 206 = .ok (.goto 7, 3) := by decide +kernel
theorem dX8_turnSecond_209 : decode cX8_turnSecond 209 = .ok (.aload_n 0, 1) := by decide +kernel
theorem dX8_turnSecond_210 : decode cX8_turnSecond 210 = .ok (.getfield 44, 3) := by decide +kernel
theorem dX8_turnSecond_213 : decode cX8_turnSecond 213 = .ok (.iload_n 1, 1) := by decide +kernel
theorem dX8_turnSecond_214 : decode cX8_turnSecond 214 = .ok (.ifCond .eq 10, 3) := by decide +kernel
theorem dX8_turnSecond_217 : decode cX8_turnSecond 217 = .ok (.aload_n 0, 1) := by decide +kernel
theorem dX8_turnSecond_218 : decode cX8_turnSecond 218 = .ok (.getfield 86, 3) := by decide +kernel
theorem dX8_turnSecond_221 : decode cX8_turnSecond 221 = .ok (.goto 7, 3) := by decide +kernel
theorem dX8_turnSecond_224 : decode cX8_turnSecond 224 = .ok (.aload_n 0, 1) := by decide +kernel
theorem dX8_turnSecond_225 : decode cX8_turnSecond 225 = .ok (.getfield 92, 3) := by decide +kernel
theorem dX8_turnSecond_228 : decode cX8_turnSecond 228 = .ok (.bipush 12, 2) := by decide +kernel
theorem dX8_turnSecond_230 : decode cX8_turnSecond 230 = .ok (.iconst 1, 1) := by decide +kernel
theorem dX8_turnSecond_231 : decode cX8_turnSecond 231 = .ok (.invokevirtual 79, 3) := by decide +kernel
theorem dX8_turnSecond_234 : decode cX8_turnSecond 234 = .ok (.iconst 0, 1) := by decide +kernel
theorem dX8_turnSecond_235 : decode cX8_turnSecond 235 = .ok (.istore 8, 2) := by decide +kernel
theorem dX8_turnSecond_237 : decode cX8_turnSecond 237 = .ok (.iload 8, 2) := by decide +kernel
theorem dX8_turnSecond_239 : decode cX8_turnSecond 239 = .ok (.bipush 12, 2) := by decide +kernel
theorem dX8_turnSecond_241 : decode cX8_turnSecond 241 = .ok (.if_icmp .ge 25, 3) := by decide +kernel
theorem dX8_turnSecond_244 : decode cX8_turnSecond 244 = .ok (.aload_n 0, 1) := by decide +kernel
theorem dX8_turnSecond_245 : decode cX8_turnSecond 245 = .ok (.getfield 53, 3) := by decide +kernel
theorem dX8_turnSecond_248 : decode cX8_turnSecond 248 = .ok (.iconst 4, 1) := by decide +kernel
theorem dX8_turnSecond_249 : decode cX8_turnSecond 249 = .ok (.iload 8, 2) := by decide +kernel
theorem dX8_turnSecond_251 : decode cX8_turnSecond 251 = .ok (.iadd, 1) := by decide +kernel
theorem dX8_turnSecond_252 : decode cX8_turnSecond 252 = .ok (.aload_n 0, 1) := by decide +kernel
theorem dX8_turnSecond_253 : decode cX8_turnSecond 253 = .ok (.getfield 50, 3) := by decide +kernel
theorem dX8_turnSecond_256 : decode cX8_turnSecond 256 = .ok (.iload 8, 2) := by decide +kernel
theorem dX8_turnSecond_258 : decode cX8_turnSecond 258 = .ok (.iaload, 1) := by decide +kernel
theorem dX8_turnSecond_259 : decode cX8_turnSecond 259 = .ok (.iastore, 1) := by decide +kernel
theorem dX8_turnSecond_260 : decode cX8_turnSecond 260 = .ok (.iinc 8 1, 3) := by decide +kernel
theorem dX8_turnSecond_263 : decode cX8_turnSecond 263 = .ok (.goto (-26), 3) := by decide +kernel
theorem dX8_turnSecond_266 : decode cX8_turnSecond 266 = .ok (.iconst 0, 1) := by decide +kernel
theorem dX8_turnSecond_267 : decode cX8_turnSecond 267 = .ok (.istore 8, 2) := by decide +kernel
theorem dX8_turnSecond_269 : decode cX8_turnSecond 269 = .ok (.iload 8, 2) := by decide +kernel
theorem dX8_turnSecond_271 : decode cX8_turnSecond 271 = .ok (.bipush 16, 2) := by decide +kernel
theorem dX8_turnSecond_273 : decode cX8_turnSecond 273 = .ok (.if_icmp .ge 26, 3) := by decide +kernel
theorem dX8_turnSecond_276 : decode cX8_turnSecond 276 = .ok (.aload_n 0, 1) := by decide +kernel
theorem dX8_turnSecond_277 : decode cX8_turnSecond 277 = .ok (.getfield 35, 3) := by decide +kernel
theorem dX8_turnSecond_280 : decode cX8_turnSecond 280 = .ok (.iload 8, 2) := by decide +kernel
theorem dX8_turnSecond_282 : decode cX8_turnSecond 282 = .ok (.aload_n 0, 1) := by decide +kernel
theorem dX8_turnSecond_283 : decode cX8_turnSecond 283 = .ok (.getfield 53, 3) := by decide +kernel
theorem dX8_turnSecond_286 : decode cX8_turnSecond 286 = .ok (.bipush 15, 2) := by decide +kernel
theorem dX8_turnSecond_288 : decode cX8_turnSecond 288 = .ok (.iload 8, 2) := by decide +kernel
theorem dX8_turnSecond_290 : decode cX8_turnSecond 290 = .ok (.isub, 1) := by decide +kernel
theorem dX8_turnSecond_291 : decode cX8_turnSecond 291 = .ok (.iaload, 1) := by decide +kernel
theorem dX8_turnSecond_292 : decode cX8_turnSecond 292 = .ok (.iastore, 1) := by decide +kernel
theorem dX8_turnSecond_293 : decode cX8_turnSecond 293 = .ok (.iinc 8 1, 3) := by decide +kernel
theorem dX8_turnSecond_296 : decode cX8_turnSecond 296 = .ok (.goto (-27), 3) := by decide +kernel
theorem dX8_turnSecond_299 : decode cX8_turnSecond 299 = .ok (.aload_n 0, 1) := by decide +kernel
theorem dX8_turnSecond_300 : decode cX8_turnSecond 300 = .ok (.invokevirtual 101, 3) := by decide +kernel
theorem dX8_turnSecond_303 : decode cX8_turnSecond 303 = .ok (.iconst 0, 1) := by decide +kernel
theorem dX8_turnSecond_304 : decode cX8_turnSecond 304 = .ok (.istore 8, 2) := by decide +kernel
theorem dX8_turnSecond_306 : decode cX8_turnSecond 306 = .ok (.iload 8, 2) := by decide +kernel
theorem dX8_turnSecond_308 : decode cX8_turnSecond 308 = .ok (.bipush 16, 2) := by decide +kernel
theorem dX8_turnSecond_310 : decode cX8_turnSecond 310 = .ok (.if_icmp .ge 26, 3) := by decide +kernel
theorem dX8_turnSecond_313 : decode cX8_turnSecond 313 = .ok (.aload_n 0, 1) := by decide +kernel
theorem dX8_turnSecond_314 : decode cX8_turnSecond 314 = .ok (.getfield 56, 3) := by decide +kernel
theorem dX8_turnSecond_317 : decode cX8_turnSecond 317 = .ok (.iload 8, 2) := by decide +kernel
theorem dX8_turnSecond_319 : decode cX8_turnSecond 319 = .ok (.aload_n 0, 1) := by decide +kernel
theorem dX8_turnSecond_320 : decode cX8_turnSecond 320 = .ok (.getfield 35, 3) := by decide +kernel
theorem dX8_turnSecond_323 : decode cX8_turnSecond 323 = .ok (.bipush 15, 2) := by decide +kernel
theorem dX8_turnSecond_325 : decode cX8_turnSecond 325 = .ok (.iload 8, 2) := by decide +kernel
theorem dX8_turnSecond_327 : decode cX8_turnSecond 327 = .ok (.isub, 1) := by decide +kernel
theorem dX8_turnSecond_328 : decode cX8_turnSecond 328 = .ok (.iaload, 1) := by decide +kernel
theorem dX8_turnSecond_329 : decode cX8_turnSecond 329 = .ok (.iastore, 1) := by decide +kernel
theorem dX8_turnSecond_330 : decode cX8_turnSecond 330 = .ok (.iinc 8 1, 3) := by decide +kernel
theorem dX8_turnSecond_333 : decode cX8_turnSecond 333 = .ok (.goto (-27), 3) := by decide +kernel
theorem dX8_turnSecond_336 : decode cX8_turnSecond 336 = .ok (.aload_n 0, 1) := by decide +kernel
theorem dX8_turnSecond_337 : decode cX8_turnSecond 337 = .ok (.iload_n 1, 1) := by decide +kernel
theorem dX8_turnSecond_338 : decode cX8_turnSecond 338 = .ok (.ifCond .eq 10, 3) := by decide +kernel
theorem dX8_turnSecond_341 : decode cX8_turnSecond 341 = .ok (.aload_n 0, 1) := by decide +kernel
theorem dX8_turnSecond_342 : decode cX8_turnSecond 342 = .ok (.getfield 44, 3) := by decide +kernel
theorem dX8_turnSecond_345 : decode cX8_turnSecond 345 = .ok (.goto 7, 3) := by decide +kernel
theorem dX8_turnSecond_348 : decode cX8_turnSecond 348 = .ok (.aload_n 0, 1) := by decide +kernel
theorem dX8_turnSecond_349 : decode cX8_turnSecond 349 = .ok (.getfield 41, 3) := by decide +kernel
theorem dX8_turnSecond_352 : decode cX8_turnSecond 352 = .ok (.iload 6, 2) := by decide +kernel
theorem dX8_turnSecond_354 : decode cX8_turnSecond 354 = .ok (.bipush 16, 2) := by decide +kernel
theorem dX8_turnSecond_356 : decode cX8_turnSecond 356 = .ok (.iload_n 1, 1) := by decide +kernel
theorem dX8_turnSecond_357 : decode cX8_turnSecond 357 = .ok (.iconst 1, 1) := by decide +kernel
theorem dX8_turnSecond_358 : decode cX8_turnSecond 358 = .ok (.invokevirtual 118, 3) := by decide +kernel
theorem dX8_turnSecond_361 : decode cX8_turnSecond 361 = .ok (.aload_n 0, 1) := by decide +kernel
theorem dX8_turnSecond_362 : decode cX8_turnSecond 362 = .ok (.iload 6, 2) := by decide +kernel
theorem dX8_turnSecond_364 : decode cX8_turnSecond 364 = .ok (.iload_n 1, 1) := by decide +kernel
theorem dX8_turnSecond_365 : decode cX8_turnSecond 365 = .ok (.invokevirtual 122, 3) := by decide +kernel
theorem dX8_turnSecond_368 : decode cX8_turnSecond 368 = .ok (.iinc 4 1, 3) := by decide +kernel
theorem dX8_turnSecond_371 : decode cX8_turnSecond 371 = .ok (.goto (-342), 3) := by decide +kernel
theorem dX8_turnSecond_374 : decode cX8_turnSecond 374 = .ok (.aload_n 0, 1) := by decide +kernel
theorem dX8_turnSecond_375 : decode cX8_turnSecond 375 = .ok (.invokevirtual 126, 3) := by decide +kernel
theorem dX8_turnSecond_378 : decode cX8_turnSecond 378 = .ok (.return_, 1) := by decide +kernel
set_option maxRecDepth 20000 in
theorem ggX8_canTurn_X8_bytesOf : GoodIn wsX8_canTurn wsX8_bytesOf := goodIn_r _ [9, 10, 3, 11, 12, 13, 14, 8, 15, 16, 17, 18, 19, 20, 21, 22, 23, 24, 25, 26, 27, 28, 29, 30, 31, 32, 33, 34, 35, 36, 37, 38, 39] (by decide +kernel) (by decide +kernel)
set_option maxRecDepth 20000 in
theorem gX8_canTurn_X8_bytesOf : GoodIn wsX8_canTurn (wsV RX8 104 RX8 yX8_bytesOf wsX8_bytesOf) := goodIn_app (goodIn_of _ (by decide +kernel)) ggX8_canTurn_X8_bytesOf
theorem dX8_canTurn_0 : decode cX8_canTurn 0 = .ok (.lconst 1, 1) := by decide +kernel
theorem dX8_canTurn_1 : decode cX8_canTurn 1 = .ok (.lstore_n 2, 1) := by decide +kernel
theorem dX8_canTurn_2 : decode cX8_canTurn 2 = .ok (.iconst 0, 1) := by decide +kernel
theorem dX8_canTurn_3 : decode cX8_canTurn 3 = .ok (.istore 4, 2) := by decide +kernel
theorem dX8_canTurn_5 : decode cX8_canTurn 5 = .ok (.iload 4, 2) := by decide +kernel
theorem dX8_canTurn_7 : decode cX8_canTurn 7 = .ok (.aload_n 0, 1) := by decide +kernel
theorem dX8_canTurn_8 : decode cX8_canTurn 8 = .ok (.getfield 89, 3) := by decide +kernel
theorem dX8_canTurn_11 : decode cX8_canTurn 11 = .ok (.if_icmp .ge 25, 3) := by decide +kernel
theorem dX8_canTurn_14 : decode cX8_canTurn 14 = .ok (.lload_n 2, 1) := by decide +kernel
theorem dX8_canTurn_15 : decode cX8_canTurn 15 = .ok (.ldc2_w 129, 3) := by decide +kernel
theorem dX8_canTurn_18 : decode cX8_canTurn 18 = .ok (.lcmp, 1) := by decide +kernel
theorem dX8_canTurn_19 : decode cX8_canTurn 19 = .ok (.ifCond .ge 17, 3) := by decide +kernel
theorem dX8_canTurn_22 : decode cX8_canTurn 22 = .ok (.lload_n 2, 1) := by decide +kernel
theorem dX8_canTurn_23 : decode cX8_canTurn 23 = .ok (.aload_n 0, 1) := by decide +kernel
theorem dX8_canTurn_24 : decode cX8_canTurn 24 = .ok (.getfield 23, 3) := by decide +kernel
theorem dX8_canTurn_27 : decode cX8_canTurn 27 = .ok (.i2l, 1) := by decide +kernel
theorem dX8_canTurn_28 : decode cX8_canTurn 28 = .ok (.lmul, 1) := by decide +kernel
theorem dX8_canTurn_29 : decode cX8_canTurn 29 = .ok (.lstore_n 2, 1) := by decide +kernel
theorem dX8_canTurn_30 : decode cX8_canTurn 30 = .ok (.iinc 4 1, 3) := by decide +kernel
theorem dX8_canTurn_33 : decode cX8_canTurn 33 = .ok (.goto (-28), 3) := by decide +kernel
theorem dX8_canTurn_36 : decode cX8_canTurn 36 = .ok (.aload_n 0, 1) := by decide +kernel
theorem dX8_canTurn_37 : decode cX8_canTurn 37 = .ok (.getfield 89, 3) := by decide +kernel
theorem dX8_canTurn_40 : decode cX8_canTurn 40 = .ok (.iconst 2, 1) := by decide +kernel
theorem dX8_canTurn_41 : decode cX8_canTurn 41 = .ok (.if_icmp .lt 11, 3) := by decide +kernel
theorem dX8_canTurn_44 : decode cX8_canTurn 44 = .ok (.lload_n 2, 1) := by decide +kernel
theorem dX8_canTurn_45 : decode cX8_canTurn 45 = .ok (.ldc2_w 129, 3) := by decide +kernel
theorem dX8_canTurn_48 : decode cX8_canTurn 48 = .ok (.lcmp, 1) := by decide +kernel
theorem dX8_canTurn_49 : decode cX8_canTurn 49 = .ok (.ifCond .ge 5, 3) := by decide +kernel
theorem dX8_canTurn_52 : decode cX8_canTurn 52 = .ok (.iconst 0, 1) := by decide +kernel
theorem dX8_canTurn_53 : decode cX8_canTurn 53 = .ok (.ireturn, 1) := by decide +kernel
theorem dX8_canTurn_54 : decode cX8_canTurn 54 = .ok (.iload_n 1, 1) := by decide +kernel
theorem dX8_canTurn_55 : decode cX8_canTurn 55 = .ok (.ifCond .eq 29, 3) := by decide +kernel
theorem dX8_canTurn_58 : decode cX8_canTurn 58 = .ok (.aload_n 0, 1) := by decide +kernel
theorem dX8_canTurn_59 : decode cX8_canTurn 59 = .ok (.getfield 95, 3) := by decide +kernel
theorem dX8_canTurn_62 : decode cX8_canTurn 62 = .ok (.bipush 7, 2) := by decide +kernel
theorem dX8_canTurn_64 : decode cX8_canTurn 64 = .ok (.if_icmp .ne 24, 3) := by decide +kernel
theorem dX8_canTurn_67 : decode cX8_canTurn 67 = .ok (.aload_n 0, 1) := by decide +kernel
theorem dX8_canTurn_68 : decode cX8_canTurn 68 = .ok (.aload_n 0, 1) := by decide +kernel
theorem dX8_canTurn_69 : decode cX8_canTurn 69 = .ok (.getfield 89, 3) := by decide +kernel
theorem dX8_canTurn_72 : decode cX8_canTurn 72 = .ok (.iconst 1, 1) := by decide +kernel
theorem dX8_canTurn_73 : decode cX8_canTurn 73 = .ok (.iadd, 1) := by decide +kernel
theorem dX8_canTurn_74 : decode cX8_canTurn 74 = .ok (.iconst 2, 1) := by decide +kernel
theorem dX8_canTurn_75 : decode cX8_canTurn 75 = .ok (.idiv, 1) := by decide +kernel
theorem dX8_canTurn_76 : decode cX8_canTurn 76 = .ok (.invokevirtual 104, 3) := by decide +kernel
theorem dX8_canTurn_79 : decode cX8_canTurn 79 = .ok (.bipush 12, 2) := by decide +kernel
theorem dX8_canTurn_81 : decode cX8_canTurn 81 = .ok (.if_icmp .gt 7, 3) := by decide +kernel
theorem dX8_canTurn_84 : decode cX8_canTurn 84 = .ok (.iconst 1, 1) := by decide +kernel
theorem dX8_canTurn_85 : decode cX8_canTurn 85 = .ok (.goto 4, 3) := by decide +kernel
theorem dX8_canTurn_88 : decode cX8_canTurn 88 = .ok (.iconst 0, 1) := by decide +kernel
theorem dX8_canTurn_89 : decode cX8_canTurn 89 = .ok (.ireturn, 1) := by decide +kernel
set_option maxRecDepth 20000 in
theorem ggX8_type_X8_in : GoodIn wsX8_type wsX8_in := goodIn_r _ [9] (by decide +kernel) (by decide +kernel)
set_option maxRecDepth 20000 in
theorem gX8_type_X8_in : GoodIn wsX8_type (va_wsS RX8 133 yX8_in wsX8_in) := goodIn_app (goodIn_of _ (by decide +kernel)) ggX8_type_X8_in
set_option maxRecDepth 20000 in
theorem ggX8_type_X8_refuses : GoodIn wsX8_type wsX8_refuses := goodIn_r _ [13, 1, 14, 15, 16, 17, 18, 19, 20, 21, 22, 23, 24, 25, 26, 27, 28, 29, 30, 31, 32, 33, 34, 35, 36] (by decide +kernel) (by decide +kernel)
set_option maxRecDepth 20000 in
theorem gX8_type_X8_refuses : GoodIn wsX8_type (wsV RX8 137 RX8 yX8_refuses wsX8_refuses) := goodIn_app (goodIn_of _ (by decide +kernel)) ggX8_type_X8_refuses
theorem dX8_type_0 : decode cX8_type 0 = .ok (.aload_n 0, 1) := by decide +kernel
theorem dX8_type_1 : decode cX8_type 1 = .ok (.iconst 0, 1) := by decide +kernel
theorem dX8_type_2 : decode cX8_type 2 = .ok (.putfield 63, 3) := by decide +kernel
theorem dX8_type_5 : decode cX8_type 5 = .ok (.aload_n 0, 1) := by decide +kernel
theorem dX8_type_6 : decode cX8_type 6 = .ok (.iload_n 3, 1) := by decide +kernel
theorem dX8_type_7 : decode cX8_type 7 = .ok (.i2l, 1) := by decide +kernel
theorem dX8_type_8 : decode cX8_type 8 = .ok (.lconst 1, 1) := by decide +kernel
theorem dX8_type_9 : decode cX8_type 9 = .ok (.ldc2_w 131, 3) := by decide +kernel
theorem dX8_type_12 : decode cX8_type 12 = .ok (.invokestatic 133, 3) := by decide +kernel
theorem dX8_type_15 : decode cX8_type 15 = .ok (.ifCond .ne 7, 3) := by decide +kernel
theorem dX8_type_18 : decode cX8_type 18 = .ok (.iconst 1, 1) := by decide +kernel
theorem dX8_type_19 : decode cX8_type 19 = .ok (.goto 4, 3) := by decide +kernel
theorem dX8_type_22 : decode cX8_type 22 = .ok (.iconst 0, 1) := by decide +kernel
theorem dX8_type_23 : decode cX8_type 23 = .ok (.iconst 1, 1) := by decide +kernel
theorem dX8_type_24 : decode cX8_type 24 = .ok (.invokevirtual 137, 3) := by decide +kernel
theorem dX8_type_27 : decode cX8_type 27 = .ok (.ifCond .ne 27, 3) := by decide +kernel
theorem dX8_type_30 : decode cX8_type 30 = .ok (.aload_n 0, 1) := by decide +kernel
theorem dX8_type_31 : decode cX8_type 31 = .ok (.aload_n 0, 1) := by decide +kernel
theorem dX8_type_32 : decode cX8_type 32 = .ok (.getfield 141, 3) := by decide +kernel
theorem dX8_type_35 : decode cX8_type 35 = .ok (.iload_n 3, 1) := by decide +kernel
theorem dX8_type_36 : decode cX8_type 36 = .ok (.iadd, 1) := by decide +kernel
theorem dX8_type_37 : decode cX8_type 37 = .ok (.bipush 64, 2) := by decide +kernel
theorem dX8_type_39 : decode cX8_type 39 = .ok (.if_icmp .le 7, 3) := by decide +kernel
theorem dX8_type_42 : decode cX8_type 42 = .ok (.iconst 1, 1) := by decide +kernel
theorem dX8_type_43 : decode cX8_type 43 = .ok (.goto 4, 3) := by decide +kernel
theorem dX8_type_46 : decode cX8_type 46 = .ok (.iconst 0, 1) := by decide +kernel
theorem dX8_type_47 : decode cX8_type 47 = .ok (.iconst 2, 1) := by decide +kernel
theorem dX8_type_48 : decode cX8_type 48 = .ok (.invokevirtual 137, 3) := by decide +kernel
theorem dX8_type_51 : decode cX8_type 51 = .ok (.ifCond .eq 5, 3) := by decide +kernel
theorem dX8_type_54 : decode cX8_type 54 = .ok (.iconst 0, 1) := by decide +kernel
theorem dX8_type_55 : decode cX8_type 55 = .ok (.ireturn, 1) := by decide +kernel
theorem dX8_type_56 : decode cX8_type 56 = .ok (.iload_n 3, 1) := by decide +kernel
theorem dX8_type_57 : decode cX8_type 57 = .ok (.iconst 1, 1) := by decide +kernel
theorem dX8_type_58 : decode cX8_type 58 = .ok (.isub, 1) := by decide +kernel
theorem dX8_type_59 : decode cX8_type 59 = .ok (.istore 4, 2) := by decide +kernel
theorem dX8_type_61 : decode cX8_type 61 = .ok (.iload 4, 2) := by decide +kernel
theorem dX8_type_63 : decode cX8_type 63 = .ok (.ifCond .lt 40, 3) := by decide +kernel
theorem dX8_type_66 : decode cX8_type 66 = .ok (.aload_n 0, 1) := by decide +kernel
theorem dX8_type_67 : decode cX8_type 67 = .ok (.getfield 7, 3) := by decide +kernel
theorem dX8_type_70 : decode cX8_type 70 = .ok (.aload_n 0, 1) := by decide +kernel
theorem dX8_type_71 : decode cX8_type 71 = .ok (.getfield 141, 3) := by decide +kernel
theorem dX8_type_74 : decode cX8_type 74 = .ok (.lload_n 1, 1) := by decide +kernel
theorem dX8_type_75 : decode cX8_type 75 = .ok (.bipush 8, 2) := by decide +kernel
theorem dX8_type_77 : decode cX8_type 77 = .ok (.iload 4, 2) := by decide +kernel
theorem dX8_type_79 : decode cX8_type 79 = .ok (.imul, 1) := by decide +kernel
theorem dX8_type_80 : decode cX8_type 80 = .ok (.lshr, 1) := by decide +kernel
theorem dX8_type_81 : decode cX8_type 81 = .ok (.ldc2_w 77, 3) := by decide +kernel
theorem dX8_type_84 : decode cX8_type 84 = .ok (.land, 1) := by decide +kernel
theorem dX8_type_85 : decode cX8_type 85 = .ok (.l2i, 1) := by decide +kernel
theorem dX8_type_86 : decode cX8_type 86 = .ok (.iastore, 1) := by decide +kernel
theorem dX8_type_87 : decode cX8_type 87 = .ok (.aload_n 0, 1) := by decide +kernel
theorem dX8_type_88 : decode cX8_type 88 = .ok (.dup, 1) := by decide +kernel
theorem dX8_type_89 : decode cX8_type 89 = .ok (.getfield 141, 3) := by decide +kernel
theorem dX8_type_92 : decode cX8_type 92 = .ok (.iconst 1, 1) := by decide +kernel
theorem dX8_type_93 : decode cX8_type 93 = .ok (.iadd, 1) := by decide +kernel
theorem dX8_type_94 : decode cX8_type 94 = .ok (.putfield 141, 3) := by decide +kernel
theorem dX8_type_97 : decode cX8_type 97 = .ok (.iinc 4 (-1), 3) := by decide +kernel
theorem dX8_type_100 : decode cX8_type 100 = .ok (.goto (-39), 3) := by decide +kernel
theorem dX8_type_103 : decode cX8_type 103 = .ok (.aload_n 0, 1) := by decide +kernel
theorem dX8_type_104 : decode cX8_type 104 = .ok (.getfield 141, 3) := by decide +kernel
theorem dX8_type_107 : decode cX8_type 107 = .ok (.ireturn, 1) := by decide +kernel
set_option maxRecDepth 20000 in
theorem ggX8_keep_X8_in : GoodIn wsX8_keep wsX8_in := goodIn_r _ [6] (by decide +kernel) (by decide +kernel)
set_option maxRecDepth 20000 in
theorem gX8_keep_X8_in : GoodIn wsX8_keep (va_wsS RX8 133 yX8_in wsX8_in) := goodIn_app (goodIn_of _ (by decide +kernel)) ggX8_keep_X8_in
set_option maxRecDepth 20000 in
theorem ggX8_keep_X8_refuses : GoodIn wsX8_keep wsX8_refuses := goodIn_r _ [10, 1, 11, 12, 13, 14, 15, 16, 17, 18, 19, 20, 21, 22, 23, 24, 25, 26, 27, 28, 29, 30, 31, 32, 33] (by decide +kernel) (by decide +kernel)
set_option maxRecDepth 20000 in
theorem gX8_keep_X8_refuses : GoodIn wsX8_keep (wsV RX8 137 RX8 yX8_refuses wsX8_refuses) := goodIn_app (goodIn_of _ (by decide +kernel)) ggX8_keep_X8_refuses
theorem dX8_keep_0 : decode cX8_keep 0 = .ok (.aload_n 0, 1) := by decide +kernel
theorem dX8_keep_1 : decode cX8_keep 1 = .ok (.iconst 0, 1) := by decide +kernel
theorem dX8_keep_2 : decode cX8_keep 2 = .ok (.putfield 63, 3) := by decide +kernel
theorem dX8_keep_5 : decode cX8_keep 5 = .ok (.aload_n 0, 1) := by decide +kernel
theorem dX8_keep_6 : decode cX8_keep 6 = .ok (.iload_n 1, 1) := by decide +kernel
theorem dX8_keep_7 : decode cX8_keep 7 = .ok (.i2l, 1) := by decide +kernel
theorem dX8_keep_8 : decode cX8_keep 8 = .ok (.lconst 0, 1) := by decide +kernel
theorem dX8_keep_9 : decode cX8_keep 9 = .ok (.aload_n 0, 1) := by decide +kernel
theorem dX8_keep_10 : decode cX8_keep 10 = .ok (.getfield 141, 3) := by decide +kernel
theorem dX8_keep_13 : decode cX8_keep 13 = .ok (.i2l, 1) := by decide +kernel
theorem dX8_keep_14 : decode cX8_keep 14 = .ok (.invokestatic 133, 3) := by decide +kernel
theorem dX8_keep_17 : decode cX8_keep 17 = .ok (.ifCond .ne 7, 3) := by decide +kernel
theorem dX8_keep_20 : decode cX8_keep 20 = .ok (.iconst 1, 1) := by decide +kernel
theorem dX8_keep_21 : decode cX8_keep 21 = .ok (.goto 4, 3) := by decide +kernel
theorem dX8_keep_24 : decode cX8_keep 24 = .ok (.iconst 0, 1) := by decide +kernel
theorem dX8_keep_25 : decode cX8_keep 25 = .ok (.iconst 1, 1) := by decide +kernel
theorem dX8_keep_26 : decode cX8_keep 26 = .ok (.invokevirtual 137, 3) := by decide +kernel
theorem dX8_keep_29 : decode cX8_keep 29 = .ok (.ifCond .ne 8, 3) := by decide +kernel
theorem dX8_keep_32 : decode cX8_keep 32 = .ok (.aload_n 0, 1) := by decide +kernel
theorem dX8_keep_33 : decode cX8_keep 33 = .ok (.iload_n 1, 1) := by decide +kernel
theorem dX8_keep_34 : decode cX8_keep 34 = .ok (.putfield 141, 3) := by decide +kernel
theorem dX8_keep_37 : decode cX8_keep 37 = .ok (.return_, 1) := by decide +kernel
set_option maxRecDepth 20000 in
theorem ggX8_typed_X8_in : GoodIn wsX8_typed wsX8_in := goodIn_r _ [7] (by decide +kernel) (by decide +kernel)
set_option maxRecDepth 20000 in
theorem gX8_typed_X8_in : GoodIn wsX8_typed (va_wsS RX8 133 yX8_in wsX8_in) := goodIn_app (goodIn_of _ (by decide +kernel)) ggX8_typed_X8_in
set_option maxRecDepth 20000 in
theorem ggX8_typed_X8_refuses : GoodIn wsX8_typed wsX8_refuses := goodIn_r _ [11, 1, 12, 13, 14, 15, 16, 17, 18, 19, 20, 21, 22, 23, 24, 25, 26, 27, 28, 29, 30, 31, 32, 33, 34] (by decide +kernel) (by decide +kernel)
set_option maxRecDepth 20000 in
theorem gX8_typed_X8_refuses : GoodIn wsX8_typed (wsV RX8 137 RX8 yX8_refuses wsX8_refuses) := goodIn_app (goodIn_of _ (by decide +kernel)) ggX8_typed_X8_refuses
theorem dX8_typed_0 : decode cX8_typed 0 = .ok (.aload_n 0, 1) := by decide +kernel
theorem dX8_typed_1 : decode cX8_typed 1 = .ok (.iconst 0, 1) := by decide +kernel
theorem dX8_typed_2 : decode cX8_typed 2 = .ok (.putfield 63, 3) := by decide +kernel
theorem dX8_typed_5 : decode cX8_typed 5 = .ok (.aload_n 0, 1) := by decide +kernel
theorem dX8_typed_6 : decode cX8_typed 6 = .ok (.iload_n 1, 1) := by decide +kernel
theorem dX8_typed_7 : decode cX8_typed 7 = .ok (.i2l, 1) := by decide +kernel
theorem dX8_typed_8 : decode cX8_typed 8 = .ok (.lconst 0, 1) := by decide +kernel
theorem dX8_typed_9 : decode cX8_typed 9 = .ok (.aload_n 0, 1) := by decide +kernel
theorem dX8_typed_10 : decode cX8_typed 10 = .ok (.getfield 141, 3) := by decide +kernel
theorem dX8_typed_13 : decode cX8_typed 13 = .ok (.iconst 1, 1) := by decide +kernel
theorem dX8_typed_14 : decode cX8_typed 14 = .ok (.isub, 1) := by decide +kernel
theorem dX8_typed_15 : decode cX8_typed 15 = .ok (.i2l, 1) := by decide +kernel
theorem dX8_typed_16 : decode cX8_typed 16 = .ok (.invokestatic 133, 3) := by decide +kernel
theorem dX8_typed_19 : decode cX8_typed 19 = .ok (.ifCond .ne 7, 3) := by decide +kernel
theorem dX8_typed_22 : decode cX8_typed 22 = .ok (.iconst 1, 1) := by decide +kernel
theorem dX8_typed_23 : decode cX8_typed 23 = .ok (.goto 4, 3) := by decide +kernel
theorem dX8_typed_26 : decode cX8_typed 26 = .ok (.iconst 0, 1) := by decide +kernel
theorem dX8_typed_27 : decode cX8_typed 27 = .ok (.iconst 1, 1) := by decide +kernel
theorem dX8_typed_28 : decode cX8_typed 28 = .ok (.invokevirtual 137, 3) := by decide +kernel
theorem dX8_typed_31 : decode cX8_typed 31 = .ok (.ifCond .eq 7, 3) := by decide +kernel
theorem dX8_typed_34 : decode cX8_typed 34 = .ok (.iconst 0, 1) := by decide +kernel
theorem dX8_typed_35 : decode cX8_typed 35 = .ok (.goto 9, 3) := by decide +kernel
theorem dX8_typed_38 : decode cX8_typed 38 = .ok (.aload_n 0, 1) := by decide +kernel
theorem dX8_typed_39 : decode cX8_typed 39 = .ok (.getfield 7, 3) := by decide +kernel
theorem dX8_typed_42 : decode cX8_typed 42 = .ok (.iload_n 1, 1) := by decide +kernel
theorem dX8_typed_43 : decode cX8_typed 43 = .ok (.iaload, 1) := by decide +kernel
theorem dX8_typed_44 : decode cX8_typed 44 = .ok (.ireturn, 1) := by decide +kernel
set_option maxRecDepth 20000 in
theorem ggX8_key_X8_refuses : GoodIn wsX8_key wsX8_refuses := goodIn_r _ [10, 1, 11, 12, 13, 14, 15, 16, 17, 18, 19, 20, 21, 22, 23, 24, 25, 26, 27, 28, 29, 30, 31, 32, 33] (by decide +kernel) (by decide +kernel)
set_option maxRecDepth 20000 in
theorem gX8_key_X8_refuses : GoodIn wsX8_key (wsV RX8 137 RX8 yX8_refuses wsX8_refuses) := goodIn_app (goodIn_of _ (by decide +kernel)) ggX8_key_X8_refuses
theorem dX8_key_0 : decode cX8_key 0 = .ok (.aload_n 0, 1) := by decide +kernel
theorem dX8_key_1 : decode cX8_key 1 = .ok (.iconst 0, 1) := by decide +kernel
theorem dX8_key_2 : decode cX8_key 2 = .ok (.putfield 63, 3) := by decide +kernel
theorem dX8_key_5 : decode cX8_key 5 = .ok (.aload_n 0, 1) := by decide +kernel
theorem dX8_key_6 : decode cX8_key 6 = .ok (.aload_n 0, 1) := by decide +kernel
theorem dX8_key_7 : decode cX8_key 7 = .ok (.getfield 141, 3) := by decide +kernel
theorem dX8_key_10 : decode cX8_key 10 = .ok (.bipush 16, 2) := by decide +kernel
theorem dX8_key_12 : decode cX8_key 12 = .ok (.if_icmp .eq 25, 3) := by decide +kernel
theorem dX8_key_15 : decode cX8_key 15 = .ok (.aload_n 0, 1) := by decide +kernel
theorem dX8_key_16 : decode cX8_key 16 = .ok (.getfield 141, 3) := by decide +kernel
theorem dX8_key_19 : decode cX8_key 19 = .ok (.bipush 24, 2) := by decide +kernel
theorem dX8_key_21 : decode cX8_key 21 = .ok (.if_icmp .eq 16, 3) := by decide +kernel
theorem dX8_key_24 : decode cX8_key 24 = .ok (.aload_n 0, 1) := by decide +kernel
theorem dX8_key_25 : decode cX8_key 25 = .ok (.getfield 141, 3) := by decide +kernel
theorem dX8_key_28 : decode cX8_key 28 = .ok (.bipush 32, 2) := by decide +kernel
theorem dX8_key_30 : decode cX8_key 30 = .ok (.if_icmp .eq 7, 3) := by decide +kernel
theorem dX8_key_33 : decode cX8_key 33 = .ok (.iconst 1, 1) := by decide +kernel
theorem dX8_key_34 : decode cX8_key 34 = .ok (.goto 4, 3) := by decide +kernel
theorem dX8_key_37 : decode cX8_key 37 = .ok (.iconst 0, 1) := by decide +kernel
theorem dX8_key_38 : decode cX8_key 38 = .ok (.iconst 1, 1) := by decide +kernel
theorem dX8_key_39 : decode cX8_key 39 = .ok (.invokevirtual 137, 3) := by decide +kernel
theorem dX8_key_42 : decode cX8_key 42 = .ok (.ifCond .eq 5, 3) := by decide +kernel
theorem dX8_key_45 : decode cX8_key 45 = .ok (.iconst 0, 1) := by decide +kernel
theorem dX8_key_46 : decode cX8_key 46 = .ok (.ireturn, 1) := by decide +kernel
theorem dX8_key_47 : decode cX8_key 47 = .ok (.aload_n 0, 1) := by decide +kernel
theorem dX8_key_48 : decode cX8_key 48 = .ok (.aload_n 0, 1) := by decide +kernel
theorem dX8_key_49 : decode cX8_key 49 = .ok (.getfield 141, 3) := by decide +kernel
theorem dX8_key_52 : decode cX8_key 52 = .ok (.putfield 13, 3) := by decide +kernel
theorem dX8_key_55 : decode cX8_key 55 = .ok (.iconst 0, 1) := by decide +kernel
theorem dX8_key_56 : decode cX8_key 56 = .ok (.istore_n 1, 1) := by decide +kernel
theorem dX8_key_57 : decode cX8_key 57 = .ok (.iload_n 1, 1) := by decide +kernel
theorem dX8_key_58 : decode cX8_key 58 = .ok (.aload_n 0, 1) := by decide +kernel
theorem dX8_key_59 : decode cX8_key 59 = .ok (.getfield 141, 3) := by decide +kernel
theorem dX8_key_62 : decode cX8_key 62 = .ok (.if_icmp .ge 21, 3) := by decide +kernel
theorem dX8_key_65 : decode cX8_key 65 = .ok (.aload_n 0, 1) := by decide +kernel
theorem dX8_key_66 : decode cX8_key 66 = .ok (.getfield 17, 3) := by decide +kernel
theorem dX8_key_69 : decode cX8_key 69 = .ok (.iload_n 1, 1) := by decide +kernel
theorem dX8_key_70 : decode cX8_key 70 = .ok (.aload_n 0, 1) := by decide +kernel
theorem dX8_key_71 : decode cX8_key 71 = .ok (.getfield 7, 3) := by decide +kernel
theorem dX8_key_74 : decode cX8_key 74 = .ok (.iload_n 1, 1) := by decide +kernel
theorem dX8_key_75 : decode cX8_key 75 = .ok (.iaload, 1) := by decide +kernel
theorem dX8_key_76 : decode cX8_key 76 = .ok (.iastore, 1) := by decide +kernel
theorem dX8_key_77 : decode cX8_key 77 = .ok (.iinc 1 1, 3) := by decide +kernel
theorem dX8_key_80 : decode cX8_key 80 = .ok (.goto (-23), 3) := by decide +kernel
theorem dX8_key_83 : decode cX8_key 83 = .ok (.aload_n 0, 1) := by decide +kernel
theorem dX8_key_84 : decode cX8_key 84 = .ok (.iconst 0, 1) := by decide +kernel
theorem dX8_key_85 : decode cX8_key 85 = .ok (.putfield 141, 3) := by decide +kernel
theorem dX8_key_88 : decode cX8_key 88 = .ok (.aload_n 0, 1) := by decide +kernel
theorem dX8_key_89 : decode cX8_key 89 = .ok (.getfield 13, 3) := by decide +kernel
theorem dX8_key_92 : decode cX8_key 92 = .ok (.iconst 4, 1) := by decide +kernel
theorem dX8_key_93 : decode cX8_key 93 = .ok (.idiv, 1) := by decide +kernel
theorem dX8_key_94 : decode cX8_key 94 = .ok (.bipush 6, 2) := by decide +kernel
theorem dX8_key_96 : decode cX8_key 96 = .ok (.iadd, 1) := by decide +kernel
theorem dX8_key_97 : decode cX8_key 97 = .ok (.ireturn, 1) := by decide +kernel
set_option maxRecDepth 20000 in
theorem ggX8_tweak_X8_refuses : GoodIn wsX8_tweak wsX8_refuses := goodIn_r _ [10, 1, 11, 12, 13, 14, 15, 16, 17, 18, 19, 20, 21, 22, 23, 24, 25, 26, 27, 28, 29, 30, 31, 32, 33] (by decide +kernel) (by decide +kernel)
set_option maxRecDepth 20000 in
theorem gX8_tweak_X8_refuses : GoodIn wsX8_tweak (wsV RX8 137 RX8 yX8_refuses wsX8_refuses) := goodIn_app (goodIn_of _ (by decide +kernel)) ggX8_tweak_X8_refuses
theorem dX8_tweak_0 : decode cX8_tweak 0 = .ok (.aload_n 0, 1) := by decide +kernel
theorem dX8_tweak_1 : decode cX8_tweak 1 = .ok (.iconst 0, 1) := by decide +kernel
theorem dX8_tweak_2 : decode cX8_tweak 2 = .ok (.putfield 63, 3) := by decide +kernel
theorem dX8_tweak_5 : decode cX8_tweak 5 = .ok (.aload_n 0, 1) := by decide +kernel
theorem dX8_tweak_6 : decode cX8_tweak 6 = .ok (.aload_n 0, 1) := by decide +kernel
theorem dX8_tweak_7 : decode cX8_tweak 7 = .ok (.getfield 141, 3) := by decide +kernel
theorem dX8_tweak_10 : decode cX8_tweak 10 = .ok (.bipush 32, 2) := by decide +kernel
theorem dX8_tweak_12 : decode cX8_tweak 12 = .ok (.if_icmp .le 7, 3) := by decide +kernel
theorem dX8_tweak_15 : decode cX8_tweak 15 = .ok (.iconst 1, 1) := by decide +kernel
theorem dX8_tweak_16 : decode cX8_tweak 16 = .ok (.goto 4, 3) := by decide +kernel
theorem dX8_tweak_19 : decode cX8_tweak 19 = .ok (.iconst 0, 1) := by decide +kernel
theorem dX8_tweak_20 : decode cX8_tweak 20 = .ok (.iconst 1, 1) := by decide +kernel
theorem dX8_tweak_21 : decode cX8_tweak 21 = .ok (.invokevirtual 137, 3) := by decide +kernel
theorem dX8_tweak_24 : decode cX8_tweak 24 = .ok (.ifCond .eq 5, 3) := by decide +kernel
theorem dX8_tweak_27 : decode cX8_tweak 27 = .ok (.iconst 0, 1) := by decide +kernel
theorem dX8_tweak_28 : decode cX8_tweak 28 = .ok (.ireturn, 1) := by decide +kernel
theorem dX8_tweak_29 : decode cX8_tweak 29 = .ok (.aload_n 0, 1) := by decide +kernel
theorem dX8_tweak_30 : decode cX8_tweak 30 = .ok (.aload_n 0, 1) := by decide +kernel
theorem dX8_tweak_31 : decode cX8_tweak 31 = .ok (.getfield 141, 3) := by decide +kernel
theorem dX8_tweak_34 : decode cX8_tweak 34 = .ok (.putfield 95, 3) := by decide +kernel
theorem dX8_tweak_37 : decode cX8_tweak 37 = .ok (.iconst 0, 1) := by decide +kernel
theorem dX8_tweak_38 : decode cX8_tweak 38 = .ok (.istore_n 1, 1) := by decide +kernel
theorem dX8_tweak_39 : decode cX8_tweak 39 = .ok (.iload_n 1, 1) := by decide +kernel
theorem dX8_tweak_40 : decode cX8_tweak 40 = .ok (.aload_n 0, 1) := by decide +kernel
theorem dX8_tweak_41 : decode cX8_tweak 41 = .ok (.getfield 141, 3) := by decide +kernel
theorem dX8_tweak_44 : decode cX8_tweak 44 = .ok (.if_icmp .ge 21, 3) := by decide +kernel
theorem dX8_tweak_47 : decode cX8_tweak 47 = .ok (.aload_n 0, 1) := by decide +kernel
theorem dX8_tweak_48 : decode cX8_tweak 48 = .ok (.getfield 20, 3) := by decide +kernel
theorem dX8_tweak_51 : decode cX8_tweak 51 = .ok (.iload_n 1, 1) := by decide +kernel
theorem dX8_tweak_52 : decode cX8_tweak 52 = .ok (.aload_n 0, 1) := by decide +kernel
theorem dX8_tweak_53 : decode cX8_tweak 53 = .ok (.getfield 7, 3) := by decide +kernel
theorem dX8_tweak_56 : decode cX8_tweak 56 = .ok (.iload_n 1, 1) := by decide +kernel
theorem dX8_tweak_57 : decode cX8_tweak 57 = .ok (.iaload, 1) := by decide +kernel
theorem dX8_tweak_58 : decode cX8_tweak 58 = .ok (.iastore, 1) := by decide +kernel
theorem dX8_tweak_59 : decode cX8_tweak 59 = .ok (.iinc 1 1, 3) := by decide +kernel
theorem dX8_tweak_62 : decode cX8_tweak 62 = .ok (.goto (-23), 3) := by decide +kernel
theorem dX8_tweak_65 : decode cX8_tweak 65 = .ok (.aload_n 0, 1) := by decide +kernel
theorem dX8_tweak_66 : decode cX8_tweak 66 = .ok (.iconst 0, 1) := by decide +kernel
theorem dX8_tweak_67 : decode cX8_tweak 67 = .ok (.putfield 141, 3) := by decide +kernel
theorem dX8_tweak_70 : decode cX8_tweak 70 = .ok (.aload_n 0, 1) := by decide +kernel
theorem dX8_tweak_71 : decode cX8_tweak 71 = .ok (.getfield 95, 3) := by decide +kernel
theorem dX8_tweak_74 : decode cX8_tweak 74 = .ok (.ireturn, 1) := by decide +kernel
set_option maxRecDepth 20000 in
theorem ggX8_block_X8_refuses : GoodIn wsX8_block wsX8_refuses := goodIn_r _ [9, 1, 31, 32, 33, 34, 35, 36, 37, 38, 39, 40, 41, 42, 43, 44, 45, 46, 47, 48, 49, 50, 51, 52, 53] (by decide +kernel) (by decide +kernel)
set_option maxRecDepth 20000 in
theorem gX8_block_X8_refuses : GoodIn wsX8_block (wsV RX8 137 RX8 yX8_refuses wsX8_refuses) := goodIn_app (goodIn_of _ (by decide +kernel)) ggX8_block_X8_refuses
set_option maxRecDepth 20000 in
theorem ggX8_block_X8_makeWords : GoodIn wsX8_block wsX8_makeWords := goodIn_r _ [13, 14, 15, 16, 17, 18, 19, 20, 8, 21, 31, 32, 33, 34, 35, 36, 37, 38, 39, 40, 41, 42, 43, 44, 45, 46, 47, 48, 49, 50, 51, 52, 53] (by decide +kernel) (by decide +kernel)
set_option maxRecDepth 20000 in
theorem gX8_block_X8_makeWords : GoodIn wsX8_block (wsV RX8 107 RX8 yX8_makeWords wsX8_makeWords) := goodIn_app (goodIn_of _ (by decide +kernel)) ggX8_block_X8_makeWords
set_option maxRecDepth 20000 in
theorem ggX8_block_X8_encipher : GoodIn wsX8_block wsX8_encipher := goodIn_r _ [25, 15, 26, 18, 3, 27, 28, 29, 8, 30, 16, 19, 20, 21, 31, 32, 33, 34, 35, 36, 37, 38, 39, 40, 41, 42, 43, 44, 45, 46, 47, 48, 49, 50, 51, 52, 53] (by decide +kernel) (by decide +kernel)
set_option maxRecDepth 20000 in
theorem gX8_block_X8_encipher : GoodIn wsX8_block (wsV RX8 101 RX8 yX8_encipher wsX8_encipher) := goodIn_app (goodIn_of _ (by decide +kernel)) ggX8_block_X8_encipher
theorem dX8_block_0 : decode cX8_block 0 = .ok (.aload_n 0, 1) := by decide +kernel
theorem dX8_block_1 : decode cX8_block 1 = .ok (.iconst 0, 1) := by decide +kernel
theorem dX8_block_2 : decode cX8_block 2 = .ok (.putfield 63, 3) := by decide +kernel
theorem dX8_block_5 : decode cX8_block 5 = .ok (.aload_n 0, 1) := by decide +kernel
theorem dX8_block_6 : decode cX8_block 6 = .ok (.aload_n 0, 1) := by decide +kernel
theorem dX8_block_7 : decode cX8_block 7 = .ok (.getfield 141, 3) := by decide +kernel
theorem dX8_block_10 : decode cX8_block 10 = .ok (.bipush 16, 2) := by decide +kernel
theorem dX8_block_12 : decode cX8_block 12 = .ok (.if_icmp .eq 7, 3) := by decide +kernel
theorem dX8_block_15 : decode cX8_block 15 = .ok (.iconst 1, 1) := by decide +kernel
theorem dX8_block_16 : decode cX8_block 16 = .ok (.goto 4, 3) := by decide +kernel
theorem dX8_block_19 : decode cX8_block 19 = .ok (.iconst 0, 1) := by decide +kernel
theorem dX8_block_20 : decode cX8_block 20 = .ok (.iconst 1, 1) := by decide +kernel
theorem dX8_block_21 : decode cX8_block 21 = .ok (.invokevirtual 137, 3) := by decide +kernel
theorem dX8_block_24 : decode cX8_block 24 = .ok (.ifCond .eq 4, 3) := by decide +kernel
theorem dX8_block_27 : decode cX8_block 27 = .ok (.return_, 1) := by decide +kernel
theorem dX8_block_28 : decode cX8_block 28 = .ok (.aload_n 0, 1) := by decide +kernel
theorem dX8_block_29 : decode cX8_block 29 = .ok (.iconst 0, 1) := by decide +kernel
theorem dX8_block_30 : decode cX8_block 30 = .ok (.invokevirtual 107, 3) := by decide +kernel
theorem dX8_block_33 : decode cX8_block 33 = .ok (.iconst 0, 1) := by decide +kernel
theorem dX8_block_34 : decode cX8_block 34 = .ok (.istore_n 1, 1) := by decide +kernel
theorem dX8_block_35 : decode cX8_block 35 = .ok (.iload_n 1, 1) := by decide +kernel
theorem dX8_block_36 : decode cX8_block 36 = .ok (.bipush 16, 2) := by decide +kernel
theorem dX8_block_38 : decode cX8_block 38 = .ok (.if_icmp .ge 21, 3) := by decide +kernel
theorem dX8_block_41 : decode cX8_block 41 = .ok (.aload_n 0, 1) := by decide +kernel
theorem dX8_block_42 : decode cX8_block 42 = .ok (.getfield 35, 3) := by decide +kernel
theorem dX8_block_45 : decode cX8_block 45 = .ok (.iload_n 1, 1) := by decide +kernel
theorem dX8_block_46 : decode cX8_block 46 = .ok (.aload_n 0, 1) := by decide +kernel
theorem dX8_block_47 : decode cX8_block 47 = .ok (.getfield 7, 3) := by decide +kernel
theorem dX8_block_50 : decode cX8_block 50 = .ok (.iload_n 1, 1) := by decide +kernel
theorem dX8_block_51 : decode cX8_block 51 = .ok (.iaload, 1) := by decide +kernel
theorem dX8_block_52 : decode cX8_block 52 = .ok (.iastore, 1) := by decide +kernel
theorem dX8_block_53 : decode cX8_block 53 = .ok (.iinc 1 1, 3) := by decide +kernel
theorem dX8_block_56 : decode cX8_block 56 = .ok (.goto (-21), 3) := by decide +kernel
theorem dX8_block_59 : decode cX8_block 59 = .ok (.aload_n 0, 1) := by decide +kernel
theorem dX8_block_60 : decode cX8_block 60 = .ok (.invokevirtual 101, 3) := by decide +kernel
theorem dX8_block_63 : decode cX8_block 63 = .ok (.iconst 0, 1) := by decide +kernel
theorem dX8_block_64 : decode cX8_block 64 = .ok (.istore_n 1, 1) := by decide +kernel
theorem dX8_block_65 : decode cX8_block 65 = .ok (.iload_n 1, 1) := by decide +kernel
theorem dX8_block_66 : decode cX8_block 66 = .ok (.bipush 16, 2) := by decide +kernel
theorem dX8_block_68 : decode cX8_block 68 = .ok (.if_icmp .ge 21, 3) := by decide +kernel
theorem dX8_block_71 : decode cX8_block 71 = .ok (.aload_n 0, 1) := by decide +kernel
theorem dX8_block_72 : decode cX8_block 72 = .ok (.getfield 7, 3) := by decide +kernel
theorem dX8_block_75 : decode cX8_block 75 = .ok (.iload_n 1, 1) := by decide +kernel
theorem dX8_block_76 : decode cX8_block 76 = .ok (.aload_n 0, 1) := by decide +kernel
theorem dX8_block_77 : decode cX8_block 77 = .ok (.getfield 35, 3) := by decide +kernel
theorem dX8_block_80 : decode cX8_block 80 = .ok (.iload_n 1, 1) := by decide +kernel
theorem dX8_block_81 : decode cX8_block 81 = .ok (.iaload, 1) := by decide +kernel
theorem dX8_block_82 : decode cX8_block 82 = .ok (.iastore, 1) := by decide +kernel
theorem dX8_block_83 : decode cX8_block 83 = .ok (.iinc 1 1, 3) := by decide +kernel
theorem dX8_block_86 : decode cX8_block 86 = .ok (.goto (-21), 3) := by decide +kernel
theorem dX8_block_89 : decode cX8_block 89 = .ok (.return_, 1) := by decide +kernel
set_option maxRecDepth 20000 in
theorem ggX8_radix_X8_in : GoodIn wsX8_radix wsX8_in := goodIn_r _ [9] (by decide +kernel) (by decide +kernel)
set_option maxRecDepth 20000 in
theorem gX8_radix_X8_in : GoodIn wsX8_radix (va_wsS RX8 133 yX8_in wsX8_in) := goodIn_app (goodIn_of _ (by decide +kernel)) ggX8_radix_X8_in
set_option maxRecDepth 20000 in
theorem ggX8_radix_X8_refuses : GoodIn wsX8_radix wsX8_refuses := goodIn_r _ [13, 1, 14, 15, 16, 17, 18, 19, 20, 21, 22, 23, 24, 25, 26, 27, 28, 29, 30, 31, 32, 33, 34, 35, 36] (by decide +kernel) (by decide +kernel)
set_option maxRecDepth 20000 in
theorem gX8_radix_X8_refuses : GoodIn wsX8_radix (wsV RX8 137 RX8 yX8_refuses wsX8_refuses) := goodIn_app (goodIn_of _ (by decide +kernel)) ggX8_radix_X8_refuses
theorem dX8_radix_0 : decode cX8_radix 0 = .ok (.aload_n 0, 1) := by decide +kernel
theorem dX8_radix_1 : decode cX8_radix 1 = .ok (.iconst 0, 1) := by decide +kernel
theorem dX8_radix_2 : decode cX8_radix 2 = .ok (.putfield 63, 3) := by decide +kernel
theorem dX8_radix_5 : decode cX8_radix 5 = .ok (.aload_n 0, 1) := by decide +kernel
theorem dX8_radix_6 : decode cX8_radix 6 = .ok (.iload_n 1, 1) := by decide +kernel
theorem dX8_radix_7 : decode cX8_radix 7 = .ok (.i2l, 1) := by decide +kernel
theorem dX8_radix_8 : decode cX8_radix 8 = .ok (.ldc2_w 144, 3) := by decide +kernel
theorem dX8_radix_11 : decode cX8_radix 11 = .ok (.ldc2_w 146, 3) := by decide +kernel
theorem dX8_radix_14 : decode cX8_radix 14 = .ok (.invokestatic 133, 3) := by decide +kernel
theorem dX8_radix_17 : decode cX8_radix 17 = .ok (.ifCond .ne 7, 3) := by decide +kernel
theorem dX8_radix_20 : decode cX8_radix 20 = .ok (.iconst 1, 1) := by decide +kernel
theorem dX8_radix_21 : decode cX8_radix 21 = .ok (.goto 4, 3) := by decide +kernel
theorem dX8_radix_24 : decode cX8_radix 24 = .ok (.iconst 0, 1) := by decide +kernel
theorem dX8_radix_25 : decode cX8_radix 25 = .ok (.iconst 1, 1) := by decide +kernel
theorem dX8_radix_26 : decode cX8_radix 26 = .ok (.invokevirtual 137, 3) := by decide +kernel
theorem dX8_radix_29 : decode cX8_radix 29 = .ok (.ifCond .eq 5, 3) := by decide +kernel
theorem dX8_radix_32 : decode cX8_radix 32 = .ok (.iconst 0, 1) := by decide +kernel
theorem dX8_radix_33 : decode cX8_radix 33 = .ok (.ireturn, 1) := by decide +kernel
theorem dX8_radix_34 : decode cX8_radix 34 = .ok (.aload_n 0, 1) := by decide +kernel
theorem dX8_radix_35 : decode cX8_radix 35 = .ok (.getfield 89, 3) := by decide +kernel
theorem dX8_radix_38 : decode cX8_radix 38 = .ok (.istore_n 2, 1) := by decide +kernel
theorem dX8_radix_39 : decode cX8_radix 39 = .ok (.aload_n 0, 1) := by decide +kernel
theorem dX8_radix_40 : decode cX8_radix 40 = .ok (.iload_n 1, 1) := by decide +kernel
theorem dX8_radix_41 : decode cX8_radix 41 = .ok (.putfield 23, 3) := by decide +kernel
theorem dX8_radix_44 : decode cX8_radix 44 = .ok (.aload_n 0, 1) := by decide +kernel
theorem dX8_radix_45 : decode cX8_radix 45 = .ok (.iconst 0, 1) := by decide +kernel
theorem dX8_radix_46 : decode cX8_radix 46 = .ok (.putfield 89, 3) := by decide +kernel
theorem dX8_radix_49 : decode cX8_radix 49 = .ok (.iload_n 2, 1) := by decide +kernel
theorem dX8_radix_50 : decode cX8_radix 50 = .ok (.ireturn, 1) := by decide +kernel
set_option maxRecDepth 20000 in
theorem ggX8_numeral_X8_in : GoodIn wsX8_numeral wsX8_in := goodIn_r _ [8] (by decide +kernel) (by decide +kernel)
set_option maxRecDepth 20000 in
theorem gX8_numeral_X8_in : GoodIn wsX8_numeral (va_wsS RX8 133 yX8_in wsX8_in) := goodIn_app (goodIn_of _ (by decide +kernel)) ggX8_numeral_X8_in
set_option maxRecDepth 20000 in
theorem ggX8_numeral_X8_refuses : GoodIn wsX8_numeral wsX8_refuses := goodIn_r _ [12, 1, 13, 14, 15, 16, 17, 18, 19, 20, 21, 22, 23, 24, 25, 26, 27, 28, 29, 30, 31, 32, 33, 34, 35] (by decide +kernel) (by decide +kernel)
set_option maxRecDepth 20000 in
theorem gX8_numeral_X8_refuses : GoodIn wsX8_numeral (wsV RX8 137 RX8 yX8_refuses wsX8_refuses) := goodIn_app (goodIn_of _ (by decide +kernel)) ggX8_numeral_X8_refuses
theorem dX8_numeral_0 : decode cX8_numeral 0 = .ok (.aload_n 0, 1) := by decide +kernel
theorem dX8_numeral_1 : decode cX8_numeral 1 = .ok (.iconst 0, 1) := by decide +kernel
theorem dX8_numeral_2 : decode cX8_numeral 2 = .ok (.putfield 63, 3) := by decide +kernel
theorem dX8_numeral_5 : decode cX8_numeral 5 = .ok (.aload_n 0, 1) := by decide +kernel
theorem dX8_numeral_6 : decode cX8_numeral 6 = .ok (.iload_n 1, 1) := by decide +kernel
theorem dX8_numeral_7 : decode cX8_numeral 7 = .ok (.i2l, 1) := by decide +kernel
theorem dX8_numeral_8 : decode cX8_numeral 8 = .ok (.lconst 0, 1) := by decide +kernel
theorem dX8_numeral_9 : decode cX8_numeral 9 = .ok (.aload_n 0, 1) := by decide +kernel
theorem dX8_numeral_10 : decode cX8_numeral 10 = .ok (.getfield 23, 3) := by decide +kernel
theorem dX8_numeral_13 : decode cX8_numeral 13 = .ok (.iconst 1, 1) := by decide +kernel
theorem dX8_numeral_14 : decode cX8_numeral 14 = .ok (.isub, 1) := by decide +kernel
theorem dX8_numeral_15 : decode cX8_numeral 15 = .ok (.i2l, 1) := by decide +kernel
theorem dX8_numeral_16 : decode cX8_numeral 16 = .ok (.invokestatic 133, 3) := by decide +kernel
theorem dX8_numeral_19 : decode cX8_numeral 19 = .ok (.ifCond .ne 7, 3) := by decide +kernel
theorem dX8_numeral_22 : decode cX8_numeral 22 = .ok (.iconst 1, 1) := by decide +kernel
theorem dX8_numeral_23 : decode cX8_numeral 23 = .ok (.goto 4, 3) := by decide +kernel
theorem dX8_numeral_26 : decode cX8_numeral 26 = .ok (.iconst 0, 1) := by decide +kernel
theorem dX8_numeral_27 : decode cX8_numeral 27 = .ok (.iconst 1, 1) := by decide +kernel
theorem dX8_numeral_28 : decode cX8_numeral 28 = .ok (.invokevirtual 137, 3) := by decide +kernel
theorem dX8_numeral_31 : decode cX8_numeral 31 = .ok (.ifCond .ne 25, 3) := by decide +kernel
theorem dX8_numeral_34 : decode cX8_numeral 34 = .ok (.aload_n 0, 1) := by decide +kernel
theorem dX8_numeral_35 : decode cX8_numeral 35 = .ok (.aload_n 0, 1) := by decide +kernel
theorem dX8_numeral_36 : decode cX8_numeral 36 = .ok (.getfield 89, 3) := by decide +kernel
theorem dX8_numeral_39 : decode cX8_numeral 39 = .ok (.bipush 64, 2) := by decide +kernel
theorem dX8_numeral_41 : decode cX8_numeral 41 = .ok (.if_icmp .ne 7, 3) := by decide +kernel
theorem dX8_numeral_44 : decode cX8_numeral 44 = .ok (.iconst 1, 1) := by decide +kernel
theorem dX8_numeral_45 : decode cX8_numeral 45 = .ok (.goto 4, 3) := by decide +kernel
theorem dX8_numeral_48 : decode cX8_numeral 48 = .ok (.iconst 0, 1) := by decide +kernel
theorem dX8_numeral_49 : decode cX8_numeral 49 = .ok (.iconst 2, 1) := by decide +kernel
theorem dX8_numeral_50 : decode cX8_numeral 50 = .ok (.invokevirtual 137, 3) := by decide +kernel
theorem dX8_numeral_53 : decode cX8_numeral 53 = .ok (.ifCond .eq 5, 3) := by decide +kernel
theorem dX8_numeral_56 : decode cX8_numeral 56 = .ok (.iconst 0, 1) := by decide +kernel
theorem dX8_numeral_57 : decode cX8_numeral 57 = .ok (.ireturn, 1) := by decide +kernel
theorem dX8_numeral_58 : decode cX8_numeral 58 = .ok (.aload_n 0, 1) := by decide +kernel
theorem dX8_numeral_59 : decode cX8_numeral 59 = .ok (.getfield 26, 3) := by decide +kernel
theorem dX8_numeral_62 : decode cX8_numeral 62 = .ok (.aload_n 0, 1) := by decide +kernel
theorem dX8_numeral_63 : decode cX8_numeral 63 = .ok (.getfield 89, 3) := by decide +kernel
theorem dX8_numeral_66 : decode cX8_numeral 66 = .ok (.iload_n 1, 1) := by decide +kernel
theorem dX8_numeral_67 : decode cX8_numeral 67 = .ok (.iastore, 1) := by decide +kernel
theorem dX8_numeral_68 : decode cX8_numeral 68 = .ok (.aload_n 0, 1) := by decide +kernel
theorem dX8_numeral_69 : decode cX8_numeral 69 = .ok (.dup, 1) := by decide +kernel
theorem dX8_numeral_70 : decode cX8_numeral 70 = .ok (.getfield 89, 3) := by decide +kernel
theorem dX8_numeral_73 : decode cX8_numeral 73 = .ok (.iconst 1, 1) := by decide +kernel
theorem dX8_numeral_74 : decode cX8_numeral 74 = .ok (.iadd, 1) := by decide +kernel
theorem dX8_numeral_75 : decode cX8_numeral 75 = .ok (.putfield 89, 3) := by decide +kernel
theorem dX8_numeral_78 : decode cX8_numeral 78 = .ok (.aload_n 0, 1) := by decide +kernel
theorem dX8_numeral_79 : decode cX8_numeral 79 = .ok (.getfield 89, 3) := by decide +kernel
theorem dX8_numeral_82 : decode cX8_numeral 82 = .ok (.ireturn, 1) := by decide +kernel
set_option maxRecDepth 20000 in
theorem ggX8_cut_X8_in : GoodIn wsX8_cut wsX8_in := goodIn_r _ [6] (by decide +kernel) (by decide +kernel)
set_option maxRecDepth 20000 in
theorem gX8_cut_X8_in : GoodIn wsX8_cut (va_wsS RX8 133 yX8_in wsX8_in) := goodIn_app (goodIn_of _ (by decide +kernel)) ggX8_cut_X8_in
set_option maxRecDepth 20000 in
theorem ggX8_cut_X8_refuses : GoodIn wsX8_cut wsX8_refuses := goodIn_r _ [10, 1, 11, 12, 13, 14, 15, 16, 17, 18, 19, 20, 21, 22, 23, 24, 25, 26, 27, 28, 29, 30, 31, 32, 33] (by decide +kernel) (by decide +kernel)
set_option maxRecDepth 20000 in
theorem gX8_cut_X8_refuses : GoodIn wsX8_cut (wsV RX8 137 RX8 yX8_refuses wsX8_refuses) := goodIn_app (goodIn_of _ (by decide +kernel)) ggX8_cut_X8_refuses
theorem dX8_cut_0 : decode cX8_cut 0 = .ok (.aload_n 0, 1) := by decide +kernel
theorem dX8_cut_1 : decode cX8_cut 1 = .ok (.iconst 0, 1) := by decide +kernel
theorem dX8_cut_2 : decode cX8_cut 2 = .ok (.putfield 63, 3) := by decide +kernel
theorem dX8_cut_5 : decode cX8_cut 5 = .ok (.aload_n 0, 1) := by decide +kernel
theorem dX8_cut_6 : decode cX8_cut 6 = .ok (.iload_n 1, 1) := by decide +kernel
theorem dX8_cut_7 : decode cX8_cut 7 = .ok (.i2l, 1) := by decide +kernel
theorem dX8_cut_8 : decode cX8_cut 8 = .ok (.lconst 0, 1) := by decide +kernel
theorem dX8_cut_9 : decode cX8_cut 9 = .ok (.aload_n 0, 1) := by decide +kernel
theorem dX8_cut_10 : decode cX8_cut 10 = .ok (.getfield 89, 3) := by decide +kernel
theorem dX8_cut_13 : decode cX8_cut 13 = .ok (.i2l, 1) := by decide +kernel
theorem dX8_cut_14 : decode cX8_cut 14 = .ok (.invokestatic 133, 3) := by decide +kernel
theorem dX8_cut_17 : decode cX8_cut 17 = .ok (.ifCond .ne 7, 3) := by decide +kernel
theorem dX8_cut_20 : decode cX8_cut 20 = .ok (.iconst 1, 1) := by decide +kernel
theorem dX8_cut_21 : decode cX8_cut 21 = .ok (.goto 4, 3) := by decide +kernel
theorem dX8_cut_24 : decode cX8_cut 24 = .ok (.iconst 0, 1) := by decide +kernel
theorem dX8_cut_25 : decode cX8_cut 25 = .ok (.iconst 1, 1) := by decide +kernel
theorem dX8_cut_26 : decode cX8_cut 26 = .ok (.invokevirtual 137, 3) := by decide +kernel
theorem dX8_cut_29 : decode cX8_cut 29 = .ok (.ifCond .ne 8, 3) := by decide +kernel
theorem dX8_cut_32 : decode cX8_cut 32 = .ok (.aload_n 0, 1) := by decide +kernel
theorem dX8_cut_33 : decode cX8_cut 33 = .ok (.iload_n 1, 1) := by decide +kernel
theorem dX8_cut_34 : decode cX8_cut 34 = .ok (.putfield 89, 3) := by decide +kernel
theorem dX8_cut_37 : decode cX8_cut 37 = .ok (.return_, 1) := by decide +kernel
set_option maxRecDepth 20000 in
theorem ggX8_set_X8_in : GoodIn wsX8_set wsX8_in := goodIn_r _ [8] (by decide +kernel) (by decide +kernel)
set_option maxRecDepth 20000 in
theorem gX8_set_X8_in : GoodIn wsX8_set (va_wsS RX8 133 yX8_in wsX8_in) := goodIn_app (goodIn_of _ (by decide +kernel)) ggX8_set_X8_in
set_option maxRecDepth 20000 in
theorem ggX8_set_X8_refuses : GoodIn wsX8_set wsX8_refuses := goodIn_r _ [12, 1, 13, 14, 15, 16, 17, 18, 19, 20, 21, 22, 23, 24, 25, 26, 27, 28, 29, 30, 31, 32, 33, 34, 35] (by decide +kernel) (by decide +kernel)
set_option maxRecDepth 20000 in
theorem gX8_set_X8_refuses : GoodIn wsX8_set (wsV RX8 137 RX8 yX8_refuses wsX8_refuses) := goodIn_app (goodIn_of _ (by decide +kernel)) ggX8_set_X8_refuses
theorem dX8_set_0 : decode cX8_set 0 = .ok (.aload_n 0, 1) := by decide +kernel
theorem dX8_set_1 : decode cX8_set 1 = .ok (.iconst 0, 1) := by decide +kernel
theorem dX8_set_2 : decode cX8_set 2 = .ok (.putfield 63, 3) := by decide +kernel
theorem dX8_set_5 : decode cX8_set 5 = .ok (.aload_n 0, 1) := by decide +kernel
theorem dX8_set_6 : decode cX8_set 6 = .ok (.iload_n 1, 1) := by decide +kernel
theorem dX8_set_7 : decode cX8_set 7 = .ok (.i2l, 1) := by decide +kernel
theorem dX8_set_8 : decode cX8_set 8 = .ok (.lconst 0, 1) := by decide +kernel
theorem dX8_set_9 : decode cX8_set 9 = .ok (.aload_n 0, 1) := by decide +kernel
theorem dX8_set_10 : decode cX8_set 10 = .ok (.getfield 89, 3) := by decide +kernel
theorem dX8_set_13 : decode cX8_set 13 = .ok (.iconst 1, 1) := by decide +kernel
theorem dX8_set_14 : decode cX8_set 14 = .ok (.isub, 1) := by decide +kernel
theorem dX8_set_15 : decode cX8_set 15 = .ok (.i2l, 1) := by decide +kernel
theorem dX8_set_16 : decode cX8_set 16 = .ok (.invokestatic 133, 3) := by decide +kernel
theorem dX8_set_19 : decode cX8_set 19 = .ok (.ifCond .ne 7, 3) := by decide +kernel
theorem dX8_set_22 : decode cX8_set 22 = .ok (.iconst 1, 1) := by decide +kernel
theorem dX8_set_23 : decode cX8_set 23 = .ok (.goto 4, 3) := by decide +kernel
theorem dX8_set_26 : decode cX8_set 26 = .ok (.iconst 0, 1) := by decide +kernel
theorem dX8_set_27 : decode cX8_set 27 = .ok (.iconst 1, 1) := by decide +kernel
theorem dX8_set_28 : decode cX8_set 28 = .ok (.invokevirtual 137, 3) := by decide +kernel
theorem dX8_set_31 : decode cX8_set 31 = .ok (.ifCond .ne 32, 3) := by decide +kernel
theorem dX8_set_34 : decode cX8_set 34 = .ok (.aload_n 0, 1) := by decide +kernel
theorem dX8_set_35 : decode cX8_set 35 = .ok (.iload_n 2, 1) := by decide +kernel
theorem dX8_set_36 : decode cX8_set 36 = .ok (.i2l, 1) := by decide +kernel
theorem dX8_set_37 : decode cX8_set 37 = .ok (.lconst 0, 1) := by decide +kernel
theorem dX8_set_38 : decode cX8_set 38 = .ok (.aload_n 0, 1) := by decide +kernel
theorem dX8_set_39 : decode cX8_set 39 = .ok (.getfield 23, 3) := by decide +kernel
theorem dX8_set_42 : decode cX8_set 42 = .ok (.iconst 1, 1) := by decide +kernel
theorem dX8_set_43 : decode cX8_set 43 = .ok (.isub, 1) := by decide +kernel
theorem dX8_set_44 : decode cX8_set 44 = .ok (.i2l, 1) := by decide +kernel
theorem dX8_set_45 : decode cX8_set 45 = .ok (.invokestatic 133, 3) := by decide +kernel
theorem dX8_set_48 : decode cX8_set 48 = .ok (.ifCond .ne 7, 3) := by decide +kernel
theorem dX8_set_51 : decode cX8_set 51 = .ok (.iconst 1, 1) := by decide +kernel
theorem dX8_set_52 : decode cX8_set 52 = .ok (.goto 4, 3) := by decide +kernel
theorem dX8_set_55 : decode cX8_set 55 = .ok (.iconst 0, 1) := by decide +kernel
theorem dX8_set_56 : decode cX8_set 56 = .ok (.iconst 2, 1) := by decide +kernel
theorem dX8_set_57 : decode cX8_set 57 = .ok (.invokevirtual 137, 3) := by decide +kernel
theorem dX8_set_60 : decode cX8_set 60 = .ok (.ifCond .eq 5, 3) := by decide +kernel
theorem dX8_set_63 : decode cX8_set 63 = .ok (.iconst 0, 1) := by decide +kernel
theorem dX8_set_64 : decode cX8_set 64 = .ok (.ireturn, 1) := by decide +kernel
theorem dX8_set_65 : decode cX8_set 65 = .ok (.aload_n 0, 1) := by decide +kernel
theorem dX8_set_66 : decode cX8_set 66 = .ok (.getfield 26, 3) := by decide +kernel
theorem dX8_set_69 : decode cX8_set 69 = .ok (.iload_n 1, 1) := by decide +kernel
theorem dX8_set_70 : decode cX8_set 70 = .ok (.iaload, 1) := by decide +kernel
theorem dX8_set_71 : decode cX8_set 71 = .ok (.istore_n 3, 1) := by decide +kernel
theorem dX8_set_72 : decode cX8_set 72 = .ok (.aload_n 0, 1) := by decide +kernel
theorem dX8_set_73 : decode cX8_set 73 = .ok (.getfield 26, 3) := by decide +kernel
theorem dX8_set_76 : decode cX8_set 76 = .ok (.iload_n 1, 1) := by decide +kernel
theorem dX8_set_77 : decode cX8_set 77 = .ok (.iload_n 2, 1) := by decide +kernel
theorem dX8_set_78 : decode cX8_set 78 = .ok (.iastore, 1) := by decide +kernel
theorem dX8_set_79 : decode cX8_set 79 = .ok (.iload_n 3, 1) := by decide +kernel
theorem dX8_set_80 : decode cX8_set 80 = .ok (.ireturn, 1) := by decide +kernel
set_option maxRecDepth 20000 in
theorem ggX8_at_X8_in : GoodIn wsX8_at wsX8_in := goodIn_r _ [7] (by decide +kernel) (by decide +kernel)
set_option maxRecDepth 20000 in
theorem gX8_at_X8_in : GoodIn wsX8_at (va_wsS RX8 133 yX8_in wsX8_in) := goodIn_app (goodIn_of _ (by decide +kernel)) ggX8_at_X8_in
set_option maxRecDepth 20000 in
theorem ggX8_at_X8_refuses : GoodIn wsX8_at wsX8_refuses := goodIn_r _ [11, 1, 12, 13, 14, 15, 16, 17, 18, 19, 20, 21, 22, 23, 24, 25, 26, 27, 28, 29, 30, 31, 32, 33, 34] (by decide +kernel) (by decide +kernel)
set_option maxRecDepth 20000 in
theorem gX8_at_X8_refuses : GoodIn wsX8_at (wsV RX8 137 RX8 yX8_refuses wsX8_refuses) := goodIn_app (goodIn_of _ (by decide +kernel)) ggX8_at_X8_refuses
