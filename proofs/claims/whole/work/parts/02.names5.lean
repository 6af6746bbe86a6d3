theorem dX8_encipher_89 : decode cX8_encipher 89 = .ok (.iload_n 2, 1) := by decide +kernel
theorem dX8_encipher_90 : decode cX8_encipher 90 = .ok (.iload_n 3, 1) := by decide +kernel
theorem dX8_encipher_91 : decode cX8_encipher 91 = .ok (.iadd, 1) := by decide +kernel
theorem dX8_encipher_92 : decode cX8_encipher 92 = .ok (.iaload, 1) := by decide +kernel
theorem dX8_encipher_93 : decode cX8_encipher 93 = .ok (.istore 4, 2) := by decide +kernel
theorem dX8_encipher_95 : decode cX8_encipher 95 = .ok (.aload_n 0, 1) := by decide +kernel
theorem dX8_encipher_96 : decode cX8_encipher 96 = .ok (.getfield 38, 3) := by decide +kernel
theorem dX8_encipher_99 : decode cX8_encipher 99 = .ok (.iload_n 2, 1) := by decide +kernel
theorem dX8_encipher_100 : decode cX8_encipher 100 = .ok (.iload_n 3, 1) := by decide +kernel
theorem dX8_encipher_101 : decode cX8_encipher 101 = .ok (.iconst 1, 1) := by decide +kernel
theorem dX8_encipher_102 : decode cX8_encipher 102 = .ok (.iadd, 1) := by decide +kernel
theorem dX8_encipher_103 : decode cX8_encipher 103 = .ok (.iconst 4, 1) := by decide +kernel
theorem dX8_encipher_104 : decode cX8_encipher 104 = .ok (.irem, 1) := by decide +kernel
theorem dX8_encipher_105 : decode cX8_encipher 105 = .ok (.iadd, 1) := by decide +kernel
theorem dX8_encipher_106 : decode cX8_encipher 106 = .ok (.iaload, 1) := by decide +kernel
theorem dX8_encipher_107 : decode cX8_encipher 107 = .ok (.istore 5, 2) := by decide +kernel
theorem dX8_encipher_109 : decode cX8_encipher 109 = .ok (.iload 4, 2) := by decide +kernel
theorem dX8_encipher_111 : decode cX8_encipher 111 = .ok (.iconst 2, 1) := by decide +kernel
theorem dX8_encipher_112 : decode cX8_encipher 112 = .ok (.invokestatic 66, 3) := by decide +kernel
theorem dX8_encipher_115 : decode cX8_encipher 115 = .ok (.iload 5, 2) := by decide +kernel
theorem dX8_encipher_117 : decode cX8_encipher 117 = .ok (.iconst 3, 1) := by decide +kernel
theorem dX8_encipher_118 : decode cX8_encipher 118 = .ok (.invokestatic 66, 3) := by decide +kernel
theorem dX8_encipher_121 : decode cX8_encipher 121 = .ok (.ixor, 1) := by decide +kernel
theorem dX8_encipher_122 : decode cX8_encipher 122 = .ok (.aload_n 0, 1) := by decide +kernel
theorem dX8_encipher_123 : decode cX8_encipher 123 = .ok (.getfield 38, 3) := by decide +kernel
theorem dX8_encipher_126 : decode cX8_encipher 126 = .ok (.iload_n 2, 1) := by decide +kernel
theorem dX8_encipher_127 : decode cX8_encipher 127 = .ok (.iload_n 3, 1) := by decide +kernel
theorem dX8_encipher_128 : decode cX8_encipher 128 = .ok (.iconst 2, 1) := by decide +kernel
theorem dX8_encipher_129 : decode cX8_encipher 129 = .ok (.iadd, 1) := by decide +kernel
theorem dX8_encipher_130 : decode cX8_encipher 130 = .ok (.iconst 4, 1) := by decide +kernel
theorem dX8_encipher_131 : decode cX8_encipher 131 = .ok (.irem, 1) := by decide +kernel
theorem dX8_encipher_132 : decode cX8_encipher 132 = .ok (.iadd, 1) := by decide +kernel
theorem dX8_encipher_133 : decode cX8_encipher 133 = .ok (.iaload, 1) := by decide +kernel
theorem dX8_encipher_134 : decode cX8_encipher 134 = .ok (.ixor, 1) := by decide +kernel
theorem dX8_encipher_135 : decode cX8_encipher 135 = .ok (.aload_n 0, 1) := by decide +kernel
theorem dX8_encipher_136 : decode cX8_encipher 136 = .ok (.getfield 38, 3) := by decide +kernel
theorem dX8_encipher_139 : decode cX8_encipher 139 = .ok (.iload_n 2, 1) := by decide +kernel
theorem dX8_encipher_140 : decode cX8_encipher 140 = .ok (.iload_n 3, 1) := by decide +kernel
theorem dX8_encipher_141 : decode cX8_encipher 141 = .ok (.iconst 3, 1) := by decide +kernel
theorem dX8_encipher_142 : decode cX8_encipher 142 = .ok (.iadd, 1) := by decide +kernel
theorem dX8_encipher_143 : decode cX8_encipher 143 = .ok (.iconst 4, 1) := by decide +kernel
theorem dX8_encipher_144 : decode cX8_encipher 144 = .ok (.irem, 1) := by decide +kernel
theorem dX8_encipher_145 : decode cX8_encipher 145 = .ok (.iadd, 1) := by decide +kernel
theorem dX8_encipher_146 : decode cX8_encipher 146 = .ok (.iaload, 1) := by decide +kernel
theorem dX8_encipher_147 : decode cX8_encipher 147 = .ok (.ixor, 1) := by decide +kernel
theorem dX8_encipher_148 : decode cX8_encipher 148 = .ok (.istore 6, 2) := by decide +kernel
theorem dX8_encipher_150 : decode cX8_encipher 150 = .ok (.aload_n 0, 1) := by decide +kernel
theorem dX8_encipher_151 : decode cX8_encipher 151 = .ok (.getfield 35, 3) := by decide +kernel
theorem dX8_encipher_154 : decode cX8_encipher 154 = .ok (.iload_n 2, 1) := by decide +kernel
theorem dX8_encipher_155 : decode cX8_encipher 155 = .ok (.iload_n 3, 1) := by decide +kernel
theorem dX8_encipher_156 : decode cX8_encipher 156 = .ok (.iadd, 1) := by decide +kernel
theorem dX8_encipher_157 : decode cX8_encipher 157 = .ok (.iload_n 1, 1) := by decide +kernel
theorem dX8_encipher_158 : decode cX8_encipher 158 = .ok (.aload_n 0, 1) := by decide +kernel
theorem dX8_encipher_159 : decode cX8_encipher 159 = .ok (.getfield 70, 3) := by decide +kernel
theorem dX8_encipher_162 : decode cX8_encipher 162 = .ok (.if_icmp .ge 8, 3) := by decide +kernel
theorem dX8_encipher_165 : decode cX8_encipher 165 = .ok (.iload 6, 2) := by decide +kernel
theorem dX8_encipher_167 : decode cX8_encipher 167 = .ok (.goto 5, 3) := by decide +kernel
theorem dX8_encipher_170 : decode cX8_encipher 170 = .ok (.iload 4, 2) := by decide +kernel
theorem dX8_encipher_172 : decode cX8_encipher 172 = .ok (.iastore, 1) := by decide +kernel
theorem dX8_encipher_173 : decode cX8_encipher 173 = .ok (.iinc 3 1, 3) := by decide +kernel
theorem dX8_encipher_176 : decode cX8_encipher 176 = .ok (.goto (-96), 3) := by decide +kernel
theorem dX8_encipher_179 : decode cX8_encipher 179 = .ok (.iinc 2 4, 3) := by decide +kernel
theorem dX8_encipher_182 : decode cX8_encipher 182 = .ok (.goto (-110), 3) := by decide +kernel
theorem dX8_encipher_185 : decode cX8_encipher 185 = .ok (.aload_n 0, 1) := by decide +kernel
theorem dX8_encipher_186 : decode cX8_encipher 186 = .ok (.iload_n 1, 1) := by decide +kernel
theorem dX8_encipher_187 : decode cX8_encipher 187 = .ok (.invokevirtual 73, 3) := by decide +kernel
theorem dX8_encipher_190 : decode cX8_encipher 190 = .ok (.iinc 1 1, 3) := by decide +kernel
theorem dX8_encipher_193 : decode cX8_encipher 193 = .ok (.goto (-186), 3) := by decide +kernel
theorem dX8_encipher_196 : decode cX8_encipher 196 = .ok (.return_, 1) := by decide +kernel
theorem dX8_lay_0 : decode cX8_lay 0 = .ok (.iconst 0, 1) := by decide +kernel
theorem dX8_lay_1 : decode cX8_lay 1 = .ok (.istore 5, 2) := by decide +kernel
theorem dX8_lay_3 : decode cX8_lay 3 = .ok (.iload 5, 2) := by decide +kernel
theorem dX8_lay_5 : decode cX8_lay 5 = .ok (.iload_n 3, 1) := by decide +kernel
theorem dX8_lay_6 : decode cX8_lay 6 = .ok (.if_icmp .ge 17, 3) := by decide +kernel
theorem dX8_lay_9 : decode cX8_lay 9 = .ok (.aload_n 0, 1) := by decide +kernel
theorem dX8_lay_10 : decode cX8_lay 10 = .ok (.getfield 50, 3) := by decide +kernel
theorem dX8_lay_13 : decode cX8_lay 13 = .ok (.iload 5, 2) := by decide +kernel
theorem dX8_lay_15 : decode cX8_lay 15 = .ok (.iconst 0, 1) := by decide +kernel
theorem dX8_lay_16 : decode cX8_lay 16 = .ok (.iastore, 1) := by decide +kernel
theorem dX8_lay_17 : decode cX8_lay 17 = .ok (.iinc 5 1, 3) := by decide +kernel
theorem dX8_lay_20 : decode cX8_lay 20 = .ok (.goto (-17), 3) := by decide +kernel
theorem dX8_lay_23 : decode cX8_lay 23 = .ok (.iconst 0, 1) := by decide +kernel
theorem dX8_lay_24 : decode cX8_lay 24 = .ok (.istore 5, 2) := by decide +kernel
theorem dX8_lay_26 : decode cX8_lay 26 = .ok (.iload 5, 2) := by decide +kernel
theorem dX8_lay_28 : decode cX8_lay 28 = .ok (.iload_n 2, 1) := by decide +kernel
theorem dX8_lay_29 : decode cX8_lay 29 = .ok (.if_icmp .ge 87, 3) := by decide +kernel
theorem dX8_lay_32 : decode cX8_lay 32 = .ok (.aload_n 1, 1) := by decide +kernel
theorem dX8_lay_33 : decode cX8_lay 33 = .ok (.iload 4, 2) := by decide +kernel
theorem dX8_lay_35 : decode cX8_lay 35 = .ok (.ifCond .eq 12, 3) := by decide +kernel
theorem dX8_lay_38 : decode cX8_lay 38 = .ok (.iload_n 2, 1) := by decide +kernel
theorem dX8_lay_39 : decode cX8_lay 39 = .ok (.iconst 1, 1) := by decide +kernel
theorem dX8_lay_40 : decode cX8_lay 40 = .ok (.isub, 1) := by decide +kernel
theorem dX8_lay_41 : decode cX8_lay 41 = .ok (.iload 5, 2) := by decide +kernel
theorem dX8_lay_43 : decode cX8_lay 43 = .ok (.isub, 1) := by decide +kernel
theorem dX8_lay_44 : decode cX8_lay 44 = .ok (.goto 5, 3) := by decide +kernel
theorem dX8_lay_47 : decode cX8_lay 47 = .ok (.iload 5, 2) := by decide +kernel
theorem dX8_lay_49 : decode cX8_lay 49 = .ok (.iaload, 1) := by decide +kernel
theorem dX8_lay_50 : decode cX8_lay 50 = .ok (.istore 6, 2) := by decide +kernel
theorem dX8_lay_52 : decode cX8_lay 52 = .ok (.iload_n 3, 1) := by decide +kernel
theorem dX8_lay_53 : decode cX8_lay 53 = .ok (.iconst 1, 1) := by decide +kernel
theorem dX8_lay_54 : decode cX8_lay 54 = .ok (.isub, 1) := by decide +kernel
theorem dX8_lay_55 : decode cX8_lay 55 = .ok (.istore 7, 2) := by decide +kernel
theorem dX8_lay_57 : decode cX8_lay 57 = .ok (.iload 7, 2) := by decide +kernel
theorem dX8_lay_59 : decode cX8_lay 59 = .ok (.ifCond .lt 51, 3) := by decide +kernel
theorem dX8_lay_62 : decode cX8_lay 62 = .ok (.aload_n 0, 1) := by decide +kernel
theorem dX8_lay_63 : decode cX8_lay 63 = .ok (.getfield 50, 3) := by decide +kernel
theorem dX8_lay_66 : decode cX8_lay 66 = .ok (.iload 7, 2) := by decide +kernel
theorem dX8_lay_68 : decode cX8_lay 68 = .ok (.iaload, 1) := by decide +kernel
theorem dX8_lay_69 : decode cX8_lay 69 = .ok (.i2l, 1) := by decide +kernel
theorem dX8_lay_70 : decode cX8_lay 70 = .ok (.aload_n 0, 1) := by decide +kernel
theorem dX8_lay_71 : decode cX8_lay 71 = .ok (.getfield 23, 3) := by decide +kernel
theorem dX8_lay_74 : decode cX8_lay 74 = .ok (.i2l, 1) := by decide +kernel
theorem dX8_lay_75 : decode cX8_lay 75 = .ok (.lmul, 1) := by decide +kernel
theorem dX8_lay_76 : decode cX8_lay 76 = .ok (.iload 6, 2) := by decide +kernel
theorem dX8_lay_78 : decode cX8_lay 78 = .ok (.i2l, 1) := by decide +kernel
theorem dX8_lay_79 : decode cX8_lay 79 = .ok (.ladd, 1) := by decide +kernel
theorem dX8_lay_80 : decode cX8_lay 80 = .ok (.lstore 8, 2) := by decide +kernel
theorem dX8_lay_82 : decode cX8_lay 82 = .ok (.aload_n 0, 1) := by decide +kernel
theorem dX8_lay_83 : decode cX8_lay 83 = .ok (.getfield 50, 3) := by decide +kernel
theorem dX8_lay_86 : decode cX8_lay 86 = .ok (.iload 7, 2) := by decide +kernel
theorem dX8_lay_88 : decode cX8_lay 88 = .ok (.lload 8, 2) := by decide +kernel
theorem dX8_lay_90 : decode cX8_lay 90 = .ok (.ldc2_w 77, 3) := by decide +kernel
theorem dX8_lay_93 : decode cX8_lay 93 = .ok (.land, 1) := by decide +kernel
theorem dX8_lay_94 : decode cX8_lay 94 = .ok (.l2i, 1) := by decide +kernel
theorem dX8_lay_95 : decode cX8_lay 95 = .ok (.iastore, 1) := by decide +kernel
theorem dX8_lay_96 : decode cX8_lay 96 = .ok (.lload 8, 2) := by decide +kernel
theorem dX8_lay_98 : decode cX8_lay 98 = .ok (.bipush 8, 2) := by decide +kernel
theorem dX8_lay_100 : decode cX8_lay 100 = .ok (.lshr, 1) := by decide +kernel
theorem dX8_lay_101 : decode cX8_lay 101 = .ok (.l2i, 1) := by decide +kernel
theorem dX8_lay_102 : decode cX8_lay 102 = .ok (.istore 6, 2) := by decide +kernel
theorem dX8_lay_104 : decode cX8_lay 104 = .ok (.iinc 7 (-1), 3) := by decide +kernel
theorem dX8_lay_107 : decode cX8_lay 107 = .ok (.goto (-50), 3) := by decide +kernel
theorem dX8_lay_110 : decode cX8_lay 110 = .ok (.iinc 5 1, 3) := by decide +kernel
theorem dX8_lay_113 : decode cX8_lay 113 = .ok (.goto (-87), 3) := by decide +kernel
theorem dX8_lay_116 : decode cX8_lay 116 = .ok (.return_, 1) := by decide +kernel
set_option maxRecDepth 20000 in
theorem ggX8_bytesOf_X8_lay : GoodIn wsX8_bytesOf wsX8_lay := goodIn_r _ [8, 3, 2, 9, 10, 11, 12, 13, 14, 15, 16, 17, 18, 19, 20, 21, 22, 23, 24, 25, 26, 27, 28, 29, 30, 31, 32] (by decide +kernel) (by decide +kernel)
set_option maxRecDepth 20000 in
theorem gX8_bytesOf_X8_lay : GoodIn wsX8_bytesOf (wsV RX8 79 RX8 yX8_lay wsX8_lay) := goodIn_app (goodIn_of _ (by decide +kernel)) ggX8_bytesOf_X8_lay
theorem dX8_bytesOf_0 : decode cX8_bytesOf 0 = .ok (.iconst 0, 1) := by decide +kernel
theorem dX8_bytesOf_1 : decode cX8_bytesOf 1 = .ok (.istore_n 2, 1) := by decide +kernel
theorem dX8_bytesOf_2 : decode cX8_bytesOf 2 = .ok (.iload_n 2, 1) := by decide +kernel
theorem dX8_bytesOf_3 : decode cX8_bytesOf 3 = .ok (.iload_n 1, 1) := by decide +kernel
theorem dX8_bytesOf_4 : decode cX8_bytesOf 4 = .ok (.if_icmp .ge 21, 3) := by decide +kernel
theorem dX8_bytesOf_7 : decode cX8_bytesOf 7 = .ok (.aload_n 0, 1) := by decide +kernel
theorem dX8_bytesOf_8 : decode cX8_bytesOf 8 = .ok (.getfield 47, 3) := by decide +kernel
theorem dX8_bytesOf_11 : decode cX8_bytesOf 11 = .ok (.iload_n 2, 1) := by decide +kernel
theorem dX8_bytesOf_12 : decode cX8_bytesOf 12 = .ok (.aload_n 0, 1) := by decide +kernel
theorem dX8_bytesOf_13 : decode cX8_bytesOf 13 = .ok (.getfield 23, 3) := by decide +kernel
theorem dX8_bytesOf_16 : decode cX8_bytesOf 16 = .ok (.iconst 1, 1) := by decide +kernel
theorem dX8_bytesOf_17 : decode cX8_bytesOf 17 = .ok (.isub, 1) := by decide +kernel
theorem dX8_bytesOf_18 : decode cX8_bytesOf 18 = .ok (.iastore, 1) := by decide +kernel
theorem dX8_bytesOf_19 : decode cX8_bytesOf 19 = .ok (.iinc 2 1, 3) := by decide +kernel
theorem dX8_bytesOf_22 : decode cX8_bytesOf 22 = .ok (.goto (-20), 3) := by decide +kernel
theorem dX8_bytesOf_25 : decode cX8_bytesOf 25 = .ok (.aload_n 0, 1) := by decide +kernel
theorem dX8_bytesOf_26 : decode cX8_bytesOf 26 = .ok (.aload_n 0, 1) := by decide +kernel
theorem dX8_bytesOf_27 : decode cX8_bytesOf 27 = .ok (.getfield 47, 3) := by decide +kernel
theorem dX8_bytesOf_30 : decode cX8_bytesOf 30 = .ok (.iload_n 1, 1) := by decide +kernel
theorem dX8_bytesOf_31 : decode cX8_bytesOf 31 = .ok (.sipush 128, 3) := by decide +kernel
theorem dX8_bytesOf_34 : decode cX8_bytesOf 34 = .ok (.iconst 0, 1) := by decide +kernel
theorem dX8_bytesOf_35 : decode cX8_bytesOf 35 = .ok (.invokevirtual 79, 3) := by decide +kernel
theorem dX8_bytesOf_38 : decode cX8_bytesOf 38 = .ok (.iconst 0, 1) := by decide +kernel
theorem dX8_bytesOf_39 : decode cX8_bytesOf 39 = .ok (.istore_n 2, 1) := by decide +kernel
theorem dX8_bytesOf_40 : decode cX8_bytesOf 40 = .ok (.iload_n 2, 1) := by decide +kernel
theorem dX8_bytesOf_41 : decode cX8_bytesOf 41 = .ok (.sipush 128, 3) := by decide +kernel
theorem dX8_bytesOf_44 : decode cX8_bytesOf 44 = .ok (.if_icmp .ge 18, 3) := by decide +kernel
theorem dX8_bytesOf_47 : decode cX8_bytesOf 47 = .ok (.aload_n 0, 1) := by decide +kernel
theorem dX8_bytesOf_48 : decode cX8_bytesOf 48 = .ok (.getfield 50, 3) := by decide +kernel
theorem dX8_bytesOf_51 : decode cX8_bytesOf 51 = .ok (.iload_n 2, 1) := by decide +kernel
theorem dX8_bytesOf_52 : decode cX8_bytesOf 52 = .ok (.iaload, 1) := by decide +kernel
theorem dX8_bytesOf_53 : decode cX8_bytesOf 53 = .ok (.ifCond .ne 9, 3) := by decide +kernel
theorem dX8_bytesOf_56 : decode cX8_bytesOf 56 = .ok (.iinc 2 1, 3) := by decide +kernel
theorem dX8_bytesOf_59 : decode cX8_bytesOf 59 = .ok (.goto (-19), 3) := by decide +kernel
theorem dX8_bytesOf_62 : decode cX8_bytesOf 62 = .ok (.sipush 128, 3) := by decide +kernel
theorem dX8_bytesOf_65 : decode cX8_bytesOf 65 = .ok (.iload_n 2, 1) := by decide +kernel
theorem dX8_bytesOf_66 : decode cX8_bytesOf 66 = .ok (.isub, 1) := by decide +kernel
theorem dX8_bytesOf_67 : decode cX8_bytesOf 67 = .ok (.ireturn, 1) := by decide +kernel
theorem dX8_takeNumeral_0 : decode cX8_takeNumeral 0 = .ok (.lconst 0, 1) := by decide +kernel
theorem dX8_takeNumeral_1 : decode cX8_takeNumeral 1 = .ok (.lstore_n 2, 1) := by decide +kernel
theorem dX8_takeNumeral_2 : decode cX8_takeNumeral 2 = .ok (.iconst 0, 1) := by decide +kernel
theorem dX8_takeNumeral_3 : decode cX8_takeNumeral 3 = .ok (.istore 4, 2) := by decide +kernel
theorem dX8_takeNumeral_5 : decode cX8_takeNumeral 5 = .ok (.iload 4, 2) := by decide +kernel
theorem dX8_takeNumeral_7 : decode cX8_takeNumeral 7 = .ok (.iload_n 1, 1) := by decide +kernel
theorem dX8_takeNumeral_8 : decode cX8_takeNumeral 8 = .ok (.if_icmp .ge 49, 3) := by decide +kernel
theorem dX8_takeNumeral_11 : decode cX8_takeNumeral 11 = .ok (.lload_n 2, 1) := by decide +kernel
theorem dX8_takeNumeral_12 : decode cX8_takeNumeral 12 = .ok (.bipush 8, 2) := by decide +kernel
theorem dX8_takeNumeral_14 : decode cX8_takeNumeral 14 = .ok (.lshl, 1) := by decide +kernel
theorem dX8_takeNumeral_15 : decode cX8_takeNumeral 15 = .ok (.aload_n 0, 1) := by decide +kernel
theorem dX8_takeNumeral_16 : decode cX8_takeNumeral 16 = .ok (.getfield 56, 3) := by decide +kernel
theorem dX8_takeNumeral_19 : decode cX8_takeNumeral 19 = .ok (.iload 4, 2) := by decide +kernel
theorem dX8_takeNumeral_21 : decode cX8_takeNumeral 21 = .ok (.iaload, 1) := by decide +kernel
theorem dX8_takeNumeral_22 : decode cX8_takeNumeral 22 = .ok (.i2l, 1) := by decide +kernel
theorem dX8_takeNumeral_23 : decode cX8_takeNumeral 23 = .ok (.lor, 1) := by decide +kernel
theorem dX8_takeNumeral_24 : decode cX8_takeNumeral 24 = .ok (.lstore 5, 2) := by decide +kernel
theorem dX8_takeNumeral_26 : decode cX8_takeNumeral 26 = .ok (.aload_n 0, 1) := by decide +kernel
theorem dX8_takeNumeral_27 : decode cX8_takeNumeral 27 = .ok (.getfield 56, 3) := by decide +kernel
theorem dX8_takeNumeral_30 : decode cX8_takeNumeral 30 = .ok (.iload 4, 2) := by decide +kernel
theorem dX8_takeNumeral_32 : decode cX8_takeNumeral 32 = .ok (.lload 5, 2) := by decide +kernel
theorem dX8_takeNumeral_34 : decode cX8_takeNumeral 34 = .ok (.aload_n 0, 1) := by decide +kernel
theorem dX8_takeNumeral_35 : decode cX8_takeNumeral 35 = .ok (.getfield 23, 3) := by decide +kernel
theorem dX8_takeNumeral_38 : decode cX8_takeNumeral 38 = .ok (.i2l, 1) := by decide +kernel
theorem dX8_takeNumeral_39 : decode cX8_takeNumeral 39 = .ok (.ldiv, 1) := by decide +kernel
theorem dX8_takeNumeral_40 : decode cX8_takeNumeral 40 = .ok (.l2i, 1) := by decide +kernel
theorem dX8_takeNumeral_41 : decode cX8_takeNumeral 41 = .ok (.iastore, 1) := by decide +kernel
theorem dX8_takeNumeral_42 : decode cX8_takeNumeral 42 = .ok (.lload 5, 2) := by decide +kernel
theorem dX8_takeNumeral_44 : decode cX8_takeNumeral 44 = .ok (.aload_n 0, 1) := by decide +kernel
theorem dX8_takeNumeral_45 : decode cX8_takeNumeral 45 = .ok (.getfield 23, 3) := by decide +kernel
theorem dX8_takeNumeral_48 : decode cX8_takeNumeral 48 = .ok (.i2l, 1) := by decide +kernel
theorem dX8_takeNumeral_49 : decode cX8_takeNumeral 49 = .ok (.lrem, 1) := by decide +kernel
theorem dX8_takeNumeral_50 : decode cX8_takeNumeral 50 = .ok (.lstore_n 2, 1) := by decide +kernel
theorem dX8_takeNumeral_51 : decode cX8_takeNumeral 51 = .ok (.iinc 4 1, 3) := by decide +kernel
theorem dX8_takeNumeral_54 : decode cX8_takeNumeral 54 = .ok (.goto (-49), 3) := by decide +kernel
theorem dX8_takeNumeral_57 : decode cX8_takeNumeral 57 = .ok (.lload_n 2, 1) := by decide +kernel
theorem dX8_takeNumeral_58 : decode cX8_takeNumeral 58 = .ok (.l2i, 1) := by decide +kernel
theorem dX8_takeNumeral_59 : decode cX8_takeNumeral 59 = .ok (.ireturn, 1) := by decide +kernel
set_option maxRecDepth 20000 in
theorem ggX8_add_X8_takeNumeral : GoodIn wsX8_add wsX8_takeNumeral := goodIn_r _ [7, 8, 1, 9, 10, 11, 12, 13, 14, 15, 16, 17, 18, 19, 20, 21, 22, 23, 24, 25, 26, 27, 28, 29, 30, 31] (by decide +kernel) (by decide +kernel)
set_option maxRecDepth 20000 in
theorem gX8_add_X8_takeNumeral : GoodIn wsX8_add (wsV RX8 83 RX8 yX8_takeNumeral wsX8_takeNumeral) := goodIn_app (goodIn_of _ (by decide +kernel)) ggX8_add_X8_takeNumeral
theorem dX8_add_0 : decode cX8_add 0 = .ok (.iconst 0, 1) := by decide +kernel
theorem dX8_add_1 : decode cX8_add 1 = .ok (.istore 6, 2) := by decide +kernel
theorem dX8_add_3 : decode cX8_add 3 = .ok (.iconst 0, 1) := by decide +kernel
theorem dX8_add_4 : decode cX8_add 4 = .ok (.istore 7, 2) := by decide +kernel
theorem dX8_add_6 : decode cX8_add 6 = .ok (.iload 7, 2) := by decide +kernel
theorem dX8_add_8 : decode cX8_add 8 = .ok (.iload_n 2, 1) := by decide +kernel
theorem dX8_add_9 : decode cX8_add 9 = .ok (.if_icmp .ge 128, 3) := by decide +kernel
theorem dX8_add_12 : decode cX8_add 12 = .ok (.iload 5, 2) := by decide +kernel
theorem dX8_add_14 : decode cX8_add 14 = .ok (.ifCond .eq 8, 3) := by decide +kernel
theorem dX8_add_17 : decode cX8_add 17 = .ok (.iload 7, 2) := by decide +kernel
theorem dX8_add_19 : decode cX8_add 19 = .ok (.goto 9, 3) := by decide +kernel
theorem dX8_add_22 : decode cX8_add 22 = .ok (.iload_n 2, 1) := by decide +kernel
theorem dX8_add_23 : decode cX8_add 23 = .ok (.iconst 1, 1) := by decide +kernel
theorem dX8_add_24 : decode cX8_add 24 = .ok (.isub, 1) := by decide +kernel
theorem dX8_add_25 : decode cX8_add 25 = .ok (.iload 7, 2) := by decide +kernel
theorem dX8_add_27 : decode cX8_add 27 = .ok (.isub, 1) := by decide +kernel
theorem dX8_add_28 : decode cX8_add 28 = .ok (.istore 8, 2) := by decide +kernel
theorem dX8_add_30 : decode cX8_add 30 = .ok (.aload_n 0, 1) := by decide +kernel
theorem dX8_add_31 : decode cX8_add 31 = .ok (.iload_n 3, 1) := by decide +kernel
theorem dX8_add_32 : decode cX8_add 32 = .ok (.invokevirtual 83, 3) := by decide +kernel
theorem dX8_add_35 : decode cX8_add 35 = .ok (.istore 9, 2) := by decide +kernel
theorem dX8_add_37 : decode cX8_add 37 = .ok (.iload 4, 2) := by decide +kernel
theorem dX8_add_39 : decode cX8_add 39 = .ok (.ifCond .eq 16, 3) := by decide +kernel
theorem dX8_add_42 : decode cX8_add 42 = .ok (.aload_n 1, 1) := by decide +kernel
theorem dX8_add_43 : decode cX8_add 43 = .ok (.iload 8, 2) := by decide +kernel
theorem dX8_add_45 : decode cX8_add 45 = .ok (.iaload, 1) := by decide +kernel
theorem dX8_add_46 : decode cX8_add 46 = .ok (.iload 9, 2) := by decide +kernel
theorem dX8_add_48 : decode cX8_add 48 = .ok (.isub, 1) := by decide +kernel
theorem dX8_add_49 : decode cX8_add 49 = .ok (.iload 6, 2) := by decide +kernel
theorem dX8_add_51 : decode cX8_add 51 = .ok (.isub, 1) := by decide +kernel
theorem dX8_add_52 : decode cX8_add 52 = .ok (.goto 13, 3) := by decide +kernel
theorem dX8_add_55 : decode cX8_add 55 = .ok (.aload_n 1, 1) := by decide +kernel
theorem dX8_add_56 : decode cX8_add 56 = .ok (.iload 8, 2) := by decide +kernel
theorem dX8_add_58 : decode cX8_add 58 = .ok (.iaload, 1) := by decide +kernel
theorem dX8_add_59 : decode cX8_add 59 = .ok (.iload 9, 2) := by decide +kernel
theorem dX8_add_61 : decode cX8_add 61 = .ok (.iadd, 1) := by decide +kernel
theorem dX8_add_62 : decode cX8_add 62 = .ok (.iload 6, 2) := by decide +kernel
theorem dX8_add_64 : decode cX8_add 64 = .ok (.iadd, 1) := by decide +kernel
theorem dX8_add_65 : decode cX8_add 65 = .ok (.istore 10, 2) := by decide +kernel
theorem dX8_add_67 : decode cX8_add 67 = .ok (.iload 10, 2) := by decide +kernel
theorem dX8_add_69 : decode cX8_add 69 = .ok (.ifCond .lt 12, 3) := by decide +kernel
theorem dX8_add_72 : decode cX8_add 72 = .ok (.iload 10, 2) := by decide +kernel
theorem dX8_add_74 : decode cX8_add 74 = .ok (.aload_n 0, 1) := by decide +kernel
theorem dX8_add_75 : decode cX8_add 75 = .ok (.getfield 23, 3) := by decide +kernel
theorem dX8_add_78 : decode cX8_add 78 = .ok (.if_icmp .lt 7, 3) := by decide +kernel
theorem dX8_add_81 : decode cX8_add 81 = .ok (.iconst 1, 1) := by decide +kernel
theorem dX8_add_82 : decode cX8_add 82 = .ok (.goto 4, 3) := by decide +kernel
theorem dX8_add_85 : decode cX8_add 85 = .ok (.iconst 0, 1) := by decide +kernel
theorem dX8_add_86 : decode cX8_add 86 = .ok (.istore 6, 2) := by decide +kernel
theorem dX8_add_88 : decode cX8_add 88 = .ok (.aload_n 0, 1) := by decide +kernel
theorem dX8_add_89 : decode cX8_add 89 = .ok (.getfield 47, 3) := by decide +kernel
theorem dX8_add_92 : decode cX8_add 92 = .ok (.iload 8, 2) := by decide +kernel
theorem dX8_add_94 : decode cX8_add 94 = .ok (.iload 10, 2) := by decide +kernel
theorem dX8_add_96 : decode cX8_add 96 = .ok (.ifCond .ge 13, 3) := by decide +kernel
theorem dX8_add_99 : decode cX8_add 99 = .ok (.iload 10, 2) := by decide +kernel
theorem dX8_add_101 : decode cX8_add 101 = .ok (.aload_n 0, 1) := by decide +kernel
theorem dX8_add_102 : decode cX8_add 102 = .ok (.getfield 23, 3) := by decide +kernel
theorem dX8_add_105 : decode cX8_add 105 = .ok (.iadd, 1) := by decide +kernel
theorem dX8_add_106 : decode cX8_add 106 = .ok (.goto 24, 3) := by decide +kernel
theorem dX8_add_109 : decode cX8_add 109 = .ok (.iload 10, 2) := by decide +kernel
theorem dX8_add_111 : decode cX8_add 111 = .ok (.aload_n 0, 1) := by decide +kernel
theorem dX8_add_112 : decode cX8_add 112 = .ok (.getfield 23, 3) := by decide +kernel
theorem dX8_add_115 : decode cX8_add 115 = .ok (.if_icmp .lt 13, 3) := by decide +kernel
theorem dX8_add_118 : decode cX8_add 118 = .ok (.iload 10, 2) := by decide +kernel
theorem dX8_add_120 : decode cX8_add 120 = .ok (.aload_n 0, 1) := by decide +kernel
theorem dX8_add_121 : decode cX8_add 121 = .ok (.getfield 23, 3) := by decide +kernel
theorem dX8_add_124 : decode cX8_add 124 = .ok (.isub, 1) := by decide +kernel
theorem dX8_add_125 : decode cX8_add 125 = .ok (.goto 5, 3) := by decide +kernel
theorem dX8_add_128 : decode cX8_add 128 = .ok (.iload 10, 2) := by decide +kernel
theorem dX8_add_130 : decode cX8_add 130 = .ok (.iastore, 1) := by decide +kernel
theorem dX8_add_131 : decode cX8_add 131 = .ok (.iinc 7 1, 3) := by decide +kernel
theorem dX8_add_134 : decode cX8_add 134 = .ok (.goto (-128), 3) := by decide +kernel
theorem dX8_add_137 : decode cX8_add 137 = .ok (.return_, 1) := by decide +kernel
theorem dX8_part_0 : decode cX8_part 0 = .ok (.aload_n 0, 1) := by decide +kernel
theorem dX8_part_1 : decode cX8_part 1 = .ok (.iload_n 1, 1) := by decide +kernel
theorem dX8_part_2 : decode cX8_part 2 = .ok (.putfield 86, 3) := by decide +kernel
theorem dX8_part_5 : decode cX8_part 5 = .ok (.aload_n 0, 1) := by decide +kernel
theorem dX8_part_6 : decode cX8_part 6 = .ok (.aload_n 0, 1) := by decide +kernel
theorem dX8_part_7 : decode cX8_part 7 = .ok (.getfield 89, 3) := by decide +kernel
theorem dX8_part_10 : decode cX8_part 10 = .ok (.iload_n 1, 1) := by decide +kernel
theorem dX8_part_11 : decode cX8_part 11 = .ok (.isub, 1) := by decide +kernel
theorem dX8_part_12 : decode cX8_part 12 = .ok (.putfield 92, 3) := by decide +kernel
theorem dX8_part_15 : decode cX8_part 15 = .ok (.iconst 0, 1) := by decide +kernel
theorem dX8_part_16 : decode cX8_part 16 = .ok (.istore_n 2, 1) := by decide +kernel
theorem dX8_part_17 : decode cX8_part 17 = .ok (.iload_n 2, 1) := by decide +kernel
theorem dX8_part_18 : decode cX8_part 18 = .ok (.aload_n 0, 1) := by decide +kernel
theorem dX8_part_19 : decode cX8_part 19 = .ok (.getfield 89, 3) := by decide +kernel
theorem dX8_part_22 : decode cX8_part 22 = .ok (.if_icmp .ge 43, 3) := by decide +kernel
theorem dX8_part_25 : decode cX8_part 25 = .ok (.iload_n 2, 1) := by decide +kernel
theorem dX8_part_26 : decode cX8_part 26 = .ok (.iload_n 1, 1) := by decide +kernel
theorem dX8_part_27 : decode cX8_part 27 = .ok (.if_icmp .ge 18, 3) := by decide +kernel
theorem dX8_part_30 : decode cX8_part 30 = .ok (.aload_n 0, 1) := by decide +kernel
theorem dX8_part_31 : decode cX8_part 31 = .ok (.getfield 41, 3) := by decide +kernel
theorem dX8_part_34 : decode cX8_part 34 = .ok (.iload_n 2, 1) := by decide +kernel
theorem dX8_part_35 : decode cX8_part 35 = .ok (.aload_n 0, 1) := by decide +kernel
theorem dX8_part_36 : decode cX8_part 36 = .ok (.getfield 26, 3) := by decide +kernel
theorem dX8_part_39 : decode cX8_part 39 = .ok (.iload_n 2, 1) := by decide +kernel
theorem dX8_part_40 : decode cX8_part 40 = .ok (.iaload, 1) := by decide +kernel
theorem dX8_part_41 : decode cX8_part 41 = .ok (.iastore, 1) := by decide +kernel
theorem dX8_part_42 : decode cX8_part 42 = .ok (.goto 17, 3) := by decide +kernel
theorem dX8_part_45 : decode cX8_part 45 = .ok (.aload_n 0, 1) := by decide +kernel
theorem dX8_part_46 : decode cX8_part 46 = .ok (.getfield 44, 3) := by decide +kernel
theorem dX8_part_49 : decode cX8_part 49 = .ok (.iload_n 2, 1) := by decide +kernel
theorem dX8_part_50 : decode cX8_part 50 = .ok (.iload_n 1, 1) := by decide +kernel
theorem dX8_part_51 : decode cX8_part 51 = .ok (.isub, 1) := by decide +kernel
theorem dX8_part_52 : decode cX8_part 52 = .ok (.aload_n 0, 1) := by decide +kernel
theorem dX8_part_53 : decode cX8_part 53 = .ok (.getfield 26, 3) := by decide +kernel
theorem dX8_part_56 : decode cX8_part 56 = .ok (.iload_n 2, 1) := by decide +kernel
theorem dX8_part_57 : decode cX8_part 57 = .ok (.iaload, 1) := by decide +kernel
theorem dX8_part_58 : decode cX8_part 58 = .ok (.iastore, 1) := by decide +kernel
theorem dX8_part_59 : decode cX8_part 59 = .ok (.iinc 2 1, 3) := by decide +kernel
theorem dX8_part_62 : decode cX8_part 62 = .ok (.goto (-45), 3) := by decide +kernel
theorem dX8_part_65 : decode cX8_part 65 = .ok (.return_, 1) := by decide +kernel
theorem dX8_change_0 : decode cX8_change 0 = .ok (.iload_n 2, 1) := by decide +kernel
theorem dX8_change_1 : decode cX8_change 1 = .ok (.ifCond .eq 57, 3) := by decide +kernel
theorem dX8_change_4 : decode cX8_change 4 = .ok (.aload_n 0, 1) := by decide +kernel
theorem dX8_change_5 : decode cX8_change 5 = .ok (.aload_n 0, 1) := by decide +kernel
theorem dX8_change_6 : decode cX8_change 6 = .ok (.getfield 86, 3) := by decide +kernel
theorem dX8_change_9 : decode cX8_change 9 = .ok (.putfield 92, 3) := by decide +kernel
theorem dX8_change_12 : decode cX8_change 12 = .ok (.iconst 0, 1) := by decide +kernel
theorem dX8_change_13 : decode cX8_change 13 = .ok (.istore_n 3, 1) := by decide +kernel
theorem dX8_change_14 : decode cX8_change 14 = .ok (.iload_n 3, 1) := by decide +kernel
theorem dX8_change_15 : decode cX8_change 15 = .ok (.bipush 64, 2) := by decide +kernel
theorem dX8_change_17 : decode cX8_change 17 = .ok (.if_icmp .ge 33, 3) := by decide +kernel
theorem dX8_change_20 : decode cX8_change 20 = .ok (.aload_n 0, 1) := by decide +kernel
theorem dX8_change_21 : decode cX8_change 21 = .ok (.getfield 44, 3) := by decide +kernel
theorem dX8_change_24 : decode cX8_change 24 = .ok (.iload_n 3, 1) := by decide +kernel
theorem dX8_change_25 : decode cX8_change 25 = .ok (.aload_n 0, 1) := by decide +kernel
theorem dX8_change_26 : decode cX8_change 26 = .ok (.getfield 41, 3) := by decide +kernel
theorem dX8_change_29 : decode cX8_change 29 = .ok (.iload_n 3, 1) := by decide +kernel
theorem dX8_change_30 : decode cX8_change 30 = .ok (.iaload, 1) := by decide +kernel
theorem dX8_change_31 : decode cX8_change 31 = .ok (.iastore, 1) := by decide +kernel
theorem dX8_change_32 : decode cX8_change 32 = .ok (.aload_n 0, 1) := by decide +kernel
theorem dX8_change_33 : decode cX8_change 33 = .ok (.getfield 41, 3) := by decide +kernel
theorem dX8_change_36 : decode cX8_change 36 = .ok (.iload_n 3, 1) := by decide +kernel
theorem dX8_change_37 : decode cX8_change 37 = .ok (.aload_n 0, 1) := by decide +kernel
theorem dX8_change_38 : decode cX8_change 38 = .ok (.getfield 47, 3) := by decide +kernel
theorem dX8_change_41 : decode cX8_change 41 = .ok (.iload_n 3, 1) := by decide +kernel
theorem dX8_change_42 : decode cX8_change 42 = .ok (.iaload, 1) := by decide +kernel
theorem dX8_change_43 : decode cX8_change 43 = .ok (.iastore, 1) := by decide +kernel
theorem dX8_change_44 : decode cX8_change 44 = .ok (.iinc 3 1, 3) := by decide +kernel
theorem dX8_change_47 : decode cX8_change 47 = .ok (.goto (-33), 3) := by decide +kernel
theorem dX8_change_50 : decode cX8_change 50 = .ok (.aload_n 0, 1) := by decide +kernel
theorem dX8_change_51 : decode cX8_change 51 = .ok (.iload_n 1, 1) := by decide +kernel
theorem dX8_change_52 : decode cX8_change 52 = .ok (.putfield 86, 3) := by decide +kernel
theorem dX8_change_55 : decode cX8_change 55 = .ok (.goto 54, 3) := by decide +kernel
theorem dX8_change_58 : decode cX8_change 58 = .ok (.aload_n 0, 1) := by decide +kernel
theorem dX8_change_59 : decode cX8_change 59 = .ok (.aload_n 0, 1) := by decide +kernel
theorem dX8_change_60 : decode cX8_change 60 = .ok (.getfield 92, 3) := by decide +kernel
theorem dX8_change_63 : decode cX8_change 63 = .ok (.putfield 86, 3) := by decide +kernel
theorem dX8_change_66 : decode cX8_change 66 = .ok (.iconst 0, 1) := by decide +kernel
theorem dX8_change_67 : decode cX8_change 67 = .ok (.istore_n 3, 1) := by decide +kernel
theorem dX8_change_68 : decode cX8_change 68 = .ok (.iload_n 3, 1) := by decide +kernel
theorem dX8_change_69 : decode cX8_change 69 = .ok (.bipush 64, 2) := by decide +kernel
theorem dX8_change_71 : decode cX8_change 71 = .ok (.if_icmp .ge 33, 3) := by decide +kernel
theorem dX8_change_74 : decode cX8_change 74 = .ok (.aload_n 0, 1) := by decide +kernel
theorem dX8_change_75 : decode cX8_change 75 = .ok (.getfield 41, 3) := by decide +kernel
theorem dX8_change_78 : decode cX8_change 78 = .ok (.iload_n 3, 1) := by decide +kernel
theorem dX8_change_79 : decode cX8_change 79 = .ok (.aload_n 0, 1) := by decide +kernel
theorem dX8_change_80 : decode cX8_change 80 = .ok (.getfield 44, 3) := by decide +kernel
theorem dX8_change_83 : decode cX8_change 83 = .ok (.iload_n 3, 1) := by decide +kernel
theorem dX8_change_84 : decode cX8_change 84 = .ok (.iaload, 1) := by decide +kernel
theorem dX8_change_85 : decode cX8_change 85 = .ok (.iastore, 1) := by decide +kernel
theorem dX8_change_86 : decode cX8_change 86 = .ok (.aload_n 0, 1) := by decide +kernel
theorem dX8_change_87 : decode cX8_change 87 = .ok (.getfield 44, 3) := by decide +kernel
theorem dX8_change_90 : decode cX8_change 90 = .ok (.iload_n 3, 1) := by decide +kernel
theorem dX8_change_91 : decode cX8_change 91 = .ok (.aload_n 0, 1) := by decide +kernel
theorem dX8_change_92 : decode cX8_change 92 = .ok (.getfield 47, 3) := by decide +kernel
theorem dX8_change_95 : decode cX8_change 95 = .ok (.iload_n 3, 1) := by decide +kernel
theorem dX8_change_96 : decode cX8_change 96 = .ok (.iaload, 1) := by decide +kernel
theorem dX8_change_97 : decode cX8_change 97 = .ok (.iastore, 1) := by decide +kernel
theorem dX8_change_98 : decode cX8_change 98 = .ok (.iinc 3 1, 3) := by decide +kernel
theorem dX8_change_101 : decode cX8_change 101 = .ok (.goto (-33), 3) := by decide +kernel
theorem dX8_change_104 : decode cX8_change 104 = .ok (.aload_n 0, 1) := by decide +kernel
theorem dX8_change_105 : decode cX8_change 105 = .ok (.iload_n 1, 1) := by decide +kernel
theorem dX8_change_106 : decode cX8_change 106 = .ok (.putfield 92, 3) := by decide +kernel
theorem dX8_change_109 : decode cX8_change 109 = .ok (.return_, 1) := by decide +kernel
theorem dX8_join_0 : decode cX8_join 0 = .ok (.iconst 0, 1) := by decide +kernel
theorem dX8_join_1 : decode cX8_join 1 = .ok (.istore_n 1, 1) := by decide +kernel
theorem dX8_join_2 : decode cX8_join 2 = .ok (.iload_n 1, 1) := by decide +kernel
theorem dX8_join_3 : decode cX8_join 3 = .ok (.aload_n 0, 1) := by decide +kernel
theorem dX8_join_4 : decode cX8_join 4 = .ok (.getfield 89, 3) := by decide +kernel
theorem dX8_join_7 : decode cX8_join 7 = .ok (.if_icmp .ge 43, 3) := by decide +kernel
theorem dX8_join_10 : decode cX8_join 10 = .ok (.aload_n 0, 1) := by decide +kernel
theorem dX8_join_11 : decode cX8_join 11 = .ok (.getfield 26, 3) := by decide +kernel
theorem dX8_join_14 : decode cX8_join 14 = .ok (.iload_n 1, 1) := by decide +kernel
theorem dX8_join_15 : decode cX8_join 15 = .ok (.iload_n 1, 1) := by decide +kernel
theorem dX8_join_16 : decode cX8_join 16 = .ok (.aload_n 0, 1) := by decide +kernel
theorem dX8_join_17 : decode cX8_join 17 = .ok (.getfield 86, 3) := by decide +kernel
theorem dX8_join_20 : decode cX8_join 20 = .ok (.if_icmp .ge 12, 3) := by decide +kernel
theorem dX8_join_23 : decode cX8_join 23 = .ok (.aload_n 0, 1) := by decide +kernel
theorem dX8_join_24 : decode cX8_join 24 = .ok (.getfield 41, 3) := by decide +kernel
theorem dX8_join_27 : decode cX8_join 27 = .ok (.iload_n 1, 1) := by decide +kernel
theorem dX8_join_28 : decode cX8_join 28 = .ok (.iaload, 1) := by decide +kernel
theorem dX8_join_29 : decode cX8_join 29 = .ok (.goto 14, 3) := by decide +kernel
theorem dX8_join_32 : decode cX8_join 32 = .ok (.aload_n 0, 1) := by decide +kernel
theorem dX8_join_33 : decode cX8_join 33 = .ok (.getfield 44, 3) := by decide +kernel
theorem dX8_join_36 : decode cX8_join 36 = .ok (.iload_n 1, 1) := by decide +kernel
theorem dX8_join_37 : decode cX8_join 37 = .ok (.aload_n 0, 1) := by decide +kernel
theorem dX8_join_38 : decode cX8_join 38 = .ok (.getfield 86, 3) := by decide +kernel
theorem dX8_join_41 : decode cX8_join 41 = .ok (.isub, 1) := by decide +kernel
theorem dX8_join_42 : decode cX8_join 42 = .ok (.iaload, 1) := by decide +kernel
theorem dX8_join_43 : decode cX8_join 43 = .ok (.iastore, 1) := by decide +kernel
theorem dX8_join_44 : decode cX8_join 44 = .ok (.iinc 1 1, 3) := by decide +kernel
theorem dX8_join_47 : decode cX8_join 47 = .ok (.goto (-45), 3) := by decide +kernel
theorem dX8_join_50 : decode cX8_join 50 = .ok (.return_, 1) := by decide +kernel
theorem dX8_first_0 : decode cX8_first 0 = .ok (.aload_n 0, 1) := by decide +kernel
theorem dX8_first_1 : decode cX8_first 1 = .ok (.getfield 35, 3) := by decide +kernel
theorem dX8_first_4 : decode cX8_first 4 = .ok (.iconst 0, 1) := by decide +kernel
theorem dX8_first_5 : decode cX8_first 5 = .ok (.iconst 1, 1) := by decide +kernel
theorem dX8_first_6 : decode cX8_first 6 = .ok (.iastore, 1) := by decide +kernel
theorem dX8_first_7 : decode cX8_first 7 = .ok (.aload_n 0, 1) := by decide +kernel
theorem dX8_first_8 : decode cX8_first 8 = .ok (.getfield 35, 3) := by decide +kernel
theorem dX8_first_11 : decode cX8_first 11 = .ok (.iconst 1, 1) := by decide +kernel
theorem dX8_first_12 : decode cX8_first 12 = .ok (.iconst 2, 1) := by decide +kernel
theorem dX8_first_13 : decode cX8_first 13 = .ok (.iastore, 1) := by decide +kernel
theorem dX8_first_14 : decode cX8_first 14 = .ok (.aload_n 0, 1) := by decide +kernel
theorem dX8_first_15 : decode cX8_first 15 = .ok (.getfield 35, 3) := by decide +kernel
theorem dX8_first_18 : decode cX8_first 18 = .ok (.iconst 2, 1) := by decide +kernel
theorem dX8_first_19 : decode cX8_first 19 = .ok (.iconst 1, 1) := by decide +kernel
theorem dX8_first_20 : decode cX8_first 20 = .ok (.iastore, 1) := by decide +kernel
theorem dX8_first_21 : decode cX8_first 21 = .ok (.aload_n 0, 1) := by decide +kernel
theorem dX8_first_22 : decode cX8_first 22 = .ok (.getfield 35, 3) := by decide +kernel
theorem dX8_first_25 : decode cX8_first 25 = .ok (.iconst 3, 1) := by decide +kernel
theorem dX8_first_26 : decode cX8_first 26 = .ok (.aload_n 0, 1) := by decide +kernel
theorem dX8_first_27 : decode cX8_first 27 = .ok (.getfield 23, 3) := by decide +kernel
theorem dX8_first_30 : decode cX8_first 30 = .ok (.bipush 16, 2) := by decide +kernel
theorem dX8_first_32 : decode cX8_first 32 = .ok (.ishr, 1) := by decide +kernel
theorem dX8_first_33 : decode cX8_first 33 = .ok (.iastore, 1) := by decide +kernel
theorem dX8_first_34 : decode cX8_first 34 = .ok (.aload_n 0, 1) := by decide +kernel
theorem dX8_first_35 : decode cX8_first 35 = .ok (.getfield 35, 3) := by decide +kernel
theorem dX8_first_38 : decode cX8_first 38 = .ok (.iconst 4, 1) := by decide +kernel
theorem dX8_first_39 : decode cX8_first 39 = .ok (.aload_n 0, 1) := by decide +kernel
theorem dX8_first_40 : decode cX8_first 40 = .ok (.getfield 23, 3) := by decide +kernel
theorem dX8_first_43 : decode cX8_first 43 = .ok (.bipush 8, 2) := by decide +kernel
theorem dX8_first_45 : decode cX8_first 45 = .ok (.ishr, 1) := by decide +kernel
theorem dX8_first_46 : decode cX8_first 46 = .ok (.sipush 255, 3) := by decide +kernel
theorem dX8_first_49 : decode cX8_first 49 = .ok (.iand, 1) := by decide +kernel
theorem dX8_first_50 : decode cX8_first 50 = .ok (.iastore, 1) := by decide +kernel
theorem dX8_first_51 : decode cX8_first 51 = .ok (.aload_n 0, 1) := by decide +kernel
theorem dX8_first_52 : decode cX8_first 52 = .ok (.getfield 35, 3) := by decide +kernel
theorem dX8_first_55 : decode cX8_first 55 = .ok (.iconst 5, 1) := by decide +kernel
theorem dX8_first_56 : decode cX8_first 56 = .ok (.aload_n 0, 1) := by decide +kernel
theorem dX8_first_57 : decode cX8_first 57 = .ok (.getfield 23, 3) := by decide +kernel
theorem dX8_first_60 : decode cX8_first 60 = .ok (.sipush 255, 3) := by decide +kernel
theorem dX8_first_63 : decode cX8_first 63 = .ok (.iand, 1) := by decide +kernel
theorem dX8_first_64 : decode cX8_first 64 = .ok (.iastore, 1) := by decide +kernel
theorem dX8_first_65 : decode cX8_first 65 = .ok (.aload_n 0, 1) := by decide +kernel
theorem dX8_first_66 : decode cX8_first 66 = .ok (.getfield 35, 3) := by decide +kernel
theorem dX8_first_69 : decode cX8_first 69 = .ok (.bipush 6, 2) := by decide +kernel
theorem dX8_first_71 : decode cX8_first 71 = .ok (.bipush 10, 2) := by decide +kernel
theorem dX8_first_73 : decode cX8_first 73 = .ok (.iastore, 1) := by decide +kernel
theorem dX8_first_74 : decode cX8_first 74 = .ok (.aload_n 0, 1) := by decide +kernel
theorem dX8_first_75 : decode cX8_first 75 = .ok (.getfield 35, 3) := by decide +kernel
theorem dX8_first_78 : decode cX8_first 78 = .ok (.bipush 7, 2) := by decide +kernel
theorem dX8_first_80 : decode cX8_first 80 = .ok (.iload_n 1, 1) := by decide +kernel
theorem dX8_first_81 : decode cX8_first 81 = .ok (.iastore, 1) := by decide +kernel
theorem dX8_first_82 : decode cX8_first 82 = .ok (.bipush 8, 2) := by decide +kernel
theorem dX8_first_84 : decode cX8_first 84 = .ok (.istore_n 2, 1) := by decide +kernel
theorem dX8_first_85 : decode cX8_first 85 = .ok (.iload_n 2, 1) := by decide +kernel
theorem dX8_first_86 : decode cX8_first 86 = .ok (.bipush 16, 2) := by decide +kernel
theorem dX8_first_88 : decode cX8_first 88 = .ok (.if_icmp .ge 16, 3) := by decide +kernel
theorem dX8_first_91 : decode cX8_first 91 = .ok (.aload_n 0, 1) := by decide +kernel
theorem dX8_first_92 : decode cX8_first 92 = .ok (.getfield 35, 3) := by decide +kernel
theorem dX8_first_95 : decode cX8_first 95 = .ok (.iload_n 2, 1) := by decide +kernel
theorem dX8_first_96 : decode cX8_first 96 = .ok (.iconst 0, 1) := by decide +kernel
theorem dX8_first_97 : decode cX8_first 97 = .ok (.iastore, 1) := by decide +kernel
theorem dX8_first_98 : decode cX8_first 98 = .ok (.iinc 2 1, 3) := by decide +kernel
theorem dX8_first_101 : decode cX8_first 101 = .ok (.goto (-16), 3) := by decide +kernel
theorem dX8_first_104 : decode cX8_first 104 = .ok (.aload_n 0, 1) := by decide +kernel
theorem dX8_first_105 : decode cX8_first 105 = .ok (.getfield 35, 3) := by decide +kernel
theorem dX8_first_108 : decode cX8_first 108 = .ok (.bipush 11, 2) := by decide +kernel
theorem dX8_first_110 : decode cX8_first 110 = .ok (.aload_n 0, 1) := by decide +kernel
theorem dX8_first_111 : decode cX8_first 111 = .ok (.getfield 89, 3) := by decide +kernel
theorem dX8_first_114 : decode cX8_first 114 = .ok (.iastore, 1) := by decide +kernel
theorem dX8_first_115 : decode cX8_first 115 = .ok (.aload_n 0, 1) := by decide +kernel
theorem dX8_first_116 : decode cX8_first 116 = .ok (.getfield 35, 3) := by decide +kernel
theorem dX8_first_119 : decode cX8_first 119 = .ok (.bipush 15, 2) := by decide +kernel
theorem dX8_first_121 : decode cX8_first 121 = .ok (.aload_n 0, 1) := by decide +kernel
theorem dX8_first_122 : decode cX8_first 122 = .ok (.getfield 95, 3) := by decide +kernel
theorem dX8_first_125 : decode cX8_first 125 = .ok (.iastore, 1) := by decide +kernel
theorem dX8_first_126 : decode cX8_first 126 = .ok (.return_, 1) := by decide +kernel
set_option maxRecDepth 20000 in
theorem ggX8_makeStream_X8_lay : GoodIn wsX8_makeStream wsX8_lay := goodIn_r _ [15, 8, 16, 17, 38, 39, 40, 41, 42, 43, 44, 45, 46, 47, 48, 49, 50, 51, 52, 53, 54, 55, 56, 57, 58, 59, 60] (by decide +kernel) (by decide +kernel)
set_option maxRecDepth 20000 in
theorem gX8_makeStream_X8_lay : GoodIn wsX8_makeStream (wsV RX8 79 RX8 yX8_lay wsX8_lay) := goodIn_app (goodIn_of _ (by decide +kernel)) ggX8_makeStream_X8_lay
set_option maxRecDepth 20000 in
theorem ggX8_makeStream_X8_first : GoodIn wsX8_makeStream wsX8_first := goodIn_r _ [21, 9, 16, 22, 1, 38, 39, 40, 41, 42, 43, 44, 45, 46, 47, 48, 49, 50, 51, 52, 53, 54, 55, 56, 57, 58, 59, 60] (by decide +kernel) (by decide +kernel)
set_option maxRecDepth 20000 in
theorem gX8_makeStream_X8_first : GoodIn wsX8_makeStream (wsV RX8 98 RX8 yX8_first wsX8_first) := goodIn_app (goodIn_of _ (by decide +kernel)) ggX8_makeStream_X8_first
set_option maxRecDepth 20000 in
theorem ggX8_makeStream_X8_encipher : GoodIn wsX8_makeStream wsX8_encipher := goodIn_r _ [26, 27, 28, 29, 9, 30, 31, 32, 14, 33, 34, 35, 36, 37, 38, 39, 40, 41, 42, 43, 44, 45, 46, 47, 48, 49, 50, 51, 52, 53, 54, 55, 56, 57, 58, 59, 60] (by decide +kernel) (by decide +kernel)
set_option maxRecDepth 20000 in
theorem gX8_makeStream_X8_encipher : GoodIn wsX8_makeStream (wsV RX8 101 RX8 yX8_encipher wsX8_encipher) := goodIn_app (goodIn_of _ (by decide +kernel)) ggX8_makeStream_X8_encipher
theorem dX8_makeStream_0 : decode cX8_makeStream 0 = .ok (.bipush 16, 2) := by decide +kernel
theorem dX8_makeStream_2 : decode cX8_makeStream 2 = .ok (.aload_n 0, 1) := by decide +kernel
theorem dX8_makeStream_3 : decode cX8_makeStream 3 = .ok (.getfield 95, 3) := by decide +kernel
theorem dX8_makeStream_6 : decode cX8_makeStream 6 = .ok (.iconst 1, 1) := by decide +kernel
theorem dX8_makeStream_7 : decode cX8_makeStream 7 = .ok (.iadd, 1) := by decide +kernel
theorem dX8_makeStream_8 : decode cX8_makeStream 8 = .ok (.iload_n 3, 1) := by decide +kernel
theorem dX8_makeStream_9 : decode cX8_makeStream 9 = .ok (.iadd, 1) := by decide +kernel
theorem dX8_makeStream_10 : decode cX8_makeStream 10 = .ok (.bipush 16, 2) := by decide +kernel
theorem dX8_makeStream_12 : decode cX8_makeStream 12 = .ok (.irem, 1) := by decide +kernel
theorem dX8_makeStream_13 : decode cX8_makeStream 13 = .ok (.isub, 1) := by decide +kernel
theorem dX8_makeStream_14 : decode cX8_makeStream 14 = .ok (.bipush 16, 2) := by decide +kernel
theorem dX8_makeStream_16 : decode cX8_makeStream 16 = .ok (.irem, 1) := by decide +kernel
theorem dX8_makeStream_17 : decode cX8_makeStream 17 = .ok (.istore 6, 2) := by decide +kernel
theorem dX8_makeStream_19 : decode cX8_makeStream 19 = .ok (.aload_n 0, 1) := by decide +kernel
theorem dX8_makeStream_20 : decode cX8_makeStream 20 = .ok (.getfield 95, 3) := by decide +kernel
theorem dX8_makeStream_23 : decode cX8_makeStream 23 = .ok (.iload 6, 2) := by decide +kernel
theorem dX8_makeStream_25 : decode cX8_makeStream 25 = .ok (.iadd, 1) := by decide +kernel
theorem dX8_makeStream_26 : decode cX8_makeStream 26 = .ok (.iconst 1, 1) := by decide +kernel
theorem dX8_makeStream_27 : decode cX8_makeStream 27 = .ok (.iadd, 1) := by decide +kernel
theorem dX8_makeStream_28 : decode cX8_makeStream 28 = .ok (.iload_n 3, 1) := by decide +kernel
theorem dX8_makeStream_29 : decode cX8_makeStream 29 = .ok (.iadd, 1) := by decide +kernel
theorem dX8_makeStream_30 : decode cX8_makeStream 30 = .ok (.istore 7, 2) := by decide +kernel
theorem dX8_makeStream_32 : decode cX8_makeStream 32 = .ok (.iconst 0, 1) := by decide +kernel
theorem dX8_makeStream_33 : decode cX8_makeStream 33 = .ok (.istore 8, 2) := by decide +kernel
theorem dX8_makeStream_35 : decode cX8_makeStream 35 = .ok (.iload 8, 2) := by decide +kernel
theorem dX8_makeStream_37 : decode cX8_makeStream 37 = .ok (.iload 7, 2) := by decide +kernel
theorem dX8_makeStream_39 : decode cX8_makeStream 39 = .ok (.if_icmp .ge 36, 3) := by decide +kernel
theorem dX8_makeStream_42 : decode cX8_makeStream 42 = .ok (.aload_n 0, 1) := by decide +kernel
theorem dX8_makeStream_43 : decode cX8_makeStream 43 = .ok (.getfield 53, 3) := by decide +kernel
theorem dX8_makeStream_46 : decode cX8_makeStream 46 = .ok (.iload 8, 2) := by decide +kernel
theorem dX8_makeStream_48 : decode cX8_makeStream 48 = .ok (.iload 8, 2) := by decide +kernel
theorem dX8_makeStream_50 : decode cX8_makeStream 50 = .ok (.aload_n 0, 1) := by decide +kernel
theorem dX8_makeStream_51 : decode cX8_makeStream 51 = .ok (.getfield 95, 3) := by decide +kernel
theorem dX8_makeStream_54 : decode cX8_makeStream 54 = .ok (.if_icmp .ge 13, 3) := by decide +kernel
theorem dX8_makeStream_57 : decode cX8_makeStream 57 = .ok (.aload_n 0, 1) := by decide +kernel
theorem dX8_makeStream_58 : decode cX8_makeStream 58 = .ok (.getfield 20, 3) := by decide +kernel
theorem dX8_makeStream_61 : decode cX8_makeStream 61 = .ok (.iload 8, 2) := by decide +kernel
theorem dX8_makeStream_63 : decode cX8_makeStream 63 = .ok (.iaload, 1) := by decide +kernel
theorem dX8_makeStream_64 : decode cX8_makeStream 64 = .ok (.goto 4, 3) := by decide +kernel
theorem dX8_makeStream_67 : decode cX8_makeStream 67 = .ok (.iconst 0, 1) := by decide +kernel
theorem dX8_makeStream_68 : decode cX8_makeStream 68 = .ok (.iastore, 1) := by decide +kernel
theorem dX8_makeStream_69 : decode cX8_makeStream 69 = .ok (.iinc 8 1, 3) := by decide +kernel
theorem dX8_makeStream_72 : decode cX8_makeStream 72 = .ok (.goto (-37), 3) := by decide +kernel
theorem dX8_makeStream_75 : decode cX8_makeStream 75 = .ok (.aload_n 0, 1) := by decide +kernel
theorem dX8_makeStream_76 : decode cX8_makeStream 76 = .ok (.getfield 53, 3) := by decide +kernel
theorem dX8_makeStream_79 : decode cX8_makeStream 79 = .ok (.aload_n 0, 1) := by decide +kernel
theorem dX8_makeStream_80 : decode cX8_makeStream 80 = .ok (.getfield 95, 3) := by decide +kernel
theorem dX8_makeStream_83 : decode cX8_makeStream 83 = .ok (.iload 6, 2) := by decide +kernel
theorem dX8_makeStream_85 : decode cX8_makeStream 85 = .ok (.iadd, 1) := by decide +kernel
theorem dX8_makeStream_86 : decode cX8_makeStream 86 = .ok (.iload_n 2, 1) := by decide +kernel
theorem dX8_makeStream_87 : decode cX8_makeStream 87 = .ok (.iastore, 1) := by decide +kernel
theorem dX8_makeStream_88 : decode cX8_makeStream 88 = .ok (.aload_n 0, 1) := by decide +kernel
theorem dX8_makeStream_89 : decode cX8_makeStream 89 = .ok (.iload 5, 2) := by decide +kernel
theorem dX8_makeStream_91 : decode cX8_makeStream 91 = .ok (.ifCond .eq 10, 3) := by decide +kernel
theorem dX8_makeStream_94 : decode cX8_makeStream 94 = .ok (.aload_n 0, 1) := by decide +kernel
theorem dX8_makeStream_95 : decode cX8_makeStream 95 = .ok (.getfield 41, 3) := by decide +kernel
theorem dX8_makeStream_98 : decode cX8_makeStream 98 = .ok (.goto 7, 3) := by decide +kernel
theorem dX8_makeStream_101 : decode cX8_makeStream 101 = .ok (.aload_n 0, 1) := by decide +kernel
theorem dX8_makeStream_102 : decode cX8_makeStream 102 = .ok (.getfield 44, 3) := by decide +kernel
theorem dX8_makeStream_105 : decode cX8_makeStream 105 = .ok (.iload 5, 2) := by decide +kernel
theorem dX8_makeStream_107 : decode cX8_makeStream 107 = .ok (.ifCond .eq 10, 3) := by decide +kernel
theorem dX8_makeStream_110 : decode cX8_makeStream 110 = .ok (.aload_n 0, 1) := by decide +kernel
theorem dX8_makeStream_111 : decode cX8_makeStream 111 = .ok (.getfield 86, 3) := by decide +kernel
theorem dX8_makeStream_114 : decode cX8_makeStream 114 = .ok (.goto 7, 3) := by decide +kernel
theorem dX8_makeStream_117 : decode cX8_makeStream 117 = .ok (.aload_n 0, 1) := by decide +kernel
theorem dX8_makeStream_118 : decode cX8_makeStream 118 = .ok (.getfield 92, 3) := by decide +kernel
theorem dX8_makeStream_121 : decode cX8_makeStream 121 = .ok (.iload_n 3, 1) := by decide +kernel
theorem dX8_makeStream_122 : decode cX8_makeStream 122 = .ok (.iconst 0, 1) := by decide +kernel
theorem dX8_makeStream_123 : decode cX8_makeStream 123 = .ok (.invokevirtual 79, 3) := by decide +kernel
theorem dX8_makeStream_126 : decode cX8_makeStream 126 = .ok (.iconst 0, 1) := by decide +kernel
theorem dX8_makeStream_127 : decode cX8_makeStream 127 = .ok (.istore 8, 2) := by decide +kernel
theorem dX8_makeStream_129 : decode cX8_makeStream 129 = .ok (.iload 8, 2) := by decide +kernel
theorem dX8_makeStream_131 : decode cX8_makeStream 131 = .ok (.iload_n 3, 1) := by decide +kernel
theorem dX8_makeStream_132 : decode cX8_makeStream 132 = .ok (.if_icmp .ge 33, 3) := by decide +kernel
theorem dX8_makeStream_135 : decode cX8_makeStream 135 = .ok (.aload_n 0, 1) := by decide +kernel
theorem dX8_makeStream_136 : decode cX8_makeStream 136 = .ok (.getfield 53, 3) := by decide +kernel
theorem dX8_makeStream_139 : decode cX8_makeStream 139 = .ok (.aload_n 0, 1) := by decide +kernel
theorem dX8_makeStream_140 : decode cX8_makeStream 140 = .ok (.getfield 95, 3) := by decide +kernel
theorem dX8_makeStream_143 : decode cX8_makeStream 143 = .ok (.iload 6, 2) := by decide +kernel
theorem dX8_makeStream_145 : decode cX8_makeStream 145 = .ok (.iadd, 1) := by decide +kernel
theorem dX8_makeStream_146 : decode cX8_makeStream 146 = .ok (.iconst 1, 1) := by decide +kernel
theorem dX8_makeStream_147 : decode cX8_makeStream 147 = .ok (.iadd, 1) := by decide +kernel
theorem dX8_makeStream_148 : decode cX8_makeStream 148 = .ok (.iload 8, 2) := by decide +kernel
theorem dX8_makeStream_150 : decode cX8_makeStream 150 = .ok (.iadd, 1) := by decide +kernel
theorem dX8_makeStream_151 : decode cX8_makeStream 151 = .ok (.aload_n 0, 1) := by decide +kernel
theorem dX8_makeStream_152 : decode cX8_makeStream 152 = .ok (.getfield 50, 3) := by decide +kernel
theorem dX8_makeStream_155 : decode cX8_makeStream 155 = .ok (.iload 8, 2) := by decide +kernel
theorem dX8_makeStream_157 : decode cX8_makeStream 157 = .ok (.iaload, 1) := by decide +kernel
theorem dX8_makeStream_158 : decode cX8_makeStream 158 = .ok (.iastore, 1) := by decide +kernel
theorem dX8_makeStream_159 : decode cX8_makeStream 159 = .ok (.iinc 8 1, 3) := by decide +kernel
theorem dX8_makeStream_162 : decode cX8_makeStream 162 = .ok (.goto (-33), 3) := by decide +kernel
theorem dX8_makeStream_165 : decode cX8_makeStream 165 = .ok (.aload_n 0, 1) := by decide +kernel
theorem dX8_makeStream_166 : decode cX8_makeStream 166 = .ok (.iload_n 1, 1) := by decide +kernel
theorem dX8_makeStream_167 : decode cX8_makeStream 167 = .ok (.invokevirtual 98, 3) := by decide +kernel
theorem dX8_makeStream_170 : decode cX8_makeStream 170 = .ok (.aload_n 0, 1) := by decide +kernel
theorem dX8_makeStream_171 : decode cX8_makeStream 171 = .ok (.invokevirtual 101, 3) := by decide +kernel
theorem dX8_makeStream_174 : decode cX8_makeStream 174 = .ok (.iconst 0, 1) := by decide +kernel
theorem dX8_makeStream_175 : decode cX8_makeStream 175 = .ok (.istore 8, 2) := by decide +kernel
theorem dX8_makeStream_177 : decode cX8_makeStream 177 = .ok (.iload 8, 2) := by decide +kernel
theorem dX8_makeStream_179 : decode cX8_makeStream 179 = .ok (.iload 7, 2) := by decide +kernel
theorem dX8_makeStream_181 : decode cX8_makeStream 181 = .ok (.if_icmp .ge 54, 3) := by decide +kernel
theorem dX8_makeStream_184 : decode cX8_makeStream 184 = .ok (.iconst 0, 1) := by decide +kernel
theorem dX8_makeStream_185 : decode cX8_makeStream 185 = .ok (.istore 9, 2) := by decide +kernel
theorem dX8_makeStream_187 : decode cX8_makeStream 187 = .ok (.iload 9, 2) := by decide +kernel
theorem dX8_makeStream_189 : decode cX8_makeStream 189 = .ok (.bipush 16, 2) := by decide +kernel
theorem dX8_makeStream_191 : decode cX8_makeStream 191 = .ok (.if_icmp .ge 34, 3) := by decide +kernel
theorem dX8_makeStream_194 : decode cX8_makeStream 194 = .ok (.aload_n 0, 1) := by decide +kernel
theorem dX8_makeStream_195 : decode cX8_makeStream 195 = .ok (.getfield 35, 3) := by decide +kernel
theorem dX8_makeStream_198 : decode cX8_makeStream 198 = .ok (.iload 9, 2) := by decide +kernel
theorem dX8_makeStream_200 : decode cX8_makeStream 200 = .ok (.aload_n 0, 1) := by decide +kernel
theorem dX8_makeStream_201 : decode cX8_makeStream 201 = .ok (.getfield 35, 3) := by decide +kernel
theorem dX8_makeStream_204 : decode cX8_makeStream 204 = .ok (.iload 9, 2) := by decide +kernel
theorem dX8_makeStream_206 : decode cX8_makeStream 206 = .ok (.iaload, 1) := by decide +kernel
theorem dX8_makeStream_207 : decode cX8_makeStream 207 = .ok (.aload_n 0, 1) := by decide +kernel
theorem dX8_makeStream_208 : decode cX8_makeStream 208 = .ok (.getfield 53, 3) := by decide +kernel
theorem dX8_makeStream_211 : decode cX8_makeStream 211 = .ok (.iload 8, 2) := by decide +kernel
theorem dX8_makeStream_213 : decode cX8_makeStream 213 = .ok (.iload 9, 2) := by decide +kernel
theorem dX8_makeStream_215 : decode cX8_makeStream 215 = .ok (.iadd, 1) := by decide +kernel
theorem dX8_makeStream_216 : decode cX8_makeStream 216 = .ok (.iaload, 1) := by decide +kernel
theorem dX8_makeStream_217 : decode cX8_makeStream 217 = .ok (.ixor, 1) := by decide +kernel
theorem dX8_makeStream_218 : decode cX8_makeStream 218 = .ok (.iastore, 1) := by decide +kernel
theorem dX8_makeStream_219 : decode cX8_makeStream 219 = .ok (.iinc 9 1, 3) := by decide +kernel
theorem dX8_makeStream_222 : decode cX8_makeStream 222 = .ok (.goto (-35), 3) := by decide +kernel
theorem dX8_makeStream_225 : decode cX8_makeStream 225 = .ok (.aload_n 0, 1) := by decide +kernel
theorem dX8_makeStream_226 : decode cX8_makeStream 226 = .ok (.invokevirtual 101, 3) := by decide +kernel
theorem dX8_makeStream_229 : decode cX8_makeStream 229 = .ok (.iinc 8 16, 3) := by decide +kernel
theorem dX8_makeStream_232 : decode cX8_makeStream 232 = .ok (.goto (-55), 3) := by decide +kernel
theorem dX8_makeStream_235 : decode cX8_makeStream 235 = .ok (.iconst 0, 1) := by decide +kernel
theorem dX8_makeStream_236 : decode cX8_makeStream 236 = .ok (.istore 8, 2) := by decide +kernel
theorem dX8_makeStream_238 : decode cX8_makeStream 238 = .ok (.iload 8, 2) := by decide +kernel
theorem dX8_makeStream_240 : decode cX8_makeStream 240 = .ok (.bipush 16, 2) := by decide +kernel
theorem dX8_makeStream_242 : decode cX8_makeStream 242 = .ok (.if_icmp .ge 23, 3) := by decide +kernel
theorem dX8_makeStream_245 : decode cX8_makeStream 245 = .ok (.aload_n 0, 1) := by decide +kernel
theorem dX8_makeStream_246 : decode cX8_makeStream 246 = .ok (.getfield 53, 3) := by decide +kernel
theorem dX8_makeStream_249 : decode cX8_makeStream 249 = .ok (.iload 8, 2) := by decide +kernel
theorem dX8_makeStream_251 : decode cX8_makeStream 251 = .ok (.aload_n 0, 1) := by decide +kernel
theorem dX8_makeStream_252 : decode cX8_makeStream 252 = .ok (.getfield 35, 3) := by decide +kernel
theorem dX8_makeStream_255 : decode cX8_makeStream 255 = .ok (.iload 8, 2) := by decide +kernel
theorem dX8_makeStream_257 : decode cX8_makeStream 257 = .ok (.iaload, 1) := by decide +kernel
theorem dX8_makeStream_258 : decode cX8_makeStream 258 = .ok (.iastore, 1) := by decide +kernel
theorem dX8_makeStream_259 : decode cX8_makeStream 259 = .ok (.iinc 8 1, 3) := by decide +kernel
theorem dX8_makeStream_262 : decode cX8_makeStream 262 = .ok (.goto (-24), 3) := by decide +kernel
theorem dX8_makeStream_265 : decode cX8_makeStream 265 = .ok (.iconst 0, 1) := by decide +kernel
theorem dX8_makeStream_266 : decode cX8_makeStream 266 = .ok (.istore 8, 2) := by decide +kernel
theorem dX8_makeStream_268 : decode cX8_makeStream 268 = .ok (.iload 8, 2) := by decide +kernel
theorem dX8_makeStream_270 : decode cX8_makeStream 270 = .ok (.iload 4, 2) := by decide +kernel
theorem dX8_makeStream_272 : decode cX8_makeStream 272 = .ok (.if_icmp .ge 101, 3) := by decide +kernel
theorem dX8_makeStream_275 : decode cX8_makeStream 275 = .ok (.iconst 0, 1) := by decide +kernel
theorem dX8_makeStream_276 : decode cX8_makeStream 276 = .ok (.istore 9, 2) := by decide +kernel
theorem dX8_makeStream_278 : decode cX8_makeStream 278 = .ok (.iload 9, 2) := by decide +kernel
theorem dX8_makeStream_280 : decode cX8_makeStream 280 = .ok (.bipush 16, 2) := by decide +kernel
theorem dX8_makeStream_282 : decode cX8_makeStream 282 = .ok (.if_icmp .ge 23, 3) := by decide +kernel
theorem dX8_makeStream_285 : decode cX8_makeStream 285 = .ok (.aload_n 0, 1) := by decide +kernel
theorem dX8_makeStream_286 : decode cX8_makeStream 286 = .ok (.getfield 35, 3) := by decide +kernel
theorem dX8_makeStream_289 : decode cX8_makeStream 289 = .ok (.iload 9, 2) := by decide +kernel
theorem dX8_makeStream_291 : decode cX8_makeStream 291 = .ok (.aload_n 0, 1) := by decide +kernel
theorem dX8_makeStream_292 : decode cX8_makeStream 292 = .ok (.getfield 53, 3) := by decide +kernel
theorem dX8_makeStream_295 : decode cX8_makeStream 295 = .ok (.iload 9, 2) := by decide +kernel
theorem dX8_makeStream_297 : decode cX8_makeStream 297 = .ok (.iaload, 1) := by decide +kernel
theorem dX8_makeStream_298 : decode cX8_makeStream 298 = .ok (.iastore, 1) := by decide +kernel
theorem dX8_makeStream_299 : decode cX8_makeStream 299 = .ok (.iinc 9 1, 3) := by decide +kernel
theorem dX8_makeStream_302 : decode cX8_makeStream 302 = .ok (.goto (-24), 3) := by decide +kernel
theorem dX8_makeStream_305 : decode cX8_makeStream 305 = .ok (.iload 8, 2) := by decide +kernel
theorem dX8_makeStream_307 : decode cX8_makeStream 307 = .ok (.ifCond .le 27, 3) := by decide +kernel
theorem dX8_makeStream_310 : decode cX8_makeStream 310 = .ok (.aload_n 0, 1) := by decide +kernel
theorem dX8_makeStream_311 : decode cX8_makeStream 311 = .ok (.getfield 35, 3) := by decide +kernel
theorem dX8_makeStream_314 : decode cX8_makeStream 314 = .ok (.bipush 15, 2) := by decide +kernel
theorem dX8_makeStream_316 : decode cX8_makeStream 316 = .ok (.aload_n 0, 1) := by decide +kernel
theorem dX8_makeStream_317 : decode cX8_makeStream 317 = .ok (.getfield 35, 3) := by decide +kernel
theorem dX8_makeStream_320 : decode cX8_makeStream 320 = .ok (.bipush 15, 2) := by decide +kernel
theorem dX8_makeStream_322 : decode cX8_makeStream 322 = .ok (.iaload, 1) := by decide +kernel
theorem dX8_makeStream_323 : decode cX8_makeStream 323 = .ok (.iload 8, 2) := by decide +kernel
theorem dX8_makeStream_325 : decode cX8_makeStream 325 = .ok (.bipush 16, 2) := by decide +kernel
theorem dX8_makeStream_327 : decode cX8_makeStream 327 = .ok (.idiv, 1) := by decide +kernel
theorem dX8_makeStream_328 : decode cX8_makeStream 328 = .ok (.ixor, 1) := by decide +kernel
theorem dX8_makeStream_329 : decode cX8_makeStream 329 = .ok (.iastore, 1) := by decide +kernel
theorem dX8_makeStream_330 : decode cX8_makeStream 330 = .ok (.aload_n 0, 1) := by decide +kernel
theorem dX8_makeStream_331 : decode cX8_makeStream 331 = .ok (.invokevirtual 101, 3) := by decide +kernel
theorem dX8_makeStream_334 : decode cX8_makeStream 334 = .ok (.iconst 0, 1) := by decide +kernel
theorem dX8_makeStream_335 : decode cX8_makeStream 335 = .ok (.istore 9, 2) := by decide +kernel
theorem dX8_makeStream_337 : decode cX8_makeStream 337 = .ok (.iload 9, 2) := by decide +kernel
theorem dX8_makeStream_339 : decode cX8_makeStream 339 = .ok (.bipush 16, 2) := by decide +kernel
theorem dX8_makeStream_341 : decode cX8_makeStream 341 = .ok (.if_icmp .ge 26, 3) := by decide +kernel
theorem dX8_makeStream_344 : decode cX8_makeStream 344 = .ok (.aload_n 0, 1) := by decide +kernel
theorem dX8_makeStream_345 : decode cX8_makeStream 345 = .ok (.getfield 56, 3) := by decide +kernel
theorem dX8_makeStream_348 : decode cX8_makeStream 348 = .ok (.iload 8, 2) := by decide +kernel
theorem dX8_makeStream_350 : decode cX8_makeStream 350 = .ok (.iload 9, 2) := by decide +kernel
theorem dX8_makeStream_352 : decode cX8_makeStream 352 = .ok (.iadd, 1) := by decide +kernel
theorem dX8_makeStream_353 : decode cX8_makeStream 353 = .ok (.aload_n 0, 1) := by decide +kernel
theorem dX8_makeStream_354 : decode cX8_makeStream 354 = .ok (.getfield 35, 3) := by decide +kernel
theorem dX8_makeStream_357 : decode cX8_makeStream 357 = .ok (.iload 9, 2) := by decide +kernel
theorem dX8_makeStream_359 : decode cX8_makeStream 359 = .ok (.iaload, 1) := by decide +kernel
theorem dX8_makeStream_360 : decode cX8_makeStream 360 = .ok (.iastore, 1) := by decide +kernel
theorem dX8_makeStream_361 : decode cX8_makeStream 361 = .ok (.iinc 9 1, 3) := by decide +kernel
theorem dX8_makeStream_364 : decode cX8_makeStream 364 = .ok (.goto (-27), 3) := by decide +kernel
theorem dX8_makeStream_367 : decode cX8_makeStream 367 = .ok (.iinc 8 16, 3) := by decide +kernel
theorem dX8_makeStream_370 : decode cX8_makeStream 370 = .ok (.goto (-102), 3) := by decide +kernel
theorem dX8_makeStream_373 : decode cX8_makeStream 373 = .ok (.return_, 1) := by decide +kernel
set_option maxRecDepth 20000 in
theorem ggX8_turnFirst_X8_bytesOf : GoodIn wsX8_turnFirst wsX8_bytesOf := goodIn_r _ [8, 9, 10, 11, 12, 13, 14, 7, 15, 16, 74, 75, 76, 77, 78, 79, 80, 81, 82, 83, 84, 85, 86, 87, 88, 89, 90, 91, 92, 93, 94, 95, 96] (by decide +kernel) (by decide +kernel)
set_option maxRecDepth 20000 in
theorem gX8_turnFirst_X8_bytesOf : GoodIn wsX8_turnFirst (wsV RX8 104 RX8 yX8_bytesOf wsX8_bytesOf) := goodIn_app (goodIn_of _ (by decide +kernel)) ggX8_turnFirst_X8_bytesOf
set_option maxRecDepth 20000 in
theorem ggX8_turnFirst_X8_makeWords : GoodIn wsX8_turnFirst wsX8_makeWords := goodIn_r _ [20, 21, 22, 23, 24, 25, 26, 27, 7, 28, 74, 75, 76, 77, 78, 79, 80, 81, 82, 83, 84, 85, 86, 87, 88, 89, 90, 91, 92, 93, 94, 95, 96] (by decide +kernel) (by decide +kernel)
set_option maxRecDepth 20000 in
theorem gX8_turnFirst_X8_makeWords : GoodIn wsX8_turnFirst (wsV RX8 107 RX8 yX8_makeWords wsX8_makeWords) := goodIn_app (goodIn_of _ (by decide +kernel)) ggX8_turnFirst_X8_makeWords
set_option maxRecDepth 20000 in
theorem ggX8_turnFirst_X8_part : GoodIn wsX8_turnFirst wsX8_part := goodIn_r _ [32, 33, 1, 34, 3, 35, 2, 74, 75, 76, 77, 78, 79, 80, 81, 82, 83, 84, 85, 86, 87, 88, 89, 90, 91, 92, 93, 94, 95, 96] (by decide +kernel) (by decide +kernel)
set_option maxRecDepth 20000 in
theorem gX8_turnFirst_X8_part : GoodIn wsX8_turnFirst (wsV RX8 111 RX8 yX8_part wsX8_part) := goodIn_app (goodIn_of _ (by decide +kernel)) ggX8_turnFirst_X8_part
set_option maxRecDepth 20000 in
theorem ggX8_turnFirst_X8_makeStream : GoodIn wsX8_turnFirst wsX8_makeStream := goodIn_r _ [39, 40, 41, 42, 3, 2, 33, 34, 11, 43, 44, 12, 13, 14, 7, 15, 10, 16, 45, 46, 47, 48, 1, 49, 50, 51, 52, 22, 53, 25, 54, 55, 56, 57, 23, 26, 27, 28, 74, 75, 76, 77, 78, 79, 80, 81, 82, 83, 84, 85, 86, 87, 88, 89, 90, 91, 92, 93, 94, 95, 96] rfl (by decide +kernel)
set_option maxRecDepth 20000 in
theorem gX8_turnFirst_X8_makeStream : GoodIn wsX8_turnFirst (wsV RX8 114 RX8 yX8_makeStream wsX8_makeStream) := goodIn_app (goodIn_of _ (by decide +kernel)) ggX8_turnFirst_X8_makeStream
set_option maxRecDepth 20000 in
theorem ggX8_turnFirst_X8_add : GoodIn wsX8_turnFirst wsX8_add := goodIn_r _ [61, 10, 9, 62, 63, 64, 7, 65, 44, 74, 75, 76, 77, 78, 79, 80, 81, 82, 83, 84, 85, 86, 87, 88, 89, 90, 91, 92, 93, 94, 95, 96] (by decide +kernel) (by decide +kernel)
set_option maxRecDepth 20000 in
theorem gX8_turnFirst_X8_add : GoodIn wsX8_turnFirst (wsV RX8 118 RX8 yX8_add wsX8_add) := goodIn_app (goodIn_of _ (by decide +kernel)) ggX8_turnFirst_X8_add
set_option maxRecDepth 20000 in
theorem ggX8_turnFirst_X8_change : GoodIn wsX8_turnFirst wsX8_change := goodIn_r _ [69, 33, 34, 2, 3, 9, 74, 75, 76, 77, 78, 79, 80, 81, 82, 83, 84, 85, 86, 87, 88, 89, 90, 91, 92, 93, 94, 95, 96] (by decide +kernel) (by decide +kernel)
set_option maxRecDepth 20000 in
theorem gX8_turnFirst_X8_change : GoodIn wsX8_turnFirst (wsV RX8 122 RX8 yX8_change wsX8_change) := goodIn_app (goodIn_of _ (by decide +kernel)) ggX8_turnFirst_X8_change
set_option maxRecDepth 20000 in
theorem ggX8_turnFirst_X8_join : GoodIn wsX8_turnFirst wsX8_join := goodIn_r _ [73, 1, 35, 33, 3, 2, 74, 75, 76, 77, 78, 79, 80, 81, 82, 83, 84, 85, 86, 87, 88, 89, 90, 91, 92, 93, 94, 95, 96] (by decide +kernel) (by decide +kernel)
set_option maxRecDepth 20000 in
theorem gX8_turnFirst_X8_join : GoodIn wsX8_turnFirst (wsV RX8 126 RX8 yX8_join wsX8_join) := goodIn_app (goodIn_of _ (by decide +kernel)) ggX8_turnFirst_X8_join
theorem dX8_turnFirst_0 : decode cX8_turnFirst 0 = .ok (.aload_n 0, 1) := by decide +kernel
theorem dX8_turnFirst_1 : decode cX8_turnFirst 1 = .ok (.getfield 89, 3) := by decide +kernel
theorem dX8_turnFirst_4 : decode cX8_turnFirst 4 = .ok (.iconst 2, 1) := by decide +kernel
theorem dX8_turnFirst_5 : decode cX8_turnFirst 5 = .ok (.idiv, 1) := by decide +kernel
theorem dX8_turnFirst_6 : decode cX8_turnFirst 6 = .ok (.istore_n 2, 1) := by decide +kernel
theorem dX8_turnFirst_7 : decode cX8_turnFirst 7 = .ok (.aload_n 0, 1) := by decide +kernel
theorem dX8_turnFirst_8 : decode cX8_turnFirst 8 = .ok (.getfield 89, 3) := by decide +kernel
theorem dX8_turnFirst_11 : decode cX8_turnFirst 11 = .ok (.iload_n 2, 1) := by decide +kernel
theorem dX8_turnFirst_12 : decode cX8_turnFirst 12 = .ok (.isub, 1) := by decide +kernel
theorem dX8_turnFirst_13 : decode cX8_turnFirst 13 = .ok (.istore_n 3, 1) := by decide +kernel
theorem dX8_turnFirst_14 : decode cX8_turnFirst 14 = .ok (.aload_n 0, 1) := by decide +kernel
theorem dX8_turnFirst_15 : decode cX8_turnFirst 15 = .ok (.iload_n 3, 1) := by decide +kernel
theorem dX8_turnFirst_16 : decode cX8_turnFirst 16 = .ok (.invokevirtual 104, 3) := by decide +kernel
theorem dX8_turnFirst_19 : decode cX8_turnFirst 19 = .ok (.istore 4, 2) := by decide +kernel
theorem dX8_turnFirst_21 : decode cX8_turnFirst 21 = .ok (.iconst 4, 1) := by decide +kernel
theorem dX8_turnFirst_22 : decode cX8_turnFirst 22 = .ok (.iload 4, 2) := by decide +kernel
theorem dX8_turnFirst_24 : decode cX8_turnFirst 24 = .ok (.iconst 3, 1) := by decide +kernel
theorem dX8_turnFirst_25 : decode cX8_turnFirst 25 = .ok (.iadd, 1) := by decide +kernel
theorem dX8_turnFirst_26 : decode cX8_turnFirst 26 = .ok (.iconst 4, 1) := by decide +kernel
theorem dX8_turnFirst_27 : decode cX8_turnFirst 27 = .ok (.idiv, 1) := by decide +kernel
theorem dX8_turnFirst_28 : decode cX8_turnFirst 28 = .ok (.imul, 1) := by decide +kernel
theorem dX8_turnFirst_29 : decode cX8_turnFirst 29 = .ok (.iconst 4, 1) := by decide +kernel
theorem dX8_turnFirst_30 : decode cX8_turnFirst 30 = .ok (.iadd, 1) := by decide +kernel
theorem dX8_turnFirst_31 : decode cX8_turnFirst 31 = .ok (.istore 5, 2) := by decide +kernel
theorem dX8_turnFirst_33 : decode cX8_turnFirst 33 = .ok (.aload_n 0, 1) := by decide +kernel
theorem dX8_turnFirst_34 : decode cX8_turnFirst 34 = .ok (.iconst 0, 1) := by decide +kernel
theorem dX8_turnFirst_35 : decode cX8_turnFirst 35 = .ok (.invokevirtual 107, 3) := by decide +kernel
theorem dX8_turnFirst_38 : decode cX8_turnFirst 38 = .ok (.aload_n 0, 1) := by decide +kernel
theorem dX8_turnFirst_39 : decode cX8_turnFirst 39 = .ok (.iload_n 2, 1) := by decide +kernel
theorem dX8_turnFirst_40 : decode cX8_turnFirst 40 = .ok (.invokevirtual 111, 3) := by decide +kernel
theorem dX8_turnFirst_43 : decode cX8_turnFirst 43 = .ok (.iconst 0, 1) := by decide +kernel
theorem dX8_turnFirst_44 : decode cX8_turnFirst 44 = .ok (.istore 6, 2) := by decide +kernel
theorem dX8_turnFirst_46 : decode cX8_turnFirst 46 = .ok (.iload 6, 2) := by decide +kernel
theorem dX8_turnFirst_48 : decode cX8_turnFirst 48 = .ok (.bipush 10, 2) := by decide +kernel
theorem dX8_turnFirst_50 : decode cX8_turnFirst 50 = .ok (.if_icmp .ge 83, 3) := by decide +kernel
theorem dX8_turnFirst_53 : decode cX8_turnFirst 53 = .ok (.iload_n 1, 1) := by decide +kernel
theorem dX8_turnFirst_54 : decode cX8_turnFirst 54 = .ok (.ifCond .eq 11, 3) := by decide +kernel
theorem dX8_turnFirst_57 : decode cX8_turnFirst 57 = .ok (.bipush 9, 2) := by decide +kernel
theorem dX8_turnFirst_59 : decode cX8_turnFirst 59 = .ok (.iload 6, 2) := by decide +kernel
theorem dX8_turnFirst_61 : decode cX8_turnFirst 61 = .ok (.isub, 1) := by decide +kernel
theorem dX8_turnFirst_62 : decode cX8_turnFirst 62 = .ok (.goto 5, 3) := by decide +kernel
theorem dX8_turnFirst_65 : decode cX8_turnFirst 65 = .ok (.iload 6, 2) := by decide +kernel
theorem dX8_turnFirst_67 : decode cX8_turnFirst 67 = .ok (.istore 7, 2) := by decide +kernel
theorem dX8_turnFirst_69 : decode cX8_turnFirst 69 = .ok (.iload 7, 2) := by decide +kernel
theorem dX8_turnFirst_71 : decode cX8_turnFirst 71 = .ok (.iconst 2, 1) := by decide +kernel
theorem dX8_turnFirst_72 : decode cX8_turnFirst 72 = .ok (.irem, 1) := by decide +kernel
theorem dX8_turnFirst_73 : decode cX8_turnFirst 73 = .ok (.ifCond .ne 7, 3) := by decide +kernel
theorem dX8_turnFirst_76 : decode cX8_turnFirst 76 = .ok (.iload_n 2, 1) := by decide +kernel
theorem dX8_turnFirst_77 : decode cX8_turnFirst 77 = .ok (.goto 4, 3) := by decide +kernel
theorem dX8_turnFirst_80 : decode cX8_turnFirst 80 = .ok (.iload_n 3, 1) := by decide +kernel
theorem dX8_turnFirst_81 : decode cX8_turnFirst 81 = .ok (.istore 8, 2) := by decide +kernel
theorem dX8_turnFirst_83 : decode cX8_turnFirst 83 = .ok (.aload_n 0, 1) := by decide +kernel
theorem dX8_turnFirst_84 : decode cX8_turnFirst 84 = .ok (.iload_n 2, 1) := by decide +kernel
theorem dX8_turnFirst_85 : decode cX8_turnFirst 85 = .ok (.iload 7, 2) := by decide +kernel
theorem dX8_turnFirst_87 : decode cX8_turnFirst 87 = .ok (.iload 4, 2) := by decide +kernel
theorem dX8_turnFirst_89 : decode cX8_turnFirst 89 = .ok (.iload 5, 2) := by decide +kernel
theorem dX8_turnFirst_91 : decode cX8_turnFirst 91 = .ok (.iload_n 1, 1) := by decide +kernel
theorem dX8_turnFirst_92 : decode cX8_turnFirst 92 = .ok (.invokevirtual 114, 3) := by decide +kernel
theorem dX8_turnFirst_95 : decode cX8_turnFirst 95 = .ok (.aload_n 0, 1) := by decide +kernel
theorem dX8_turnFirst_96 : decode cX8_turnFirst 96 = .ok (.iload_n 1, 1) := by decide +kernel
theorem dX8_turnFirst_97 : decode cX8_turnFirst 97 = .ok (.ifCond .eq 10, 3) := by decide +kernel
