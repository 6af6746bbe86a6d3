theorem dX4_isNumeral_4 : decode cX4_isNumeral 4 = .ok (.iload_n 1, 1) := by decide +kernel
theorem dX4_isNumeral_5 : decode cX4_isNumeral 5 = .ok (.aload_n 0, 1) := by decide +kernel
theorem dX4_isNumeral_6 : decode cX4_isNumeral 6 = .ok (.getfield 15, 3) := by decide +kernel
theorem dX4_isNumeral_9 : decode cX4_isNumeral 9 = .ok (.if_icmp .ge 7, 3) := by decide +kernel
theorem dX4_isNumeral_12 : decode cX4_isNumeral 12 = .ok (.iconst 1, 1) := by decide +kernel
theorem dX4_isNumeral_13 : decode cX4_isNumeral 13 = .ok (.goto 4, 3) := by decide +kernel
theorem dX4_isNumeral_16 : decode cX4_isNumeral 16 = .ok (.iconst 0, 1) := by decide +kernel
theorem dX4_isNumeral_17 : decode cX4_isNumeral 17 = .ok (.ireturn, 1) := by decide +kernel
theorem dX4_isLongEnough_0 : decode cX4_isLongEnough 0 = .ok (.lconst 1, 1) := by decide +kernel
theorem dX4_isLongEnough_1 : decode cX4_isLongEnough 1 = .ok (.lstore_n 1, 1) := by decide +kernel
theorem dX4_isLongEnough_2 : decode cX4_isLongEnough 2 = .ok (.iconst 0, 1) := by decide +kernel
theorem dX4_isLongEnough_3 : decode cX4_isLongEnough 3 = .ok (.istore_n 3, 1) := by decide +kernel
theorem dX4_isLongEnough_4 : decode cX4_isLongEnough 4 = .ok (.iload_n 3, 1) := by decide +kernel
theorem dX4_isLongEnough_5 : decode cX4_isLongEnough 5 = .ok (.aload_n 0, 1) := by decide +kernel
theorem dX4_isLongEnough_6 : decode cX4_isLongEnough 6 = .ok (.getfield 19, 3) := by decide +kernel
theorem dX4_isLongEnough_9 : decode cX4_isLongEnough 9 = .ok (.if_icmp .ge 25, 3) := by decide +kernel
theorem dX4_isLongEnough_12 : decode cX4_isLongEnough 12 = .ok (.lload_n 1, 1) := by decide +kernel
theorem dX4_isLongEnough_13 : decode cX4_isLongEnough 13 = .ok (.ldc2_w 22, 3) := by decide +kernel
theorem dX4_isLongEnough_16 : decode cX4_isLongEnough 16 = .ok (.lcmp, 1) := by decide +kernel
theorem dX4_isLongEnough_17 : decode cX4_isLongEnough 17 = .ok (.ifCond .ge 17, 3) := by decide +kernel
theorem dX4_isLongEnough_20 : decode cX4_isLongEnough 20 = .ok (.lload_n 1, 1) := by decide +kernel
theorem dX4_isLongEnough_21 : decode cX4_isLongEnough 21 = .ok (.aload_n 0, 1) := by decide +kernel
theorem dX4_isLongEnough_22 : decode cX4_isLongEnough 22 = .ok (.getfield 15, 3) := by decide +kernel
theorem dX4_isLongEnough_25 : decode cX4_isLongEnough 25 = .ok (.i2l, 1) := by decide +kernel
theorem dX4_isLongEnough_26 : decode cX4_isLongEnough 26 = .ok (.lmul, 1) := by decide +kernel
theorem dX4_isLongEnough_27 : decode cX4_isLongEnough 27 = .ok (.lstore_n 1, 1) := by decide +kernel
theorem dX4_isLongEnough_28 : decode cX4_isLongEnough 28 = .ok (.iinc 3 1, 3) := by decide +kernel
theorem dX4_isLongEnough_31 : decode cX4_isLongEnough 31 = .ok (.goto (-27), 3) := by decide +kernel
theorem dX4_isLongEnough_34 : decode cX4_isLongEnough 34 = .ok (.aload_n 0, 1) := by decide +kernel
theorem dX4_isLongEnough_35 : decode cX4_isLongEnough 35 = .ok (.getfield 19, 3) := by decide +kernel
theorem dX4_isLongEnough_38 : decode cX4_isLongEnough 38 = .ok (.iconst 2, 1) := by decide +kernel
theorem dX4_isLongEnough_39 : decode cX4_isLongEnough 39 = .ok (.if_icmp .lt 15, 3) := by decide +kernel
theorem dX4_isLongEnough_42 : decode cX4_isLongEnough 42 = .ok (.lload_n 1, 1) := by decide +kernel
theorem dX4_isLongEnough_43 : decode cX4_isLongEnough 43 = .ok (.ldc2_w 22, 3) := by decide +kernel
theorem dX4_isLongEnough_46 : decode cX4_isLongEnough 46 = .ok (.lcmp, 1) := by decide +kernel
theorem dX4_isLongEnough_47 : decode cX4_isLongEnough 47 = .ok (.ifCond .lt 7, 3) := by decide +kernel
theorem dX4_isLongEnough_50 : decode cX4_isLongEnough 50 = .ok (.iconst 1, 1) := by decide +kernel
theorem dX4_isLongEnough_51 : decode cX4_isLongEnough 51 = .ok (.goto 4, 3) := by decide +kernel
theorem dX4_isLongEnough_54 : decode cX4_isLongEnough 54 = .ok (.iconst 0, 1) := by decide +kernel
theorem dX4_isLongEnough_55 : decode cX4_isLongEnough 55 = .ok (.ireturn, 1) := by decide +kernel
set_option maxRecDepth 20000 in
theorem ggX4_widthOf_X3_clear : GoodIn wsX4_widthOf wsX3_clear := goodIn_r _ [6, 7, 8, 9, 10, 11, 12, 33, 34] (by decide +kernel) (by decide +kernel)
set_option maxRecDepth 20000 in
theorem gX4_widthOf_X3_clear : GoodIn wsX4_widthOf (wsV RX4 24 RX3 yX3_clear wsX3_clear) := goodIn_app (goodIn_of _ (by decide +kernel)) ggX4_widthOf_X3_clear
set_option maxRecDepth 20000 in
theorem ggX4_widthOf_X3_multiplyAndAdd : GoodIn wsX4_widthOf wsX3_multiplyAndAdd := goodIn_r _ [16, 8, 7, 17, 18, 19, 20, 5, 21, 22, 23, 24, 25, 33, 34] (by decide +kernel) (by decide +kernel)
set_option maxRecDepth 20000 in
theorem gX4_widthOf_X3_multiplyAndAdd : GoodIn wsX4_widthOf (wsV RX4 29 RX3 yX3_multiplyAndAdd wsX3_multiplyAndAdd) := goodIn_app (goodIn_of _ (by decide +kernel)) ggX4_widthOf_X3_multiplyAndAdd
set_option maxRecDepth 20000 in
theorem ggX4_widthOf_X3_byteCount : GoodIn wsX4_widthOf wsX3_byteCount := goodIn_r _ [29, 8, 7, 33, 34] (by decide +kernel) (by decide +kernel)
set_option maxRecDepth 20000 in
theorem gX4_widthOf_X3_byteCount : GoodIn wsX4_widthOf (wsV RX4 33 RX3 yX3_byteCount wsX3_byteCount) := goodIn_app (goodIn_of _ (by decide +kernel)) ggX4_widthOf_X3_byteCount
theorem dX4_widthOf_0 : decode cX4_widthOf 0 = .ok (.aload_n 2, 1) := by decide +kernel
theorem dX4_widthOf_1 : decode cX4_widthOf 1 = .ok (.invokevirtual 24, 3) := by decide +kernel
theorem dX4_widthOf_4 : decode cX4_widthOf 4 = .ok (.iconst 0, 1) := by decide +kernel
theorem dX4_widthOf_5 : decode cX4_widthOf 5 = .ok (.istore_n 3, 1) := by decide +kernel
theorem dX4_widthOf_6 : decode cX4_widthOf 6 = .ok (.iload_n 3, 1) := by decide +kernel
theorem dX4_widthOf_7 : decode cX4_widthOf 7 = .ok (.iload_n 1, 1) := by decide +kernel
theorem dX4_widthOf_8 : decode cX4_widthOf 8 = .ok (.if_icmp .ge 23, 3) := by decide +kernel
theorem dX4_widthOf_11 : decode cX4_widthOf 11 = .ok (.aload_n 2, 1) := by decide +kernel
theorem dX4_widthOf_12 : decode cX4_widthOf 12 = .ok (.aload_n 0, 1) := by decide +kernel
theorem dX4_widthOf_13 : decode cX4_widthOf 13 = .ok (.getfield 15, 3) := by decide +kernel
theorem dX4_widthOf_16 : decode cX4_widthOf 16 = .ok (.aload_n 0, 1) := by decide +kernel
theorem dX4_widthOf_17 : decode cX4_widthOf 17 = .ok (.getfield 15, 3) := by decide +kernel
theorem dX4_widthOf_20 : decode cX4_widthOf 20 = .ok (.iconst 1, 1) := by decide +kernel
theorem dX4_widthOf_21 : decode cX4_widthOf 21 = .ok (.isub, 1) := by decide +kernel
theorem dX4_widthOf_22 : decode cX4_widthOf 22 = .ok (.invokevirtual 29, 3) := by decide +kernel
theorem dX4_widthOf_25 : decode cX4_widthOf 25 = .ok (.iinc 3 1, 3) := by decide +kernel
theorem dX4_widthOf_28 : decode cX4_widthOf 28 = .ok (.goto (-22), 3) := by decide +kernel
theorem dX4_widthOf_31 : decode cX4_widthOf 31 = .ok (.aload_n 2, 1) := by decide +kernel
theorem dX4_widthOf_32 : decode cX4_widthOf 32 = .ok (.invokevirtual 33, 3) := by decide +kernel
theorem dX4_widthOf_35 : decode cX4_widthOf 35 = .ok (.ireturn, 1) := by decide +kernel
set_option maxRecDepth 20000 in
theorem ggX4_readPart_X3_clear : GoodIn wsX4_readPart wsX3_clear := goodIn_r _ [7, 8, 9, 10, 11, 12, 13, 34, 35] (by decide +kernel) (by decide +kernel)
set_option maxRecDepth 20000 in
theorem gX4_readPart_X3_clear : GoodIn wsX4_readPart (wsV RX4 24 RX3 yX3_clear wsX3_clear) := goodIn_app (goodIn_of _ (by decide +kernel)) ggX4_readPart_X3_clear
set_option maxRecDepth 20000 in
theorem ggX4_readPart_X4_placeOf : GoodIn wsX4_readPart wsX4_placeOf := goodIn_r _ [17] (by decide +kernel) (by decide +kernel)
set_option maxRecDepth 20000 in
theorem gX4_readPart_X4_placeOf : GoodIn wsX4_readPart (va_wsS RX4 37 yX4_placeOf wsX4_placeOf) := goodIn_app (goodIn_of _ (by decide +kernel)) ggX4_readPart_X4_placeOf
set_option maxRecDepth 20000 in
theorem ggX4_readPart_X3_multiplyAndAdd : GoodIn wsX4_readPart wsX3_multiplyAndAdd := goodIn_r _ [21, 9, 8, 22, 23, 24, 25, 6, 26, 27, 28, 29, 30, 34, 35] (by decide +kernel) (by decide +kernel)
set_option maxRecDepth 20000 in
theorem gX4_readPart_X3_multiplyAndAdd : GoodIn wsX4_readPart (wsV RX4 29 RX3 yX3_multiplyAndAdd wsX3_multiplyAndAdd) := goodIn_app (goodIn_of _ (by decide +kernel)) ggX4_readPart_X3_multiplyAndAdd
theorem dX4_readPart_0 : decode cX4_readPart 0 = .ok (.aload 4, 2) := by decide +kernel
theorem dX4_readPart_2 : decode cX4_readPart 2 = .ok (.invokevirtual 24, 3) := by decide +kernel
theorem dX4_readPart_5 : decode cX4_readPart 5 = .ok (.iload_n 2, 1) := by decide +kernel
theorem dX4_readPart_6 : decode cX4_readPart 6 = .ok (.iconst 1, 1) := by decide +kernel
theorem dX4_readPart_7 : decode cX4_readPart 7 = .ok (.isub, 1) := by decide +kernel
theorem dX4_readPart_8 : decode cX4_readPart 8 = .ok (.istore 5, 2) := by decide +kernel
theorem dX4_readPart_10 : decode cX4_readPart 10 = .ok (.iload 5, 2) := by decide +kernel
theorem dX4_readPart_12 : decode cX4_readPart 12 = .ok (.ifCond .lt 31, 3) := by decide +kernel
theorem dX4_readPart_15 : decode cX4_readPart 15 = .ok (.aload 4, 2) := by decide +kernel
theorem dX4_readPart_17 : decode cX4_readPart 17 = .ok (.aload_n 0, 1) := by decide +kernel
theorem dX4_readPart_18 : decode cX4_readPart 18 = .ok (.getfield 15, 3) := by decide +kernel
theorem dX4_readPart_21 : decode cX4_readPart 21 = .ok (.aload_n 0, 1) := by decide +kernel
theorem dX4_readPart_22 : decode cX4_readPart 22 = .ok (.getfield 9, 3) := by decide +kernel
theorem dX4_readPart_25 : decode cX4_readPart 25 = .ok (.iload 5, 2) := by decide +kernel
theorem dX4_readPart_27 : decode cX4_readPart 27 = .ok (.iload_n 1, 1) := by decide +kernel
theorem dX4_readPart_28 : decode cX4_readPart 28 = .ok (.iload_n 2, 1) := by decide +kernel
theorem dX4_readPart_29 : decode cX4_readPart 29 = .ok (.iload_n 3, 1) := by decide +kernel
theorem dX4_readPart_30 : decode cX4_readPart 30 = .ok (.invokestatic 37, 3) := by decide +kernel
theorem dX4_readPart_33 : decode cX4_readPart 33 = .ok (.iaload, 1) := by decide +kernel
theorem dX4_readPart_34 : decode cX4_readPart 34 = .ok (.invokevirtual 29, 3) := by decide +kernel
theorem dX4_readPart_37 : decode cX4_readPart 37 = .ok (.iinc 5 (-1), 3) := by decide +kernel
theorem dX4_readPart_40 : decode cX4_readPart 40 = .ok (.goto (-30), 3) := by decide +kernel
theorem dX4_readPart_43 : decode cX4_readPart 43 = .ok (.return_, 1) := by decide +kernel
set_option maxRecDepth 20000 in
theorem ggX4_shiftPart_X4_placeOf : GoodIn wsX4_shiftPart wsX4_placeOf := goodIn_r _ [6] (by decide +kernel) (by decide +kernel)
set_option maxRecDepth 20000 in
theorem gX4_shiftPart_X4_placeOf : GoodIn wsX4_shiftPart (va_wsS RX4 37 yX4_placeOf wsX4_placeOf) := goodIn_app (goodIn_of _ (by decide +kernel)) ggX4_shiftPart_X4_placeOf
set_option maxRecDepth 20000 in
theorem ggX4_shiftPart_X3_divide : GoodIn wsX4_shiftPart wsX3_divide := goodIn_r _ [11, 12, 13, 14, 22, 23] (by decide +kernel) (by decide +kernel)
set_option maxRecDepth 20000 in
theorem gX4_shiftPart_X3_divide : GoodIn wsX4_shiftPart (wsV RX4 41 RX3 yX3_divide wsX3_divide) := goodIn_app (goodIn_of _ (by decide +kernel)) ggX4_shiftPart_X3_divide
set_option maxRecDepth 20000 in
theorem ggX4_shiftPart_X4_isNumeral : GoodIn wsX4_shiftPart wsX4_isNumeral := goodIn_r _ [18, 1, 19, 20, 21] (by decide +kernel) (by decide +kernel)
set_option maxRecDepth 20000 in
theorem gX4_shiftPart_X4_isNumeral : GoodIn wsX4_shiftPart (wsV RX4 45 RX4 yX4_isNumeral wsX4_isNumeral) := goodIn_app (goodIn_of _ (by decide +kernel)) ggX4_shiftPart_X4_isNumeral
theorem dX4_shiftPart_0 : decode cX4_shiftPart 0 = .ok (.iconst 0, 1) := by decide +kernel
theorem dX4_shiftPart_1 : decode cX4_shiftPart 1 = .ok (.istore 6, 2) := by decide +kernel
theorem dX4_shiftPart_3 : decode cX4_shiftPart 3 = .ok (.iconst 0, 1) := by decide +kernel
theorem dX4_shiftPart_4 : decode cX4_shiftPart 4 = .ok (.istore 7, 2) := by decide +kernel
theorem dX4_shiftPart_6 : decode cX4_shiftPart 6 = .ok (.iload 7, 2) := by decide +kernel
theorem dX4_shiftPart_8 : decode cX4_shiftPart 8 = .ok (.iload_n 2, 1) := by decide +kernel
theorem dX4_shiftPart_9 : decode cX4_shiftPart 9 = .ok (.if_icmp .ge 118, 3) := by decide +kernel
theorem dX4_shiftPart_12 : decode cX4_shiftPart 12 = .ok (.iload 7, 2) := by decide +kernel
theorem dX4_shiftPart_14 : decode cX4_shiftPart 14 = .ok (.iload_n 1, 1) := by decide +kernel
theorem dX4_shiftPart_15 : decode cX4_shiftPart 15 = .ok (.iload_n 2, 1) := by decide +kernel
theorem dX4_shiftPart_16 : decode cX4_shiftPart 16 = .ok (.iload_n 3, 1) := by decide +kernel
theorem dX4_shiftPart_17 : decode cX4_shiftPart 17 = .ok (.invokestatic 37, 3) := by decide +kernel
theorem dX4_shiftPart_20 : decode cX4_shiftPart 20 = .ok (.istore 8, 2) := by decide +kernel
theorem dX4_shiftPart_22 : decode cX4_shiftPart 22 = .ok (.aload 4, 2) := by decide +kernel
theorem dX4_shiftPart_24 : decode cX4_shiftPart 24 = .ok (.aload_n 0, 1) := by decide +kernel
theorem dX4_shiftPart_25 : decode cX4_shiftPart 25 = .ok (.getfield 15, 3) := by decide +kernel
theorem dX4_shiftPart_28 : decode cX4_shiftPart 28 = .ok (.invokevirtual 41, 3) := by decide +kernel
theorem dX4_shiftPart_31 : decode cX4_shiftPart 31 = .ok (.iload 6, 2) := by decide +kernel
theorem dX4_shiftPart_33 : decode cX4_shiftPart 33 = .ok (.iadd, 1) := by decide +kernel
theorem dX4_shiftPart_34 : decode cX4_shiftPart 34 = .ok (.istore 9, 2) := by decide +kernel
theorem dX4_shiftPart_36 : decode cX4_shiftPart 36 = .ok (.iload 5, 2) := by decide +kernel
theorem dX4_shiftPart_38 : decode cX4_shiftPart 38 = .ok (.ifCond .eq 16, 3) := by decide +kernel
theorem dX4_shiftPart_41 : decode cX4_shiftPart 41 = .ok (.aload_n 0, 1) := by decide +kernel
theorem dX4_shiftPart_42 : decode cX4_shiftPart 42 = .ok (.getfield 9, 3) := by decide +kernel
theorem dX4_shiftPart_45 : decode cX4_shiftPart 45 = .ok (.iload 8, 2) := by decide +kernel
theorem dX4_shiftPart_47 : decode cX4_shiftPart 47 = .ok (.iaload, 1) := by decide +kernel
theorem dX4_shiftPart_48 : decode cX4_shiftPart 48 = .ok (.iload 9, 2) := by decide +kernel
theorem dX4_shiftPart_50 : decode cX4_shiftPart 50 = .ok (.isub, 1) := by decide +kernel
theorem dX4_shiftPart_51 : decode cX4_shiftPart 51 = .ok (.goto 13, 3) := by decide +kernel
theorem dX4_shiftPart_54 : decode cX4_shiftPart 54 = .ok (.aload_n 0, 1) := by decide +kernel
theorem dX4_shiftPart_55 : decode cX4_shiftPart 55 = .ok (.getfield 9, 3) := by decide +kernel
theorem dX4_shiftPart_58 : decode cX4_shiftPart 58 = .ok (.iload 8, 2) := by decide +kernel
theorem dX4_shiftPart_60 : decode cX4_shiftPart 60 = .ok (.iaload, 1) := by decide +kernel
theorem dX4_shiftPart_61 : decode cX4_shiftPart 61 = .ok (.iload 9, 2) := by decide +kernel
theorem dX4_shiftPart_63 : decode cX4_shiftPart 63 = .ok (.iadd, 1) := by decide +kernel
theorem dX4_shiftPart_64 : decode cX4_shiftPart 64 = .ok (.istore 10, 2) := by decide +kernel
theorem dX4_shiftPart_66 : decode cX4_shiftPart 66 = .ok (.aload_n 0, 1) := by decide +kernel
theorem dX4_shiftPart_67 : decode cX4_shiftPart 67 = .ok (.iload 10, 2) := by decide +kernel
theorem dX4_shiftPart_69 : decode cX4_shiftPart 69 = .ok (.invokevirtual 45, 3) := by decide +kernel
theorem dX4_shiftPart_72 : decode cX4_shiftPart 72 = .ok (.ifCond .eq 7, 3) := by decide +kernel
theorem dX4_shiftPart_75 : decode cX4_shiftPart 75 = .ok (.iconst 0, 1) := by decide +kernel
theorem dX4_shiftPart_76 : decode cX4_shiftPart 76 = .ok (.goto 4, 3) := by decide +kernel
theorem dX4_shiftPart_79 : decode cX4_shiftPart 79 = .ok (.iconst 1, 1) := by decide +kernel
theorem dX4_shiftPart_80 : decode cX4_shiftPart 80 = .ok (.istore 6, 2) := by decide +kernel
theorem dX4_shiftPart_82 : decode cX4_shiftPart 82 = .ok (.iload 6, 2) := by decide +kernel
theorem dX4_shiftPart_84 : decode cX4_shiftPart 84 = .ok (.iconst 1, 1) := by decide +kernel
theorem dX4_shiftPart_85 : decode cX4_shiftPart 85 = .ok (.if_icmp .ne 27, 3) := by decide +kernel
theorem dX4_shiftPart_88 : decode cX4_shiftPart 88 = .ok (.iload 5, 2) := by decide +kernel
theorem dX4_shiftPart_90 : decode cX4_shiftPart 90 = .ok (.ifCond .eq 13, 3) := by decide +kernel
theorem dX4_shiftPart_93 : decode cX4_shiftPart 93 = .ok (.iload 10, 2) := by decide +kernel
theorem dX4_shiftPart_95 : decode cX4_shiftPart 95 = .ok (.aload_n 0, 1) := by decide +kernel
theorem dX4_shiftPart_96 : decode cX4_shiftPart 96 = .ok (.getfield 15, 3) := by decide +kernel
theorem dX4_shiftPart_99 : decode cX4_shiftPart 99 = .ok (.iadd, 1) := by decide +kernel
theorem dX4_shiftPart_100 : decode cX4_shiftPart 100 = .ok (.goto 10, 3) := by decide +kernel
theorem dX4_shiftPart_103 : decode cX4_shiftPart 103 = .ok (.iload 10, 2) := by decide +kernel
theorem dX4_shiftPart_105 : decode cX4_shiftPart 105 = .ok (.aload_n 0, 1) := by decide +kernel
theorem dX4_shiftPart_106 : decode cX4_shiftPart 106 = .ok (.getfield 15, 3) := by decide +kernel
theorem dX4_shiftPart_109 : decode cX4_shiftPart 109 = .ok (.isub, 1) := by decide +kernel
theorem dX4_shiftPart_110 : decode cX4_shiftPart 110 = .ok (.istore 10, 2) := by decide +kernel
theorem dX4_shiftPart_112 : decode cX4_shiftPart 112 = .ok (.aload_n 0, 1) := by decide +kernel
theorem dX4_shiftPart_113 : decode cX4_shiftPart 113 = .ok (.getfield 9, 3) := by decide +kernel
theorem dX4_shiftPart_116 : decode cX4_shiftPart 116 = .ok (.iload 8, 2) := by decide +kernel
theorem dX4_shiftPart_118 : decode cX4_shiftPart 118 = .ok (.iload 10, 2) := by decide +kernel
theorem dX4_shiftPart_120 : decode cX4_shiftPart 120 = .ok (.iastore, 1) := by decide +kernel
theorem dX4_shiftPart_121 : decode cX4_shiftPart 121 = .ok (.iinc 7 1, 3) := by decide +kernel
theorem dX4_shiftPart_124 : decode cX4_shiftPart 124 = .ok (.goto (-118), 3) := by decide +kernel
theorem dX4_shiftPart_127 : decode cX4_shiftPart 127 = .ok (.return_, 1) := by decide +kernel
theorem dX4_placeOf_0 : decode cX4_placeOf 0 = .ok (.iload_n 3, 1) := by decide +kernel
theorem dX4_placeOf_1 : decode cX4_placeOf 1 = .ok (.ifCond .eq 9, 3) := by decide +kernel
theorem dX4_placeOf_4 : decode cX4_placeOf 4 = .ok (.iload_n 1, 1) := by decide +kernel
theorem dX4_placeOf_5 : decode cX4_placeOf 5 = .ok (.iload_n 0, 1) := by decide +kernel
theorem dX4_placeOf_6 : decode cX4_placeOf 6 = .ok (.iadd, 1) := by decide +kernel
theorem dX4_placeOf_7 : decode cX4_placeOf 7 = .ok (.goto 10, 3) := by decide +kernel
theorem dX4_placeOf_10 : decode cX4_placeOf 10 = .ok (.iload_n 1, 1) := by decide +kernel
theorem dX4_placeOf_11 : decode cX4_placeOf 11 = .ok (.iload_n 2, 1) := by decide +kernel
theorem dX4_placeOf_12 : decode cX4_placeOf 12 = .ok (.iadd, 1) := by decide +kernel
theorem dX4_placeOf_13 : decode cX4_placeOf 13 = .ok (.iconst 1, 1) := by decide +kernel
theorem dX4_placeOf_14 : decode cX4_placeOf 14 = .ok (.isub, 1) := by decide +kernel
theorem dX4_placeOf_15 : decode cX4_placeOf 15 = .ok (.iload_n 0, 1) := by decide +kernel
theorem dX4_placeOf_16 : decode cX4_placeOf 16 = .ok (.isub, 1) := by decide +kernel
theorem dX4_placeOf_17 : decode cX4_placeOf 17 = .ok (.ireturn, 1) := by decide +kernel
set_option maxRecDepth 20000 in
theorem ggX5_init_X6_init : GoodIn wsX5_init wsX6_init := goodIn_r _ [5, 6, 7, 8, 9, 10, 11, 12, 13, 14, 15, 1, 16, 17, 22, 23, 24, 25, 26, 27, 28, 29, 30, 31, 32, 18, 19, 20, 21] (by decide +kernel) (by decide +kernel)
set_option maxRecDepth 20000 in
theorem gX5_init_X6_init_n3 : GoodIn wsX5_init (wsX6_init) := ggX5_init_X6_init
theorem dX5_init_0 : decode cX5_init 0 = .ok (.aload_n 0, 1) := by decide +kernel
theorem dX5_init_1 : decode cX5_init 1 = .ok (.invokespecial 3, 3) := by decide +kernel
theorem dX5_init_4 : decode cX5_init 4 = .ok (.aload_n 0, 1) := by decide +kernel
theorem dX5_init_5 : decode cX5_init 5 = .ok (.iconst 4, 1) := by decide +kernel
theorem dX5_init_6 : decode cX5_init 6 = .ok (.newarray .int, 2) := by decide +kernel
theorem dX5_init_8 : decode cX5_init 8 = .ok (.putfield 9, 3) := by decide +kernel
theorem dX5_init_11 : decode cX5_init 11 = .ok (.return_, 1) := by decide +kernel
theorem dX5_rounds_0 : decode cX5_rounds 0 = .ok (.bipush 8, 2) := by decide +kernel
theorem dX5_rounds_2 : decode cX5_rounds 2 = .ok (.ireturn, 1) := by decide +kernel
theorem dX5_firstHalf_0 : decode cX5_firstHalf 0 = .ok (.iload_n 1, 1) := by decide +kernel
theorem dX5_firstHalf_1 : decode cX5_firstHalf 1 = .ok (.iload_n 1, 1) := by decide +kernel
theorem dX5_firstHalf_2 : decode cX5_firstHalf 2 = .ok (.iconst 2, 1) := by decide +kernel
theorem dX5_firstHalf_3 : decode cX5_firstHalf 3 = .ok (.idiv, 1) := by decide +kernel
theorem dX5_firstHalf_4 : decode cX5_firstHalf 4 = .ok (.isub, 1) := by decide +kernel
theorem dX5_firstHalf_5 : decode cX5_firstHalf 5 = .ok (.ireturn, 1) := by decide +kernel
theorem dX5_lowestFirst_0 : decode cX5_lowestFirst 0 = .ok (.iconst 1, 1) := by decide +kernel
theorem dX5_lowestFirst_1 : decode cX5_lowestFirst 1 = .ok (.ireturn, 1) := by decide +kernel
set_option maxRecDepth 20000 in
theorem ggX5_takes_X5_firstHalf : GoodIn wsX5_takes wsX5_firstHalf := goodIn_r _ [5] (by decide +kernel) (by decide +kernel)
set_option maxRecDepth 20000 in
theorem gX5_takes_X5_firstHalf : GoodIn wsX5_takes (wsV RX5 24 RX5 yX5_firstHalf wsX5_firstHalf) := goodIn_app (goodIn_of _ (by decide +kernel)) ggX5_takes_X5_firstHalf
set_option maxRecDepth 20000 in
theorem ggX5_takes_X4_widthOf : GoodIn wsX5_takes wsX4_widthOf := goodIn_r _ [10, 11, 12, 13, 14, 15, 16, 17, 18, 19, 20, 21, 22, 23, 24, 25, 26, 27, 28, 29, 30, 31, 32, 33, 34, 35, 36, 37, 38, 39, 42, 43, 44, 45, 46] (by decide +kernel) (by decide +kernel)
set_option maxRecDepth 20000 in
theorem gX5_takes_X4_widthOf : GoodIn wsX5_takes (wsV RX5 28 RX4 yX4_widthOf wsX4_widthOf) := goodIn_app (goodIn_of _ (by decide +kernel)) ggX5_takes_X4_widthOf
theorem dX5_takes_0 : decode cX5_takes 0 = .ok (.aload_n 2, 1) := by decide +kernel
theorem dX5_takes_1 : decode cX5_takes 1 = .ok (.getfield 15, 3) := by decide +kernel
theorem dX5_takes_4 : decode cX5_takes 4 = .ok (.bipush 7, 2) := by decide +kernel
theorem dX5_takes_6 : decode cX5_takes 6 = .ok (.if_icmp .ne 25, 3) := by decide +kernel
theorem dX5_takes_9 : decode cX5_takes 9 = .ok (.aload_n 1, 1) := by decide +kernel
theorem dX5_takes_10 : decode cX5_takes 10 = .ok (.aload_n 0, 1) := by decide +kernel
theorem dX5_takes_11 : decode cX5_takes 11 = .ok (.aload_n 1, 1) := by decide +kernel
theorem dX5_takes_12 : decode cX5_takes 12 = .ok (.getfield 21, 3) := by decide +kernel
theorem dX5_takes_15 : decode cX5_takes 15 = .ok (.invokevirtual 24, 3) := by decide +kernel
theorem dX5_takes_18 : decode cX5_takes 18 = .ok (.aload_n 3, 1) := by decide +kernel
theorem dX5_takes_19 : decode cX5_takes 19 = .ok (.invokevirtual 28, 3) := by decide +kernel
theorem dX5_takes_22 : decode cX5_takes 22 = .ok (.bipush 12, 2) := by decide +kernel
theorem dX5_takes_24 : decode cX5_takes 24 = .ok (.if_icmp .gt 7, 3) := by decide +kernel
theorem dX5_takes_27 : decode cX5_takes 27 = .ok (.iconst 1, 1) := by decide +kernel
theorem dX5_takes_28 : decode cX5_takes 28 = .ok (.goto 4, 3) := by decide +kernel
theorem dX5_takes_31 : decode cX5_takes 31 = .ok (.iconst 0, 1) := by decide +kernel
theorem dX5_takes_32 : decode cX5_takes 32 = .ok (.ireturn, 1) := by decide +kernel
set_option maxRecDepth 20000 in
theorem ggX5_begin_X1_wordAt : GoodIn wsX5_begin wsX1_wordAt := goodIn_r _ [7, 8, 13, 14] (by decide +kernel) (by decide +kernel)
set_option maxRecDepth 20000 in
theorem gX5_begin_X1_wordAt : GoodIn wsX5_begin (wsV RX5 32 RX1 yX1_wordAt wsX1_wordAt) := goodIn_app (goodIn_of _ (by decide +kernel)) ggX5_begin_X1_wordAt
theorem dX5_begin_0 : decode cX5_begin 0 = .ok (.aload_n 2, 1) := by decide +kernel
theorem dX5_begin_1 : decode cX5_begin 1 = .ok (.iconst 0, 1) := by decide +kernel
theorem dX5_begin_2 : decode cX5_begin 2 = .ok (.invokevirtual 32, 3) := by decide +kernel
theorem dX5_begin_5 : decode cX5_begin 5 = .ok (.istore 4, 2) := by decide +kernel
theorem dX5_begin_7 : decode cX5_begin 7 = .ok (.aload_n 0, 1) := by decide +kernel
theorem dX5_begin_8 : decode cX5_begin 8 = .ok (.iload 4, 2) := by decide +kernel
theorem dX5_begin_10 : decode cX5_begin 10 = .ok (.bipush (-16), 2) := by decide +kernel
theorem dX5_begin_12 : decode cX5_begin 12 = .ok (.iand, 1) := by decide +kernel
theorem dX5_begin_13 : decode cX5_begin 13 = .ok (.putfield 35, 3) := by decide +kernel
theorem dX5_begin_16 : decode cX5_begin 16 = .ok (.aload_n 0, 1) := by decide +kernel
theorem dX5_begin_17 : decode cX5_begin 17 = .ok (.aload_n 2, 1) := by decide +kernel
theorem dX5_begin_18 : decode cX5_begin 18 = .ok (.iconst 1, 1) := by decide +kernel
theorem dX5_begin_19 : decode cX5_begin 19 = .ok (.invokevirtual 32, 3) := by decide +kernel
theorem dX5_begin_22 : decode cX5_begin 22 = .ok (.sipush (-256), 3) := by decide +kernel
theorem dX5_begin_25 : decode cX5_begin 25 = .ok (.iand, 1) := by decide +kernel
theorem dX5_begin_26 : decode cX5_begin 26 = .ok (.iload 4, 2) := by decide +kernel
theorem dX5_begin_28 : decode cX5_begin 28 = .ok (.bipush 15, 2) := by decide +kernel
theorem dX5_begin_30 : decode cX5_begin 30 = .ok (.iand, 1) := by decide +kernel
theorem dX5_begin_31 : decode cX5_begin 31 = .ok (.iconst 4, 1) := by decide +kernel
theorem dX5_begin_32 : decode cX5_begin 32 = .ok (.ishl, 1) := by decide +kernel
theorem dX5_begin_33 : decode cX5_begin 33 = .ok (.ior, 1) := by decide +kernel
theorem dX5_begin_34 : decode cX5_begin 34 = .ok (.putfield 38, 3) := by decide +kernel
theorem dX5_begin_37 : decode cX5_begin 37 = .ok (.return_, 1) := by decide +kernel
set_option maxRecDepth 20000 in
theorem ggX5_makeAddend_X3_wordAt : GoodIn wsX5_makeAddend wsX3_wordAt := goodIn_r _ [10, 11, 12, 75, 76] (by decide +kernel) (by decide +kernel)
set_option maxRecDepth 20000 in
theorem gX5_makeAddend_X3_wordAt : GoodIn wsX5_makeAddend (wsV RX5 41 RX3 yX3_wordAt wsX3_wordAt) := goodIn_app (goodIn_of _ (by decide +kernel)) ggX5_makeAddend_X3_wordAt
set_option maxRecDepth 20000 in
theorem ggX5_makeAddend_X0_bytesTurned : GoodIn wsX5_makeAddend wsX0_bytesTurned := goodIn_r _ [16, 17, 18, 19, 20, 15, 21] (by decide +kernel) (by decide +kernel)
set_option maxRecDepth 20000 in
theorem gX5_makeAddend_X0_bytesTurned : GoodIn wsX5_makeAddend (va_wsS RX5 44 yX0_bytesTurned wsX0_bytesTurned) := goodIn_app (goodIn_of _ (by decide +kernel)) ggX5_makeAddend_X0_bytesTurned
set_option maxRecDepth 20000 in
theorem ggX5_makeAddend_X0_encipher : GoodIn wsX5_makeAddend wsX0_encipher := goodIn_r _ [25, 26, 27, 28, 29, 30, 15, 31, 32, 33, 34, 35, 36, 37, 38, 39, 40, 41, 42, 43, 44, 45, 46, 19, 20, 21, 77, 78, 79] (by decide +kernel) (by decide +kernel)
set_option maxRecDepth 20000 in
theorem gX5_makeAddend_X0_encipher : GoodIn wsX5_makeAddend (wsV RX5 53 RX0 yX0_encipher wsX0_encipher) := goodIn_app (goodIn_of _ (by decide +kernel)) ggX5_makeAddend_X0_encipher
set_option maxRecDepth 20000 in
theorem ggX5_makeAddend_X3_clear : GoodIn wsX5_makeAddend wsX3_clear := goodIn_r _ [50, 12, 11, 51, 52, 53, 54, 75, 76] (by decide +kernel) (by decide +kernel)
set_option maxRecDepth 20000 in
theorem gX5_makeAddend_X3_clear : GoodIn wsX5_makeAddend (wsV RX5 57 RX3 yX3_clear wsX3_clear) := goodIn_app (goodIn_of _ (by decide +kernel)) ggX5_makeAddend_X3_clear
set_option maxRecDepth 20000 in
theorem ggX5_makeAddend_X3_putWord : GoodIn wsX5_makeAddend wsX3_putWord := goodIn_r _ [58, 12, 11, 59, 60, 61, 62, 75, 76] (by decide +kernel) (by decide +kernel)
set_option maxRecDepth 20000 in
theorem gX5_makeAddend_X3_putWord : GoodIn wsX5_makeAddend (wsV RX5 60 RX3 yX3_putWord wsX3_putWord) := goodIn_app (goodIn_of _ (by decide +kernel)) ggX5_makeAddend_X3_putWord
theorem dX5_makeAddend_0 : decode cX5_makeAddend 0 = .ok (.iconst 0, 1) := by decide +kernel
theorem dX5_makeAddend_1 : decode cX5_makeAddend 1 = .ok (.istore_n 3, 1) := by decide +kernel
theorem dX5_makeAddend_2 : decode cX5_makeAddend 2 = .ok (.iload_n 3, 1) := by decide +kernel
theorem dX5_makeAddend_3 : decode cX5_makeAddend 3 = .ok (.iconst 3, 1) := by decide +kernel
theorem dX5_makeAddend_4 : decode cX5_makeAddend 4 = .ok (.if_icmp .ge 23, 3) := by decide +kernel
theorem dX5_makeAddend_7 : decode cX5_makeAddend 7 = .ok (.aload_n 0, 1) := by decide +kernel
theorem dX5_makeAddend_8 : decode cX5_makeAddend 8 = .ok (.getfield 9, 3) := by decide +kernel
theorem dX5_makeAddend_11 : decode cX5_makeAddend 11 = .ok (.iload_n 3, 1) := by decide +kernel
theorem dX5_makeAddend_12 : decode cX5_makeAddend 12 = .ok (.aload_n 2, 1) := by decide +kernel
theorem dX5_makeAddend_13 : decode cX5_makeAddend 13 = .ok (.iload_n 3, 1) := by decide +kernel
theorem dX5_makeAddend_14 : decode cX5_makeAddend 14 = .ok (.invokevirtual 41, 3) := by decide +kernel
theorem dX5_makeAddend_17 : decode cX5_makeAddend 17 = .ok (.invokestatic 44, 3) := by decide +kernel
theorem dX5_makeAddend_20 : decode cX5_makeAddend 20 = .ok (.iastore, 1) := by decide +kernel
theorem dX5_makeAddend_21 : decode cX5_makeAddend 21 = .ok (.iinc 3 1, 3) := by decide +kernel
theorem dX5_makeAddend_24 : decode cX5_makeAddend 24 = .ok (.goto (-22), 3) := by decide +kernel
theorem dX5_makeAddend_27 : decode cX5_makeAddend 27 = .ok (.aload_n 0, 1) := by decide +kernel
theorem dX5_makeAddend_28 : decode cX5_makeAddend 28 = .ok (.getfield 9, 3) := by decide +kernel
theorem dX5_makeAddend_31 : decode cX5_makeAddend 31 = .ok (.iconst 3, 1) := by decide +kernel
theorem dX5_makeAddend_32 : decode cX5_makeAddend 32 = .ok (.iload_n 1, 1) := by decide +kernel
theorem dX5_makeAddend_33 : decode cX5_makeAddend 33 = .ok (.iconst 2, 1) := by decide +kernel
theorem dX5_makeAddend_34 : decode cX5_makeAddend 34 = .ok (.irem, 1) := by decide +kernel
theorem dX5_makeAddend_35 : decode cX5_makeAddend 35 = .ok (.ifCond .ne 10, 3) := by decide +kernel
theorem dX5_makeAddend_38 : decode cX5_makeAddend 38 = .ok (.aload_n 0, 1) := by decide +kernel
theorem dX5_makeAddend_39 : decode cX5_makeAddend 39 = .ok (.getfield 38, 3) := by decide +kernel
theorem dX5_makeAddend_42 : decode cX5_makeAddend 42 = .ok (.goto 7, 3) := by decide +kernel
theorem dX5_makeAddend_45 : decode cX5_makeAddend 45 = .ok (.aload_n 0, 1) := by decide +kernel
theorem dX5_makeAddend_46 : decode cX5_makeAddend 46 = .ok (.getfield 35, 3) := by decide +kernel
theorem dX5_makeAddend_49 : decode cX5_makeAddend 49 = .ok (.iload_n 1, 1) := by decide +kernel
theorem dX5_makeAddend_50 : decode cX5_makeAddend 50 = .ok (.ixor, 1) := by decide +kernel
theorem dX5_makeAddend_51 : decode cX5_makeAddend 51 = .ok (.invokestatic 44, 3) := by decide +kernel
theorem dX5_makeAddend_54 : decode cX5_makeAddend 54 = .ok (.iastore, 1) := by decide +kernel
theorem dX5_makeAddend_55 : decode cX5_makeAddend 55 = .ok (.aload_n 0, 1) := by decide +kernel
theorem dX5_makeAddend_56 : decode cX5_makeAddend 56 = .ok (.getfield 49, 3) := by decide +kernel
theorem dX5_makeAddend_59 : decode cX5_makeAddend 59 = .ok (.aload_n 0, 1) := by decide +kernel
theorem dX5_makeAddend_60 : decode cX5_makeAddend 60 = .ok (.getfield 9, 3) := by decide +kernel
theorem dX5_makeAddend_63 : decode cX5_makeAddend 63 = .ok (.invokevirtual 53, 3) := by decide +kernel
theorem dX5_makeAddend_66 : decode cX5_makeAddend 66 = .ok (.aload_n 2, 1) := by decide +kernel
theorem dX5_makeAddend_67 : decode cX5_makeAddend 67 = .ok (.invokevirtual 57, 3) := by decide +kernel
theorem dX5_makeAddend_70 : decode cX5_makeAddend 70 = .ok (.iconst 0, 1) := by decide +kernel
theorem dX5_makeAddend_71 : decode cX5_makeAddend 71 = .ok (.istore_n 3, 1) := by decide +kernel
theorem dX5_makeAddend_72 : decode cX5_makeAddend 72 = .ok (.iload_n 3, 1) := by decide +kernel
theorem dX5_makeAddend_73 : decode cX5_makeAddend 73 = .ok (.iconst 4, 1) := by decide +kernel
theorem dX5_makeAddend_74 : decode cX5_makeAddend 74 = .ok (.if_icmp .ge 23, 3) := by decide +kernel
theorem dX5_makeAddend_77 : decode cX5_makeAddend 77 = .ok (.aload_n 2, 1) := by decide +kernel
theorem dX5_makeAddend_78 : decode cX5_makeAddend 78 = .ok (.iload_n 3, 1) := by decide +kernel
theorem dX5_makeAddend_79 : decode cX5_makeAddend 79 = .ok (.aload_n 0, 1) := by decide +kernel
theorem dX5_makeAddend_80 : decode cX5_makeAddend 80 = .ok (.getfield 9, 3) := by decide +kernel
theorem dX5_makeAddend_83 : decode cX5_makeAddend 83 = .ok (.iload_n 3, 1) := by decide +kernel
theorem dX5_makeAddend_84 : decode cX5_makeAddend 84 = .ok (.iaload, 1) := by decide +kernel
theorem dX5_makeAddend_85 : decode cX5_makeAddend 85 = .ok (.invokestatic 44, 3) := by decide +kernel
theorem dX5_makeAddend_88 : decode cX5_makeAddend 88 = .ok (.invokevirtual 60, 3) := by decide +kernel
theorem dX5_makeAddend_91 : decode cX5_makeAddend 91 = .ok (.iinc 3 1, 3) := by decide +kernel
theorem dX5_makeAddend_94 : decode cX5_makeAddend 94 = .ok (.goto (-22), 3) := by decide +kernel
theorem dX5_makeAddend_97 : decode cX5_makeAddend 97 = .ok (.return_, 1) := by decide +kernel
set_option maxRecDepth 20000 in
theorem ggX6_init_X0_init : GoodIn wsX6_init wsX0_init := goodIn_r _ [9, 10, 2, 3, 11, 12, 13, 14, 15, 16] (by decide +kernel) (by decide +kernel)
set_option maxRecDepth 20000 in
theorem gX6_init_X0_init_n9 : GoodIn wsX6_init (wsX0_init) := ggX6_init_X0_init
theorem dX6_init_0 : decode cX6_init 0 = .ok (.aload_n 0, 1) := by decide +kernel
theorem dX6_init_1 : decode cX6_init 1 = .ok (.invokespecial 1, 3) := by decide +kernel
theorem dX6_init_4 : decode cX6_init 4 = .ok (.aload_n 0, 1) := by decide +kernel
theorem dX6_init_5 : decode cX6_init 5 = .ok (.new 7, 3) := by decide +kernel
theorem dX6_init_8 : decode cX6_init 8 = .ok (.dup, 1) := by decide +kernel
theorem dX6_init_9 : decode cX6_init 9 = .ok (.invokespecial 9, 3) := by decide +kernel
theorem dX6_init_12 : decode cX6_init 12 = .ok (.putfield 10, 3) := by decide +kernel
theorem dX6_init_15 : decode cX6_init 15 = .ok (.return_, 1) := by decide +kernel
set_option maxRecDepth 20000 in
theorem ggX7_init_X1_init : GoodIn wsX7_init wsX1_init := goodIn_r _ [29, 30, 2, 3, 26, 31, 98, 99] (by decide +kernel) (by decide +kernel)
set_option maxRecDepth 20000 in
theorem gX7_init_X1_init_n9 : GoodIn wsX7_init (wsX1_init) := ggX7_init_X1_init
set_option maxRecDepth 20000 in
theorem ggX7_init_X4_init : GoodIn wsX7_init wsX4_init := goodIn_r _ [33, 34, 2, 3, 26, 35, 36, 108, 109, 110] (by decide +kernel) (by decide +kernel)
set_option maxRecDepth 20000 in
theorem gX7_init_X4_init_n24 : GoodIn wsX7_init (wsX4_init) := ggX7_init_X4_init
set_option maxRecDepth 20000 in
theorem ggX7_init_X2_init : GoodIn wsX7_init wsX2_init := goodIn_r _ [38, 26, 39, 40, 41, 42, 43, 44, 45, 46, 2, 3, 47, 48, 49, 50, 51, 52, 53, 54, 55, 111, 112, 113, 114, 115, 116, 117, 118, 125, 126, 127, 119, 120, 121, 122] (by decide +kernel) (by decide +kernel)
set_option maxRecDepth 20000 in
theorem gX7_init_X2_init_n31 : GoodIn wsX7_init (wsX2_init) := ggX7_init_X2_init
set_option maxRecDepth 20000 in
theorem ggX7_init_X5_init : GoodIn wsX7_init wsX5_init := goodIn_r _ [57, 26, 58, 43, 44, 45, 46, 2, 3, 47, 48, 49, 50, 51, 52, 53, 54, 55, 119, 120, 121, 122, 125, 126, 127, 111, 112, 113, 114, 115, 116, 117, 118] (by decide +kernel) (by decide +kernel)
set_option maxRecDepth 20000 in
theorem gX7_init_X5_init_n38 : GoodIn wsX7_init (wsX5_init) := ggX7_init_X5_init
set_option maxRecDepth 20000 in
theorem ggX7_init_X3_init : GoodIn wsX7_init wsX3_init := goodIn_r _ [60, 61, 2, 3, 26, 62, 123, 124] (by decide +kernel) (by decide +kernel)
set_option maxRecDepth 20000 in
theorem gX7_init_X3_init_n45 : GoodIn wsX7_init (wsX3_init) := ggX7_init_X3_init
set_option maxRecDepth 20000 in
theorem ggX7_init_X7_expandKey : GoodIn wsX7_init wsX7_expandKey := goodIn_r _ [67, 17, 68, 69, 8, 21, 70, 71, 72, 73, 74, 49, 75, 76, 54, 77, 78, 79, 6, 80, 31, 81, 82, 83, 84, 85, 86, 87, 88, 89, 90, 91, 92, 93, 94, 95, 96, 97, 100, 101, 102, 103, 104, 105, 106, 107, 111, 112, 113, 114, 115, 116, 117, 118, 119, 120, 121, 122, 98, 99, 125, 126, 127] rfl (by decide +kernel)
set_option maxRecDepth 20000 in
theorem gX7_init_X7_expandKey : GoodIn wsX7_init (wsV RX7 58 RX7 yX7_expandKey wsX7_expandKey) := goodIn_app (goodIn_of _ (by decide +kernel)) ggX7_init_X7_expandKey
theorem dX7_init_0 : decode cX7_init 0 = .ok (.aload_n 0, 1) := by decide +kernel
theorem dX7_init_1 : decode cX7_init 1 = .ok (.invokespecial 1, 3) := by decide +kernel
theorem dX7_init_4 : decode cX7_init 4 = .ok (.aload_n 0, 1) := by decide +kernel
theorem dX7_init_5 : decode cX7_init 5 = .ok (.new 7, 3) := by decide +kernel
theorem dX7_init_8 : decode cX7_init 8 = .ok (.dup, 1) := by decide +kernel
theorem dX7_init_9 : decode cX7_init 9 = .ok (.invokespecial 9, 3) := by decide +kernel
theorem dX7_init_12 : decode cX7_init 12 = .ok (.putfield 10, 3) := by decide +kernel
theorem dX7_init_15 : decode cX7_init 15 = .ok (.aload_n 0, 1) := by decide +kernel
theorem dX7_init_16 : decode cX7_init 16 = .ok (.new 7, 3) := by decide +kernel
theorem dX7_init_19 : decode cX7_init 19 = .ok (.dup, 1) := by decide +kernel
theorem dX7_init_20 : decode cX7_init 20 = .ok (.invokespecial 9, 3) := by decide +kernel
theorem dX7_init_23 : decode cX7_init 23 = .ok (.putfield 16, 3) := by decide +kernel
theorem dX7_init_26 : decode cX7_init 26 = .ok (.aload_n 0, 1) := by decide +kernel
theorem dX7_init_27 : decode cX7_init 27 = .ok (.new 7, 3) := by decide +kernel
theorem dX7_init_30 : decode cX7_init 30 = .ok (.dup, 1) := by decide +kernel
theorem dX7_init_31 : decode cX7_init 31 = .ok (.invokespecial 9, 3) := by decide +kernel
theorem dX7_init_34 : decode cX7_init 34 = .ok (.putfield 19, 3) := by decide +kernel
theorem dX7_init_37 : decode cX7_init 37 = .ok (.aload_n 0, 1) := by decide +kernel
theorem dX7_init_38 : decode cX7_init 38 = .ok (.new 22, 3) := by decide +kernel
theorem dX7_init_41 : decode cX7_init 41 = .ok (.dup, 1) := by decide +kernel
theorem dX7_init_42 : decode cX7_init 42 = .ok (.invokespecial 24, 3) := by decide +kernel
theorem dX7_init_45 : decode cX7_init 45 = .ok (.putfield 25, 3) := by decide +kernel
theorem dX7_init_48 : decode cX7_init 48 = .ok (.aload_n 0, 1) := by decide +kernel
theorem dX7_init_49 : decode cX7_init 49 = .ok (.new 29, 3) := by decide +kernel
theorem dX7_init_52 : decode cX7_init 52 = .ok (.dup, 1) := by decide +kernel
theorem dX7_init_53 : decode cX7_init 53 = .ok (.invokespecial 31, 3) := by decide +kernel
theorem dX7_init_56 : decode cX7_init 56 = .ok (.putfield 32, 3) := by decide +kernel
theorem dX7_init_59 : decode cX7_init 59 = .ok (.aload_n 0, 1) := by decide +kernel
theorem dX7_init_60 : decode cX7_init 60 = .ok (.new 36, 3) := by decide +kernel
theorem dX7_init_63 : decode cX7_init 63 = .ok (.dup, 1) := by decide +kernel
theorem dX7_init_64 : decode cX7_init 64 = .ok (.invokespecial 38, 3) := by decide +kernel
theorem dX7_init_67 : decode cX7_init 67 = .ok (.putfield 39, 3) := by decide +kernel
theorem dX7_init_70 : decode cX7_init 70 = .ok (.aload_n 0, 1) := by decide +kernel
theorem dX7_init_71 : decode cX7_init 71 = .ok (.new 43, 3) := by decide +kernel
theorem dX7_init_74 : decode cX7_init 74 = .ok (.dup, 1) := by decide +kernel
theorem dX7_init_75 : decode cX7_init 75 = .ok (.invokespecial 45, 3) := by decide +kernel
theorem dX7_init_78 : decode cX7_init 78 = .ok (.putfield 46, 3) := by decide +kernel
theorem dX7_init_81 : decode cX7_init 81 = .ok (.aload_n 0, 1) := by decide +kernel
theorem dX7_init_82 : decode cX7_init 82 = .ok (.iconst 4, 1) := by decide +kernel
theorem dX7_init_83 : decode cX7_init 83 = .ok (.newarray .int, 2) := by decide +kernel
theorem dX7_init_85 : decode cX7_init 85 = .ok (.putfield 50, 3) := by decide +kernel
theorem dX7_init_88 : decode cX7_init 88 = .ok (.aload_n 0, 1) := by decide +kernel
theorem dX7_init_89 : decode cX7_init 89 = .ok (.getfield 16, 3) := by decide +kernel
theorem dX7_init_92 : decode cX7_init 92 = .ok (.bipush 16, 2) := by decide +kernel
theorem dX7_init_94 : decode cX7_init 94 = .ok (.putfield 54, 3) := by decide +kernel
theorem dX7_init_97 : decode cX7_init 97 = .ok (.aload_n 0, 1) := by decide +kernel
theorem dX7_init_98 : decode cX7_init 98 = .ok (.invokevirtual 58, 3) := by decide +kernel
theorem dX7_init_101 : decode cX7_init 101 = .ok (.return_, 1) := by decide +kernel
theorem dX7_type_0 : decode cX7_type 0 = .ok (.iload_n 3, 1) := by decide +kernel
theorem dX7_type_1 : decode cX7_type 1 = .ok (.iconst 1, 1) := by decide +kernel
theorem dX7_type_2 : decode cX7_type 2 = .ok (.if_icmp .lt 9, 3) := by decide +kernel
theorem dX7_type_5 : decode cX7_type 5 = .ok (.iload_n 3, 1) := by decide +kernel
theorem dX7_type_6 : decode cX7_type 6 = .ok (.bipush 8, 2) := by decide +kernel
theorem dX7_type_8 : decode cX7_type 8 = .ok (.if_icmp .le 13, 3) := by decide +kernel
theorem dX7_type_11 : decode cX7_type 11 = .ok (.new 61, 3) := by decide +kernel
theorem dX7_type_14 : decode cX7_type 14 = .ok (.dup, 1) := by decide +kernel
theorem dX7_type_15 : decode cX7_type 15 = .ok (.ldc 63, 2) := by decide +kernel
theorem dX7_type_17 : decode cX7_type 17 = .ok (.invokespecial 65, 3) := by decide +kernel
theorem dX7_type_20 : decode cX7_type 20 = .ok (.athrow, 1) := by decide +kernel
theorem dX7_type_21 : decode cX7_type 21 = .ok (.aload_n 0, 1) := by decide +kernel
theorem dX7_type_22 : decode cX7_type 22 = .ok (.getfield 10, 3) := by decide +kernel
theorem dX7_type_25 : decode cX7_type 25 = .ok (.getfield 54, 3) := by decide +kernel
theorem dX7_type_28 : decode cX7_type 28 = .ok (.iload_n 3, 1) := by decide +kernel
theorem dX7_type_29 : decode cX7_type 29 = .ok (.iadd, 1) := by decide +kernel
theorem dX7_type_30 : decode cX7_type 30 = .ok (.bipush 64, 2) := by decide +kernel
theorem dX7_type_32 : decode cX7_type 32 = .ok (.if_icmp .le 13, 3) := by decide +kernel
theorem dX7_type_35 : decode cX7_type 35 = .ok (.new 68, 3) := by decide +kernel
theorem dX7_type_38 : decode cX7_type 38 = .ok (.dup, 1) := by decide +kernel
theorem dX7_type_39 : decode cX7_type 39 = .ok (.ldc 70, 2) := by decide +kernel
theorem dX7_type_41 : decode cX7_type 41 = .ok (.invokespecial 72, 3) := by decide +kernel
theorem dX7_type_44 : decode cX7_type 44 = .ok (.athrow, 1) := by decide +kernel
theorem dX7_type_45 : decode cX7_type 45 = .ok (.iload_n 3, 1) := by decide +kernel
theorem dX7_type_46 : decode cX7_type 46 = .ok (.iconst 1, 1) := by decide +kernel
theorem dX7_type_47 : decode cX7_type 47 = .ok (.isub, 1) := by decide +kernel
theorem dX7_type_48 : decode cX7_type 48 = .ok (.istore 4, 2) := by decide +kernel
theorem dX7_type_50 : decode cX7_type 50 = .ok (.iload 4, 2) := by decide +kernel
theorem dX7_type_52 : decode cX7_type 52 = .ok (.ifCond .lt 49, 3) := by decide +kernel
theorem dX7_type_55 : decode cX7_type 55 = .ok (.aload_n 0, 1) := by decide +kernel
theorem dX7_type_56 : decode cX7_type 56 = .ok (.getfield 10, 3) := by decide +kernel
theorem dX7_type_59 : decode cX7_type 59 = .ok (.getfield 73, 3) := by decide +kernel
theorem dX7_type_62 : decode cX7_type 62 = .ok (.aload_n 0, 1) := by decide +kernel
theorem dX7_type_63 : decode cX7_type 63 = .ok (.getfield 10, 3) := by decide +kernel
theorem dX7_type_66 : decode cX7_type 66 = .ok (.getfield 54, 3) := by decide +kernel
theorem dX7_type_69 : decode cX7_type 69 = .ok (.lload_n 1, 1) := by decide +kernel
theorem dX7_type_70 : decode cX7_type 70 = .ok (.bipush 8, 2) := by decide +kernel
theorem dX7_type_72 : decode cX7_type 72 = .ok (.iload 4, 2) := by decide +kernel
theorem dX7_type_74 : decode cX7_type 74 = .ok (.imul, 1) := by decide +kernel
theorem dX7_type_75 : decode cX7_type 75 = .ok (.lushr, 1) := by decide +kernel
theorem dX7_type_76 : decode cX7_type 76 = .ok (.l2i, 1) := by decide +kernel
theorem dX7_type_77 : decode cX7_type 77 = .ok (.sipush 255, 3) := by decide +kernel
theorem dX7_type_80 : decode cX7_type 80 = .ok (.iand, 1) := by decide +kernel
theorem dX7_type_81 : decode cX7_type 81 = .ok (.iastore, 1) := by decide +kernel
theorem dX7_type_82 : decode cX7_type 82 = .ok (.aload_n 0, 1) := by decide +kernel
theorem dX7_type_83 : decode cX7_type 83 = .ok (.getfield 10, 3) := by decide +kernel
theorem dX7_type_86 : decode cX7_type 86 = .ok (.dup, 1) := by decide +kernel
theorem dX7_type_87 : decode cX7_type 87 = .ok (.getfield 54, 3) := by decide +kernel
theorem dX7_type_90 : decode cX7_type 90 = .ok (.iconst 1, 1) := by decide +kernel
theorem dX7_type_91 : decode cX7_type 91 = .ok (.iadd, 1) := by decide +kernel
theorem dX7_type_92 : decode cX7_type 92 = .ok (.putfield 54, 3) := by decide +kernel
theorem dX7_type_95 : decode cX7_type 95 = .ok (.iinc 4 (-1), 3) := by decide +kernel
theorem dX7_type_98 : decode cX7_type 98 = .ok (.goto (-48), 3) := by decide +kernel
theorem dX7_type_101 : decode cX7_type 101 = .ok (.aload_n 0, 1) := by decide +kernel
theorem dX7_type_102 : decode cX7_type 102 = .ok (.getfield 10, 3) := by decide +kernel
theorem dX7_type_105 : decode cX7_type 105 = .ok (.getfield 54, 3) := by decide +kernel
theorem dX7_type_108 : decode cX7_type 108 = .ok (.ireturn, 1) := by decide +kernel
theorem dX7_keep_0 : decode cX7_keep 0 = .ok (.iload_n 1, 1) := by decide +kernel
theorem dX7_keep_1 : decode cX7_keep 1 = .ok (.ifCond .lt 14, 3) := by decide +kernel
theorem dX7_keep_4 : decode cX7_keep 4 = .ok (.iload_n 1, 1) := by decide +kernel
theorem dX7_keep_5 : decode cX7_keep 5 = .ok (.aload_n 0, 1) := by decide +kernel
theorem dX7_keep_6 : decode cX7_keep 6 = .ok (.getfield 10, 3) := by decide +kernel
theorem dX7_keep_9 : decode cX7_keep 9 = .ok (.getfield 54, 3) := by decide +kernel
theorem dX7_keep_12 : decode cX7_keep 12 = .ok (.if_icmp .le 13, 3) := by decide +kernel
theorem dX7_keep_15 : decode cX7_keep 15 = .ok (.new 61, 3) := by decide +kernel
theorem dX7_keep_18 : decode cX7_keep 18 = .ok (.dup, 1) := by decide +kernel
theorem dX7_keep_19 : decode cX7_keep 19 = .ok (.ldc 76, 2) := by decide +kernel
theorem dX7_keep_21 : decode cX7_keep 21 = .ok (.invokespecial 65, 3) := by decide +kernel
theorem dX7_keep_24 : decode cX7_keep 24 = .ok (.athrow, 1) := by decide +kernel
theorem dX7_keep_25 : decode cX7_keep 25 = .ok (.aload_n 0, 1) := by decide +kernel
theorem dX7_keep_26 : decode cX7_keep 26 = .ok (.getfield 10, 3) := by decide +kernel
theorem dX7_keep_29 : decode cX7_keep 29 = .ok (.iload_n 1, 1) := by decide +kernel
theorem dX7_keep_30 : decode cX7_keep 30 = .ok (.putfield 54, 3) := by decide +kernel
theorem dX7_keep_33 : decode cX7_keep 33 = .ok (.return_, 1) := by decide +kernel
theorem dX7_typed_0 : decode cX7_typed 0 = .ok (.iload_n 1, 1) := by decide +kernel
theorem dX7_typed_1 : decode cX7_typed 1 = .ok (.ifCond .lt 14, 3) := by decide +kernel
theorem dX7_typed_4 : decode cX7_typed 4 = .ok (.iload_n 1, 1) := by decide +kernel
theorem dX7_typed_5 : decode cX7_typed 5 = .ok (.aload_n 0, 1) := by decide +kernel
theorem dX7_typed_6 : decode cX7_typed 6 = .ok (.getfield 10, 3) := by decide +kernel
theorem dX7_typed_9 : decode cX7_typed 9 = .ok (.getfield 54, 3) := by decide +kernel
theorem dX7_typed_12 : decode cX7_typed 12 = .ok (.if_icmp .lt 13, 3) := by decide +kernel
theorem dX7_typed_15 : decode cX7_typed 15 = .ok (.new 78, 3) := by decide +kernel
theorem dX7_typed_18 : decode cX7_typed 18 = .ok (.dup, 1) := by decide +kernel
theorem dX7_typed_19 : decode cX7_typed 19 = .ok (.ldc 80, 2) := by decide +kernel
theorem dX7_typed_21 : decode cX7_typed 21 = .ok (.invokespecial 82, 3) := by decide +kernel
theorem dX7_typed_24 : decode cX7_typed 24 = .ok (.athrow, 1) := by decide +kernel
theorem dX7_typed_25 : decode cX7_typed 25 = .ok (.aload_n 0, 1) := by decide +kernel
theorem dX7_typed_26 : decode cX7_typed 26 = .ok (.getfield 10, 3) := by decide +kernel
theorem dX7_typed_29 : decode cX7_typed 29 = .ok (.getfield 73, 3) := by decide +kernel
theorem dX7_typed_32 : decode cX7_typed 32 = .ok (.iload_n 1, 1) := by decide +kernel
theorem dX7_typed_33 : decode cX7_typed 33 = .ok (.iaload, 1) := by decide +kernel
theorem dX7_typed_34 : decode cX7_typed 34 = .ok (.ireturn, 1) := by decide +kernel
set_option maxRecDepth 20000 in
theorem ggX7_key_X1_takeAll : GoodIn wsX7_key wsX1_takeAll := goodIn_r _ [12, 13, 14, 59, 60] (by decide +kernel) (by decide +kernel)
set_option maxRecDepth 20000 in
theorem gX7_key_X1_takeAll : GoodIn wsX7_key (wsV RX7 85 RX1 yX1_takeAll wsX1_takeAll) := goodIn_app (goodIn_of _ (by decide +kernel)) ggX7_key_X1_takeAll
set_option maxRecDepth 20000 in
theorem ggX7_key_X7_expandKey : GoodIn wsX7_key wsX7_expandKey := goodIn_r _ [19, 5, 6, 7, 4, 20, 21, 22, 23, 24, 25, 26, 27, 28, 29, 30, 31, 32, 11, 33, 13, 34, 35, 36, 37, 38, 39, 40, 41, 42, 43, 44, 45, 46, 47, 48, 49, 50, 51, 52, 53, 54, 55, 56, 57, 58, 61, 62, 63, 64, 65, 66, 67, 68, 69, 70, 71, 72, 59, 60, 73, 74, 75] rfl (by decide +kernel)
set_option maxRecDepth 20000 in
theorem gX7_key_X7_expandKey : GoodIn wsX7_key (wsV RX7 58 RX7 yX7_expandKey wsX7_expandKey) := goodIn_app (goodIn_of _ (by decide +kernel)) ggX7_key_X7_expandKey
theorem dX7_key_0 : decode cX7_key 0 = .ok (.aload_n 0, 1) := by decide +kernel
theorem dX7_key_1 : decode cX7_key 1 = .ok (.getfield 10, 3) := by decide +kernel
theorem dX7_key_4 : decode cX7_key 4 = .ok (.getfield 54, 3) := by decide +kernel
theorem dX7_key_7 : decode cX7_key 7 = .ok (.bipush 16, 2) := by decide +kernel
theorem dX7_key_9 : decode cX7_key 9 = .ok (.if_icmp .eq 37, 3) := by decide +kernel
theorem dX7_key_12 : decode cX7_key 12 = .ok (.aload_n 0, 1) := by decide +kernel
theorem dX7_key_13 : decode cX7_key 13 = .ok (.getfield 10, 3) := by decide +kernel
theorem dX7_key_16 : decode cX7_key 16 = .ok (.getfield 54, 3) := by decide +kernel
theorem dX7_key_19 : decode cX7_key 19 = .ok (.bipush 24, 2) := by decide +kernel
theorem dX7_key_21 : decode cX7_key 21 = .ok (.if_icmp .eq 25, 3) := by decide +kernel
theorem dX7_key_24 : decode cX7_key 24 = .ok (.aload_n 0, 1) := by decide +kernel
theorem dX7_key_25 : decode cX7_key 25 = .ok (.getfield 10, 3) := by decide +kernel
theorem dX7_key_28 : decode cX7_key 28 = .ok (.getfield 54, 3) := by decide +kernel
theorem dX7_key_31 : decode cX7_key 31 = .ok (.bipush 32, 2) := by decide +kernel
theorem dX7_key_33 : decode cX7_key 33 = .ok (.if_icmp .eq 13, 3) := by decide +kernel
theorem dX7_key_36 : decode cX7_key 36 = .ok (.new 61, 3) := by decide +kernel
theorem dX7_key_39 : decode cX7_key 39 = .ok (.dup, 1) := by decide +kernel
theorem dX7_key_40 : decode cX7_key 40 = .ok (.ldc 83, 2) := by decide +kernel
theorem dX7_key_42 : decode cX7_key 42 = .ok (.invokespecial 65, 3) := by decide +kernel
theorem dX7_key_45 : decode cX7_key 45 = .ok (.athrow, 1) := by decide +kernel
theorem dX7_key_46 : decode cX7_key 46 = .ok (.aload_n 0, 1) := by decide +kernel
theorem dX7_key_47 : decode cX7_key 47 = .ok (.getfield 16, 3) := by decide +kernel
theorem dX7_key_50 : decode cX7_key 50 = .ok (.aload_n 0, 1) := by decide +kernel
theorem dX7_key_51 : decode cX7_key 51 = .ok (.getfield 10, 3) := by decide +kernel
theorem dX7_key_54 : decode cX7_key 54 = .ok (.invokevirtual 85, 3) := by decide +kernel
theorem dX7_key_57 : decode cX7_key 57 = .ok (.aload_n 0, 1) := by decide +kernel
theorem dX7_key_58 : decode cX7_key 58 = .ok (.invokevirtual 58, 3) := by decide +kernel
theorem dX7_key_61 : decode cX7_key 61 = .ok (.aload_n 0, 1) := by decide +kernel
theorem dX7_key_62 : decode cX7_key 62 = .ok (.getfield 32, 3) := by decide +kernel
theorem dX7_key_65 : decode cX7_key 65 = .ok (.getfield 89, 3) := by decide +kernel
theorem dX7_key_68 : decode cX7_key 68 = .ok (.getfield 93, 3) := by decide +kernel
theorem dX7_key_71 : decode cX7_key 71 = .ok (.ireturn, 1) := by decide +kernel
set_option maxRecDepth 20000 in
theorem ggX7_tweak_X1_takeAll : GoodIn wsX7_tweak wsX1_takeAll := goodIn_r _ [9, 10, 11, 20, 21] (by decide +kernel) (by decide +kernel)
set_option maxRecDepth 20000 in
theorem gX7_tweak_X1_takeAll : GoodIn wsX7_tweak (wsV RX7 85 RX1 yX1_takeAll wsX1_takeAll) := goodIn_app (goodIn_of _ (by decide +kernel)) ggX7_tweak_X1_takeAll
theorem dX7_tweak_0 : decode cX7_tweak 0 = .ok (.aload_n 0, 1) := by decide +kernel
theorem dX7_tweak_1 : decode cX7_tweak 1 = .ok (.getfield 10, 3) := by decide +kernel
theorem dX7_tweak_4 : decode cX7_tweak 4 = .ok (.getfield 54, 3) := by decide +kernel
theorem dX7_tweak_7 : decode cX7_tweak 7 = .ok (.bipush 32, 2) := by decide +kernel
theorem dX7_tweak_9 : decode cX7_tweak 9 = .ok (.if_icmp .le 13, 3) := by decide +kernel
theorem dX7_tweak_12 : decode cX7_tweak 12 = .ok (.new 61, 3) := by decide +kernel
theorem dX7_tweak_15 : decode cX7_tweak 15 = .ok (.dup, 1) := by decide +kernel
theorem dX7_tweak_16 : decode cX7_tweak 16 = .ok (.ldc 98, 2) := by decide +kernel
theorem dX7_tweak_18 : decode cX7_tweak 18 = .ok (.invokespecial 65, 3) := by decide +kernel
theorem dX7_tweak_21 : decode cX7_tweak 21 = .ok (.athrow, 1) := by decide +kernel
theorem dX7_tweak_22 : decode cX7_tweak 22 = .ok (.aload_n 0, 1) := by decide +kernel
theorem dX7_tweak_23 : decode cX7_tweak 23 = .ok (.getfield 19, 3) := by decide +kernel
theorem dX7_tweak_26 : decode cX7_tweak 26 = .ok (.aload_n 0, 1) := by decide +kernel
theorem dX7_tweak_27 : decode cX7_tweak 27 = .ok (.getfield 10, 3) := by decide +kernel
theorem dX7_tweak_30 : decode cX7_tweak 30 = .ok (.invokevirtual 85, 3) := by decide +kernel
theorem dX7_tweak_33 : decode cX7_tweak 33 = .ok (.aload_n 0, 1) := by decide +kernel
theorem dX7_tweak_34 : decode cX7_tweak 34 = .ok (.getfield 19, 3) := by decide +kernel
theorem dX7_tweak_37 : decode cX7_tweak 37 = .ok (.getfield 54, 3) := by decide +kernel
theorem dX7_tweak_40 : decode cX7_tweak 40 = .ok (.ireturn, 1) := by decide +kernel
set_option maxRecDepth 20000 in
theorem ggX7_block_X1_wordAt : GoodIn wsX7_block wsX1_wordAt := goodIn_r _ [12, 13, 51, 52] (by decide +kernel) (by decide +kernel)
set_option maxRecDepth 20000 in
theorem gX7_block_X1_wordAt : GoodIn wsX7_block (wsV RX7 102 RX1 yX1_wordAt wsX1_wordAt) := goodIn_app (goodIn_of _ (by decide +kernel)) ggX7_block_X1_wordAt
set_option maxRecDepth 20000 in
theorem ggX7_block_X0_encipher : GoodIn wsX7_block wsX0_encipher := goodIn_r _ [18, 19, 20, 21, 22, 23, 17, 24, 25, 26, 27, 28, 29, 30, 31, 32, 33, 34, 35, 36, 37, 38, 39, 40, 41, 42, 65, 66, 67] (by decide +kernel) (by decide +kernel)
set_option maxRecDepth 20000 in
theorem gX7_block_X0_encipher : GoodIn wsX7_block (wsV RX7 106 RX0 yX0_encipher wsX0_encipher) := goodIn_app (goodIn_of _ (by decide +kernel)) ggX7_block_X0_encipher
theorem dX7_block_0 : decode cX7_block 0 = .ok (.aload_n 0, 1) := by decide +kernel
theorem dX7_block_1 : decode cX7_block 1 = .ok (.getfield 10, 3) := by decide +kernel
theorem dX7_block_4 : decode cX7_block 4 = .ok (.getfield 54, 3) := by decide +kernel
theorem dX7_block_7 : decode cX7_block 7 = .ok (.bipush 16, 2) := by decide +kernel
theorem dX7_block_9 : decode cX7_block 9 = .ok (.if_icmp .eq 13, 3) := by decide +kernel
theorem dX7_block_12 : decode cX7_block 12 = .ok (.new 61, 3) := by decide +kernel
theorem dX7_block_15 : decode cX7_block 15 = .ok (.dup, 1) := by decide +kernel
theorem dX7_block_16 : decode cX7_block 16 = .ok (.ldc 100, 2) := by decide +kernel
theorem dX7_block_18 : decode cX7_block 18 = .ok (.invokespecial 65, 3) := by decide +kernel
theorem dX7_block_21 : decode cX7_block 21 = .ok (.athrow, 1) := by decide +kernel
theorem dX7_block_22 : decode cX7_block 22 = .ok (.iconst 0, 1) := by decide +kernel
theorem dX7_block_23 : decode cX7_block 23 = .ok (.istore_n 1, 1) := by decide +kernel
theorem dX7_block_24 : decode cX7_block 24 = .ok (.iload_n 1, 1) := by decide +kernel
theorem dX7_block_25 : decode cX7_block 25 = .ok (.iconst 4, 1) := by decide +kernel
theorem dX7_block_26 : decode cX7_block 26 = .ok (.if_icmp .ge 23, 3) := by decide +kernel
theorem dX7_block_29 : decode cX7_block 29 = .ok (.aload_n 0, 1) := by decide +kernel
theorem dX7_block_30 : decode cX7_block 30 = .ok (.getfield 50, 3) := by decide +kernel
theorem dX7_block_33 : decode cX7_block 33 = .ok (.iload_n 1, 1) := by decide +kernel
theorem dX7_block_34 : decode cX7_block 34 = .ok (.aload_n 0, 1) := by decide +kernel
theorem dX7_block_35 : decode cX7_block 35 = .ok (.getfield 10, 3) := by decide +kernel
theorem dX7_block_38 : decode cX7_block 38 = .ok (.iload_n 1, 1) := by decide +kernel
theorem dX7_block_39 : decode cX7_block 39 = .ok (.invokevirtual 102, 3) := by decide +kernel
theorem dX7_block_42 : decode cX7_block 42 = .ok (.iastore, 1) := by decide +kernel
theorem dX7_block_43 : decode cX7_block 43 = .ok (.iinc 1 1, 3) := by decide +kernel
theorem dX7_block_46 : decode cX7_block 46 = .ok (.goto (-22), 3) := by decide +kernel
theorem dX7_block_49 : decode cX7_block 49 = .ok (.aload_n 0, 1) := by decide +kernel
theorem dX7_block_50 : decode cX7_block 50 = .ok (.getfield 32, 3) := by decide +kernel
theorem dX7_block_53 : decode cX7_block 53 = .ok (.getfield 89, 3) := by decide +kernel
theorem dX7_block_56 : decode cX7_block 56 = .ok (.aload_n 0, 1) := by decide +kernel
theorem dX7_block_57 : decode cX7_block 57 = .ok (.getfield 50, 3) := by decide +kernel
theorem dX7_block_60 : decode cX7_block 60 = .ok (.invokevirtual 106, 3) := by decide +kernel
theorem dX7_block_63 : decode cX7_block 63 = .ok (.iconst 0, 1) := by decide +kernel
theorem dX7_block_64 : decode cX7_block 64 = .ok (.istore_n 1, 1) := by decide +kernel
theorem dX7_block_65 : decode cX7_block 65 = .ok (.iload_n 1, 1) := by decide +kernel
theorem dX7_block_66 : decode cX7_block 66 = .ok (.bipush 16, 2) := by decide +kernel
theorem dX7_block_68 : decode cX7_block 68 = .ok (.if_icmp .ge 40, 3) := by decide +kernel
theorem dX7_block_71 : decode cX7_block 71 = .ok (.aload_n 0, 1) := by decide +kernel
theorem dX7_block_72 : decode cX7_block 72 = .ok (.getfield 10, 3) := by decide +kernel
theorem dX7_block_75 : decode cX7_block 75 = .ok (.getfield 73, 3) := by decide +kernel
theorem dX7_block_78 : decode cX7_block 78 = .ok (.iload_n 1, 1) := by decide +kernel
theorem dX7_block_79 : decode cX7_block 79 = .ok (.aload_n 0, 1) := by decide +kernel
theorem dX7_block_80 : decode cX7_block 80 = .ok (.getfield 50, 3) := by decide +kernel
theorem dX7_block_83 : decode cX7_block 83 = .ok (.iload_n 1, 1) := by decide +kernel
theorem dX7_block_84 : decode cX7_block 84 = .ok (.iconst 4, 1) := by decide +kernel
theorem dX7_block_85 : decode cX7_block 85 = .ok (.idiv, 1) := by decide +kernel
theorem dX7_block_86 : decode cX7_block 86 = .ok (.iaload, 1) := by decide +kernel
theorem dX7_block_87 : decode cX7_block 87 = .ok (.bipush 24, 2) := by decide +kernel
theorem dX7_block_89 : decode cX7_block 89 = .ok (.bipush 8, 2) := by decide +kernel
theorem dX7_block_91 : decode cX7_block 91 = .ok (.iload_n 1, 1) := by decide +kernel
theorem dX7_block_92 : decode cX7_block 92 = .ok (.iconst 4, 1) := by decide +kernel
theorem dX7_block_93 : decode cX7_block 93 = .ok (.irem, 1) := by decide +kernel
theorem dX7_block_94 : decode cX7_block 94 = .ok (.imul, 1) := by decide +kernel
theorem dX7_block_95 : decode cX7_block 95 = .ok (.isub, 1) := by decide +kernel
theorem dX7_block_96 : decode cX7_block 96 = .ok (.iushr, 1) := by decide +kernel
theorem dX7_block_97 : decode cX7_block 97 = .ok (.sipush 255, 3) := by decide +kernel
theorem dX7_block_100 : decode cX7_block 100 = .ok (.iand, 1) := by decide +kernel
theorem dX7_block_101 : decode cX7_block 101 = .ok (.iastore, 1) := by decide +kernel
theorem dX7_block_102 : decode cX7_block 102 = .ok (.iinc 1 1, 3) := by decide +kernel
theorem dX7_block_105 : decode cX7_block 105 = .ok (.goto (-40), 3) := by decide +kernel
theorem dX7_block_108 : decode cX7_block 108 = .ok (.return_, 1) := by decide +kernel
theorem dX7_radix_0 : decode cX7_radix 0 = .ok (.iload_n 1, 1) := by decide +kernel
theorem dX7_radix_1 : decode cX7_radix 1 = .ok (.iconst 2, 1) := by decide +kernel
theorem dX7_radix_2 : decode cX7_radix 2 = .ok (.if_icmp .lt 9, 3) := by decide +kernel
theorem dX7_radix_5 : decode cX7_radix 5 = .ok (.iload_n 1, 1) := by decide +kernel
theorem dX7_radix_6 : decode cX7_radix 6 = .ok (.ldc 110, 2) := by decide +kernel
theorem dX7_radix_8 : decode cX7_radix 8 = .ok (.if_icmp .le 13, 3) := by decide +kernel
theorem dX7_radix_11 : decode cX7_radix 11 = .ok (.new 61, 3) := by decide +kernel
theorem dX7_radix_14 : decode cX7_radix 14 = .ok (.dup, 1) := by decide +kernel
theorem dX7_radix_15 : decode cX7_radix 15 = .ok (.ldc 111, 2) := by decide +kernel
theorem dX7_radix_17 : decode cX7_radix 17 = .ok (.invokespecial 65, 3) := by decide +kernel
theorem dX7_radix_20 : decode cX7_radix 20 = .ok (.athrow, 1) := by decide +kernel
theorem dX7_radix_21 : decode cX7_radix 21 = .ok (.aload_n 0, 1) := by decide +kernel
theorem dX7_radix_22 : decode cX7_radix 22 = .ok (.getfield 25, 3) := by decide +kernel
theorem dX7_radix_25 : decode cX7_radix 25 = .ok (.getfield 113, 3) := by decide +kernel
theorem dX7_radix_28 : decode cX7_radix 28 = .ok (.istore_n 2, 1) := by decide +kernel
theorem dX7_radix_29 : decode cX7_radix 29 = .ok (.aload_n 0, 1) := by decide +kernel
theorem dX7_radix_30 : decode cX7_radix 30 = .ok (.getfield 25, 3) := by decide +kernel
theorem dX7_radix_33 : decode cX7_radix 33 = .ok (.iload_n 1, 1) := by decide +kernel
theorem dX7_radix_34 : decode cX7_radix 34 = .ok (.putfield 114, 3) := by decide +kernel
theorem dX7_radix_37 : decode cX7_radix 37 = .ok (.aload_n 0, 1) := by decide +kernel
theorem dX7_radix_38 : decode cX7_radix 38 = .ok (.getfield 25, 3) := by decide +kernel
theorem dX7_radix_41 : decode cX7_radix 41 = .ok (.iconst 0, 1) := by decide +kernel
theorem dX7_radix_42 : decode cX7_radix 42 = .ok (.putfield 113, 3) := by decide +kernel
theorem dX7_radix_45 : decode cX7_radix 45 = .ok (.iload_n 2, 1) := by decide +kernel
theorem dX7_radix_46 : decode cX7_radix 46 = .ok (.ireturn, 1) := by decide +kernel
set_option maxRecDepth 20000 in
theorem ggX7_numeral_X4_isNumeral : GoodIn wsX7_numeral wsX4_isNumeral := goodIn_r _ [10, 11, 20, 21, 22] (by decide +kernel) (by decide +kernel)
set_option maxRecDepth 20000 in
theorem gX7_numeral_X4_isNumeral : GoodIn wsX7_numeral (wsV RX7 117 RX4 yX4_isNumeral wsX4_isNumeral) := goodIn_app (goodIn_of _ (by decide +kernel)) ggX7_numeral_X4_isNumeral
theorem dX7_numeral_0 : decode cX7_numeral 0 = .ok (.aload_n 0, 1) := by decide +kernel
theorem dX7_numeral_1 : decode cX7_numeral 1 = .ok (.getfield 25, 3) := by decide +kernel
theorem dX7_numeral_4 : decode cX7_numeral 4 = .ok (.iload_n 1, 1) := by decide +kernel
theorem dX7_numeral_5 : decode cX7_numeral 5 = .ok (.invokevirtual 117, 3) := by decide +kernel
theorem dX7_numeral_8 : decode cX7_numeral 8 = .ok (.ifCond .ne 13, 3) := by decide +kernel
theorem dX7_numeral_11 : decode cX7_numeral 11 = .ok (.new 61, 3) := by decide +kernel
theorem dX7_numeral_14 : decode cX7_numeral 14 = .ok (.dup, 1) := by decide +kernel
theorem dX7_numeral_15 : decode cX7_numeral 15 = .ok (.ldc 121, 2) := by decide +kernel
theorem dX7_numeral_17 : decode cX7_numeral 17 = .ok (.invokespecial 65, 3) := by decide +kernel
theorem dX7_numeral_20 : decode cX7_numeral 20 = .ok (.athrow, 1) := by decide +kernel
theorem dX7_numeral_21 : decode cX7_numeral 21 = .ok (.aload_n 0, 1) := by decide +kernel
theorem dX7_numeral_22 : decode cX7_numeral 22 = .ok (.getfield 25, 3) := by decide +kernel
theorem dX7_numeral_25 : decode cX7_numeral 25 = .ok (.getfield 113, 3) := by decide +kernel
theorem dX7_numeral_28 : decode cX7_numeral 28 = .ok (.bipush 64, 2) := by decide +kernel
theorem dX7_numeral_30 : decode cX7_numeral 30 = .ok (.if_icmp .lt 13, 3) := by decide +kernel
theorem dX7_numeral_33 : decode cX7_numeral 33 = .ok (.new 68, 3) := by decide +kernel
theorem dX7_numeral_36 : decode cX7_numeral 36 = .ok (.dup, 1) := by decide +kernel
theorem dX7_numeral_37 : decode cX7_numeral 37 = .ok (.ldc 123, 2) := by decide +kernel
theorem dX7_numeral_39 : decode cX7_numeral 39 = .ok (.invokespecial 72, 3) := by decide +kernel
theorem dX7_numeral_42 : decode cX7_numeral 42 = .ok (.athrow, 1) := by decide +kernel
theorem dX7_numeral_43 : decode cX7_numeral 43 = .ok (.aload_n 0, 1) := by decide +kernel
theorem dX7_numeral_44 : decode cX7_numeral 44 = .ok (.getfield 25, 3) := by decide +kernel
theorem dX7_numeral_47 : decode cX7_numeral 47 = .ok (.getfield 125, 3) := by decide +kernel
theorem dX7_numeral_50 : decode cX7_numeral 50 = .ok (.aload_n 0, 1) := by decide +kernel
theorem dX7_numeral_51 : decode cX7_numeral 51 = .ok (.getfield 25, 3) := by decide +kernel
theorem dX7_numeral_54 : decode cX7_numeral 54 = .ok (.getfield 113, 3) := by decide +kernel
theorem dX7_numeral_57 : decode cX7_numeral 57 = .ok (.iload_n 1, 1) := by decide +kernel
theorem dX7_numeral_58 : decode cX7_numeral 58 = .ok (.iastore, 1) := by decide +kernel
theorem dX7_numeral_59 : decode cX7_numeral 59 = .ok (.aload_n 0, 1) := by decide +kernel
theorem dX7_numeral_60 : decode cX7_numeral 60 = .ok (.getfield 25, 3) := by decide +kernel
theorem dX7_numeral_63 : decode cX7_numeral 63 = .ok (.dup, 1) := by decide +kernel
theorem dX7_numeral_64 : decode cX7_numeral 64 = .ok (.getfield 113, 3) := by decide +kernel
theorem dX7_numeral_67 : decode cX7_numeral 67 = .ok (.iconst 1, 1) := by decide +kernel
theorem dX7_numeral_68 : decode cX7_numeral 68 = .ok (.iadd, 1) := by decide +kernel
theorem dX7_numeral_69 : decode cX7_numeral 69 = .ok (.putfield 113, 3) := by decide +kernel
theorem dX7_numeral_72 : decode cX7_numeral 72 = .ok (.aload_n 0, 1) := by decide +kernel
theorem dX7_numeral_73 : decode cX7_numeral 73 = .ok (.getfield 25, 3) := by decide +kernel
theorem dX7_numeral_76 : decode cX7_numeral 76 = .ok (.getfield 113, 3) := by decide +kernel
theorem dX7_numeral_79 : decode cX7_numeral 79 = .ok (.ireturn, 1) := by decide +kernel
theorem dX7_cut_0 : decode cX7_cut 0 = .ok (.iload_n 1, 1) := by decide +kernel
theorem dX7_cut_1 : decode cX7_cut 1 = .ok (.ifCond .lt 14, 3) := by decide +kernel
theorem dX7_cut_4 : decode cX7_cut 4 = .ok (.iload_n 1, 1) := by decide +kernel
theorem dX7_cut_5 : decode cX7_cut 5 = .ok (.aload_n 0, 1) := by decide +kernel
theorem dX7_cut_6 : decode cX7_cut 6 = .ok (.getfield 25, 3) := by decide +kernel
theorem dX7_cut_9 : decode cX7_cut 9 = .ok (.getfield 113, 3) := by decide +kernel
theorem dX7_cut_12 : decode cX7_cut 12 = .ok (.if_icmp .le 13, 3) := by decide +kernel
theorem dX7_cut_15 : decode cX7_cut 15 = .ok (.new 61, 3) := by decide +kernel
theorem dX7_cut_18 : decode cX7_cut 18 = .ok (.dup, 1) := by decide +kernel
theorem dX7_cut_19 : decode cX7_cut 19 = .ok (.ldc 126, 2) := by decide +kernel
theorem dX7_cut_21 : decode cX7_cut 21 = .ok (.invokespecial 65, 3) := by decide +kernel
theorem dX7_cut_24 : decode cX7_cut 24 = .ok (.athrow, 1) := by decide +kernel
theorem dX7_cut_25 : decode cX7_cut 25 = .ok (.aload_n 0, 1) := by decide +kernel
theorem dX7_cut_26 : decode cX7_cut 26 = .ok (.getfield 25, 3) := by decide +kernel
theorem dX7_cut_29 : decode cX7_cut 29 = .ok (.iload_n 1, 1) := by decide +kernel
theorem dX7_cut_30 : decode cX7_cut 30 = .ok (.putfield 113, 3) := by decide +kernel
theorem dX7_cut_33 : decode cX7_cut 33 = .ok (.return_, 1) := by decide +kernel
set_option maxRecDepth 20000 in
theorem ggX7_set_X4_has : GoodIn wsX7_set wsX4_has := goodIn_r _ [10, 11, 25, 26, 27] (by decide +kernel) (by decide +kernel)
set_option maxRecDepth 20000 in
theorem gX7_set_X4_has : GoodIn wsX7_set (wsV RX7 128 RX4 yX4_has wsX4_has) := goodIn_app (goodIn_of _ (by decide +kernel)) ggX7_set_X4_has
set_option maxRecDepth 20000 in
theorem ggX7_set_X4_isNumeral : GoodIn wsX7_set wsX4_isNumeral := goodIn_r _ [15, 16, 25, 26, 27] (by decide +kernel) (by decide +kernel)
set_option maxRecDepth 20000 in
theorem gX7_set_X4_isNumeral : GoodIn wsX7_set (wsV RX7 117 RX4 yX4_isNumeral wsX4_isNumeral) := goodIn_app (goodIn_of _ (by decide +kernel)) ggX7_set_X4_isNumeral
theorem dX7_set_0 : decode cX7_set 0 = .ok (.aload_n 0, 1) := by decide +kernel
theorem dX7_set_1 : decode cX7_set 1 = .ok (.getfield 25, 3) := by decide +kernel
theorem dX7_set_4 : decode cX7_set 4 = .ok (.iload_n 1, 1) := by decide +kernel
theorem dX7_set_5 : decode cX7_set 5 = .ok (.invokevirtual 128, 3) := by decide +kernel
theorem dX7_set_8 : decode cX7_set 8 = .ok (.ifCond .ne 13, 3) := by decide +kernel
theorem dX7_set_11 : decode cX7_set 11 = .ok (.new 78, 3) := by decide +kernel
theorem dX7_set_14 : decode cX7_set 14 = .ok (.dup, 1) := by decide +kernel
theorem dX7_set_15 : decode cX7_set 15 = .ok (.ldc 131, 2) := by decide +kernel
theorem dX7_set_17 : decode cX7_set 17 = .ok (.invokespecial 82, 3) := by decide +kernel
theorem dX7_set_20 : decode cX7_set 20 = .ok (.athrow, 1) := by decide +kernel
theorem dX7_set_21 : decode cX7_set 21 = .ok (.aload_n 0, 1) := by decide +kernel
theorem dX7_set_22 : decode cX7_set 22 = .ok (.getfield 25, 3) := by decide +kernel
theorem dX7_set_25 : decode cX7_set 25 = .ok (.iload_n 2, 1) := by decide +kernel
theorem dX7_set_26 : decode cX7_set 26 = .ok (.invokevirtual 117, 3) := by decide +kernel
theorem dX7_set_29 : decode cX7_set 29 = .ok (.ifCond .ne 13, 3) := by decide +kernel
theorem dX7_set_32 : decode cX7_set 32 = .ok (.new 61, 3) := by decide +kernel
theorem dX7_set_35 : decode cX7_set 35 = .ok (.dup, 1) := by decide +kernel
theorem dX7_set_36 : decode cX7_set 36 = .ok (.ldc 121, 2) := by decide +kernel
theorem dX7_set_38 : decode cX7_set 38 = .ok (.invokespecial 65, 3) := by decide +kernel
theorem dX7_set_41 : decode cX7_set 41 = .ok (.athrow, 1) := by decide +kernel
theorem dX7_set_42 : decode cX7_set 42 = .ok (.aload_n 0, 1) := by decide +kernel
theorem dX7_set_43 : decode cX7_set 43 = .ok (.getfield 25, 3) := by decide +kernel
theorem dX7_set_46 : decode cX7_set 46 = .ok (.getfield 125, 3) := by decide +kernel
theorem dX7_set_49 : decode cX7_set 49 = .ok (.iload_n 1, 1) := by decide +kernel
theorem dX7_set_50 : decode cX7_set 50 = .ok (.iaload, 1) := by decide +kernel
theorem dX7_set_51 : decode cX7_set 51 = .ok (.istore_n 3, 1) := by decide +kernel
theorem dX7_set_52 : decode cX7_set 52 = .ok (.aload_n 0, 1) := by decide +kernel
theorem dX7_set_53 : decode cX7_set 53 = .ok (.getfield 25, 3) := by decide +kernel
theorem dX7_set_56 : decode cX7_set 56 = .ok (.getfield 125, 3) := by decide +kernel
theorem dX7_set_59 : decode cX7_set 59 = .ok (.iload_n 1, 1) := by decide +kernel
theorem dX7_set_60 : decode cX7_set 60 = .ok (.iload_n 2, 1) := by decide +kernel
theorem dX7_set_61 : decode cX7_set 61 = .ok (.iastore, 1) := by decide +kernel
theorem dX7_set_62 : decode cX7_set 62 = .ok (.iload_n 3, 1) := by decide +kernel
theorem dX7_set_63 : decode cX7_set 63 = .ok (.ireturn, 1) := by decide +kernel
set_option maxRecDepth 20000 in
theorem ggX7_at_X4_has : GoodIn wsX7_at wsX4_has := goodIn_r _ [8, 9, 18, 19, 20] (by decide +kernel) (by decide +kernel)
set_option maxRecDepth 20000 in
theorem gX7_at_X4_has : GoodIn wsX7_at (wsV RX7 128 RX4 yX4_has wsX4_has) := goodIn_app (goodIn_of _ (by decide +kernel)) ggX7_at_X4_has
theorem dX7_at_0 : decode cX7_at 0 = .ok (.aload_n 0, 1) := by decide +kernel
theorem dX7_at_1 : decode cX7_at 1 = .ok (.getfield 25, 3) := by decide +kernel
theorem dX7_at_4 : decode cX7_at 4 = .ok (.iload_n 1, 1) := by decide +kernel
theorem dX7_at_5 : decode cX7_at 5 = .ok (.invokevirtual 128, 3) := by decide +kernel
theorem dX7_at_8 : decode cX7_at 8 = .ok (.ifCond .ne 13, 3) := by decide +kernel
theorem dX7_at_11 : decode cX7_at 11 = .ok (.new 78, 3) := by decide +kernel
theorem dX7_at_14 : decode cX7_at 14 = .ok (.dup, 1) := by decide +kernel
theorem dX7_at_15 : decode cX7_at 15 = .ok (.ldc 131, 2) := by decide +kernel
theorem dX7_at_17 : decode cX7_at 17 = .ok (.invokespecial 82, 3) := by decide +kernel
theorem dX7_at_20 : decode cX7_at 20 = .ok (.athrow, 1) := by decide +kernel
theorem dX7_at_21 : decode cX7_at 21 = .ok (.aload_n 0, 1) := by decide +kernel
theorem dX7_at_22 : decode cX7_at 22 = .ok (.getfield 25, 3) := by decide +kernel
theorem dX7_at_25 : decode cX7_at 25 = .ok (.getfield 125, 3) := by decide +kernel
theorem dX7_at_28 : decode cX7_at 28 = .ok (.iload_n 1, 1) := by decide +kernel
theorem dX7_at_29 : decode cX7_at 29 = .ok (.iaload, 1) := by decide +kernel
