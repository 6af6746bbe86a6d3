theorem dX8_at_0 : decode cX8_at 0 = .ok (.aload_n 0, 1) := by decide +kernel
theorem dX8_at_1 : decode cX8_at 1 = .ok (.iconst 0, 1) := by decide +kernel
theorem dX8_at_2 : decode cX8_at 2 = .ok (.putfield 63, 3) := by decide +kernel
theorem dX8_at_5 : decode cX8_at 5 = .ok (.aload_n 0, 1) := by decide +kernel
theorem dX8_at_6 : decode cX8_at 6 = .ok (.iload_n 1, 1) := by decide +kernel
theorem dX8_at_7 : decode cX8_at 7 = .ok (.i2l, 1) := by decide +kernel
theorem dX8_at_8 : decode cX8_at 8 = .ok (.lconst 0, 1) := by decide +kernel
theorem dX8_at_9 : decode cX8_at 9 = .ok (.aload_n 0, 1) := by decide +kernel
theorem dX8_at_10 : decode cX8_at 10 = .ok (.getfield 89, 3) := by decide +kernel
theorem dX8_at_13 : decode cX8_at 13 = .ok (.iconst 1, 1) := by decide +kernel
theorem dX8_at_14 : decode cX8_at 14 = .ok (.isub, 1) := by decide +kernel
theorem dX8_at_15 : decode cX8_at 15 = .ok (.i2l, 1) := by decide +kernel
theorem dX8_at_16 : decode cX8_at 16 = .ok (.invokestatic 133, 3) := by decide +kernel
theorem dX8_at_19 : decode cX8_at 19 = .ok (.ifCond .ne 7, 3) := by decide +kernel
theorem dX8_at_22 : decode cX8_at 22 = .ok (.iconst 1, 1) := by decide +kernel
theorem dX8_at_23 : decode cX8_at 23 = .ok (.goto 4, 3) := by decide +kernel
theorem dX8_at_26 : decode cX8_at 26 = .ok (.iconst 0, 1) := by decide +kernel
theorem dX8_at_27 : decode cX8_at 27 = .ok (.iconst 1, 1) := by decide +kernel
theorem dX8_at_28 : decode cX8_at 28 = .ok (.invokevirtual 137, 3) := by decide +kernel
theorem dX8_at_31 : decode cX8_at 31 = .ok (.ifCond .eq 7, 3) := by decide +kernel
theorem dX8_at_34 : decode cX8_at 34 = .ok (.iconst 0, 1) := by decide +kernel
theorem dX8_at_35 : decode cX8_at 35 = .ok (.goto 9, 3) := by decide +kernel
theorem dX8_at_38 : decode cX8_at 38 = .ok (.aload_n 0, 1) := by decide +kernel
theorem dX8_at_39 : decode cX8_at 39 = .ok (.getfield 26, 3) := by decide +kernel
theorem dX8_at_42 : decode cX8_at 42 = .ok (.iload_n 1, 1) := by decide +kernel
theorem dX8_at_43 : decode cX8_at 43 = .ok (.iaload, 1) := by decide +kernel
theorem dX8_at_44 : decode cX8_at 44 = .ok (.ireturn, 1) := by decide +kernel
set_option maxRecDepth 20000 in
theorem ggX8_can_X8_in : GoodIn wsX8_can wsX8_in := goodIn_r _ [5] (by decide +kernel) (by decide +kernel)
set_option maxRecDepth 20000 in
theorem gX8_can_X8_in : GoodIn wsX8_can (va_wsS RX8 133 yX8_in wsX8_in) := goodIn_app (goodIn_of _ (by decide +kernel)) ggX8_can_X8_in
set_option maxRecDepth 20000 in
theorem ggX8_can_X8_refuses : GoodIn wsX8_can wsX8_refuses := goodIn_r _ [9, 1, 29, 30, 31, 32, 33, 34, 35, 36, 37, 38, 39, 40, 41, 42, 43, 44, 45, 46, 47, 48, 49, 50, 51] (by decide +kernel) (by decide +kernel)
set_option maxRecDepth 20000 in
theorem gX8_can_X8_refuses : GoodIn wsX8_can (wsV RX8 137 RX8 yX8_refuses wsX8_refuses) := goodIn_app (goodIn_of _ (by decide +kernel)) ggX8_can_X8_refuses
set_option maxRecDepth 20000 in
theorem ggX8_can_X8_canTurn : GoodIn wsX8_can wsX8_canTurn := goodIn_r _ [13, 14, 15, 16, 17, 18, 19, 20, 4, 21, 22, 23, 24, 25, 26, 27, 28, 29, 30, 31, 32, 33, 34, 35, 36, 37, 38, 39, 40, 41, 42, 43, 44, 45, 46, 47, 48, 49, 50, 51] (by decide +kernel) (by decide +kernel)
set_option maxRecDepth 20000 in
theorem gX8_can_X8_canTurn : GoodIn wsX8_can (wsV RX8 148 RX8 yX8_canTurn wsX8_canTurn) := goodIn_app (goodIn_of _ (by decide +kernel)) ggX8_can_X8_canTurn
theorem dX8_can_0 : decode cX8_can 0 = .ok (.aload_n 0, 1) := by decide +kernel
theorem dX8_can_1 : decode cX8_can 1 = .ok (.iconst 0, 1) := by decide +kernel
theorem dX8_can_2 : decode cX8_can 2 = .ok (.putfield 63, 3) := by decide +kernel
theorem dX8_can_5 : decode cX8_can 5 = .ok (.aload_n 0, 1) := by decide +kernel
theorem dX8_can_6 : decode cX8_can 6 = .ok (.iload_n 1, 1) := by decide +kernel
theorem dX8_can_7 : decode cX8_can 7 = .ok (.i2l, 1) := by decide +kernel
theorem dX8_can_8 : decode cX8_can 8 = .ok (.lconst 0, 1) := by decide +kernel
theorem dX8_can_9 : decode cX8_can 9 = .ok (.lconst 1, 1) := by decide +kernel
theorem dX8_can_10 : decode cX8_can 10 = .ok (.invokestatic 133, 3) := by decide +kernel
theorem dX8_can_13 : decode cX8_can 13 = .ok (.ifCond .ne 7, 3) := by decide +kernel
theorem dX8_can_16 : decode cX8_can 16 = .ok (.iconst 1, 1) := by decide +kernel
theorem dX8_can_17 : decode cX8_can 17 = .ok (.goto 4, 3) := by decide +kernel
theorem dX8_can_20 : decode cX8_can 20 = .ok (.iconst 0, 1) := by decide +kernel
theorem dX8_can_21 : decode cX8_can 21 = .ok (.iconst 1, 1) := by decide +kernel
theorem dX8_can_22 : decode cX8_can 22 = .ok (.invokevirtual 137, 3) := by decide +kernel
theorem dX8_can_25 : decode cX8_can 25 = .ok (.ifCond .ne 15, 3) := by decide +kernel
theorem dX8_can_28 : decode cX8_can 28 = .ok (.aload_n 0, 1) := by decide +kernel
theorem dX8_can_29 : decode cX8_can 29 = .ok (.iload_n 1, 1) := by decide +kernel
theorem dX8_can_30 : decode cX8_can 30 = .ok (.invokevirtual 148, 3) := by decide +kernel
theorem dX8_can_33 : decode cX8_can 33 = .ok (.ifCond .eq 7, 3) := by decide +kernel
theorem dX8_can_36 : decode cX8_can 36 = .ok (.iconst 1, 1) := by decide +kernel
theorem dX8_can_37 : decode cX8_can 37 = .ok (.goto 4, 3) := by decide +kernel
theorem dX8_can_40 : decode cX8_can 40 = .ok (.iconst 0, 1) := by decide +kernel
theorem dX8_can_41 : decode cX8_can 41 = .ok (.ireturn, 1) := by decide +kernel
set_option maxRecDepth 20000 in
theorem ggX8_turn_X8_in : GoodIn wsX8_turn wsX8_in := goodIn_r _ [5] (by decide +kernel) (by decide +kernel)
set_option maxRecDepth 20000 in
theorem gX8_turn_X8_in : GoodIn wsX8_turn (va_wsS RX8 133 yX8_in wsX8_in) := goodIn_app (goodIn_of _ (by decide +kernel)) ggX8_turn_X8_in
set_option maxRecDepth 20000 in
theorem ggX8_turn_X8_refuses : GoodIn wsX8_turn wsX8_refuses := goodIn_r _ [9, 1, 95, 96, 97, 98, 99, 100, 101, 102, 103, 104, 105, 106, 107, 108, 109, 110, 111, 112, 113, 114, 115, 116, 117] (by decide +kernel) (by decide +kernel)
set_option maxRecDepth 20000 in
theorem gX8_turn_X8_refuses : GoodIn wsX8_turn (wsV RX8 137 RX8 yX8_refuses wsX8_refuses) := goodIn_app (goodIn_of _ (by decide +kernel)) ggX8_turn_X8_refuses
set_option maxRecDepth 20000 in
theorem ggX8_turn_X8_canTurn : GoodIn wsX8_turn wsX8_canTurn := goodIn_r _ [13, 14, 15, 16, 17, 18, 19, 20, 4, 21, 22, 23, 24, 25, 26, 27, 28, 95, 96, 97, 98, 99, 100, 101, 102, 103, 104, 105, 106, 107, 108, 109, 110, 111, 112, 113, 114, 115, 116, 117] (by decide +kernel) (by decide +kernel)
set_option maxRecDepth 20000 in
theorem gX8_turn_X8_canTurn : GoodIn wsX8_turn (wsV RX8 148 RX8 yX8_canTurn wsX8_canTurn) := goodIn_app (goodIn_of _ (by decide +kernel)) ggX8_turn_X8_canTurn
set_option maxRecDepth 20000 in
theorem ggX8_turn_X8_turnFirst : GoodIn wsX8_turn wsX8_turnFirst := goodIn_r _ [32, 14, 33, 34, 18, 19, 20, 4, 21, 22, 16, 23, 24, 25, 26, 27, 28, 35, 36, 37, 38, 39, 40, 41, 42, 43, 44, 45, 46, 47, 48, 49, 50, 51, 52, 53, 54, 55, 56, 57, 17, 58, 59, 60, 61, 62, 63, 64, 65, 66, 67, 68, 69, 70, 71, 72, 73, 74, 75, 76, 77, 78, 79, 80, 81, 82, 83, 84, 85, 86, 87, 88, 89, 90, 95, 96, 97, 98, 99, 100, 101, 102, 103, 104, 105, 106, 107, 108, 109, 110, 111, 112, 113, 114, 115, 116, 117] rfl (by decide +kernel)
set_option maxRecDepth 20000 in
theorem gX8_turn_X8_turnFirst : GoodIn wsX8_turn (wsV RX8 152 RX8 yX8_turnFirst wsX8_turnFirst) := goodIn_app (goodIn_of _ (by decide +kernel)) ggX8_turn_X8_turnFirst
set_option maxRecDepth 20000 in
theorem ggX8_turn_X8_turnSecond : GoodIn wsX8_turn wsX8_turnSecond := goodIn_r _ [94, 14, 58, 59, 34, 33, 51, 52, 23, 60, 61, 35, 36, 37, 4, 38, 39, 40, 41, 42, 43, 44, 45, 46, 47, 48, 49, 50, 53, 24, 25, 26, 27, 16, 28, 66, 67, 68, 69, 70, 71, 72, 73, 74, 75, 76, 77, 78, 22, 79, 80, 81, 82, 83, 84, 85, 86, 87, 88, 89, 90, 95, 96, 97, 98, 99, 100, 101, 102, 103, 104, 105, 106, 107, 108, 109, 110, 111, 112, 113, 114, 115, 116, 117] rfl (by decide +kernel)
set_option maxRecDepth 20000 in
theorem gX8_turn_X8_turnSecond : GoodIn wsX8_turn (wsV RX8 155 RX8 yX8_turnSecond wsX8_turnSecond) := goodIn_app (goodIn_of _ (by decide +kernel)) ggX8_turn_X8_turnSecond
theorem dX8_turn_0 : decode cX8_turn 0 = .ok (.aload_n 0, 1) := by decide +kernel
theorem dX8_turn_1 : decode cX8_turn 1 = .ok (.iconst 0, 1) := by decide +kernel
theorem dX8_turn_2 : decode cX8_turn 2 = .ok (.putfield 63, 3) := by decide +kernel
theorem dX8_turn_5 : decode cX8_turn 5 = .ok (.aload_n 0, 1) := by decide +kernel
theorem dX8_turn_6 : decode cX8_turn 6 = .ok (.iload_n 1, 1) := by decide +kernel
theorem dX8_turn_7 : decode cX8_turn 7 = .ok (.i2l, 1) := by decide +kernel
theorem dX8_turn_8 : decode cX8_turn 8 = .ok (.lconst 0, 1) := by decide +kernel
theorem dX8_turn_9 : decode cX8_turn 9 = .ok (.lconst 1, 1) := by decide +kernel
theorem dX8_turn_10 : decode cX8_turn 10 = .ok (.invokestatic 133, 3) := by decide +kernel
theorem dX8_turn_13 : decode cX8_turn 13 = .ok (.ifCond .ne 7, 3) := by decide +kernel
theorem dX8_turn_16 : decode cX8_turn 16 = .ok (.iconst 1, 1) := by decide +kernel
theorem dX8_turn_17 : decode cX8_turn 17 = .ok (.goto 4, 3) := by decide +kernel
theorem dX8_turn_20 : decode cX8_turn 20 = .ok (.iconst 0, 1) := by decide +kernel
theorem dX8_turn_21 : decode cX8_turn 21 = .ok (.iconst 1, 1) := by decide +kernel
theorem dX8_turn_22 : decode cX8_turn 22 = .ok (.invokevirtual 137, 3) := by decide +kernel
theorem dX8_turn_25 : decode cX8_turn 25 = .ok (.ifCond .ne 24, 3) := by decide +kernel
theorem dX8_turn_28 : decode cX8_turn 28 = .ok (.aload_n 0, 1) := by decide +kernel
theorem dX8_turn_29 : decode cX8_turn 29 = .ok (.aload_n 0, 1) := by decide +kernel
theorem dX8_turn_30 : decode cX8_turn 30 = .ok (.iload_n 1, 1) := by decide +kernel
theorem dX8_turn_31 : decode cX8_turn 31 = .ok (.invokevirtual 148, 3) := by decide +kernel
theorem dX8_turn_34 : decode cX8_turn 34 = .ok (.ifCond .ne 7, 3) := by decide +kernel
theorem dX8_turn_37 : decode cX8_turn 37 = .ok (.iconst 1, 1) := by decide +kernel
theorem dX8_turn_38 : decode cX8_turn 38 = .ok (.goto 4, 3) := by decide +kernel
theorem dX8_turn_41 : decode cX8_turn 41 = .ok (.iconst 0, 1) := by decide +kernel
theorem dX8_turn_42 : decode cX8_turn 42 = .ok (.iconst 2, 1) := by decide +kernel
theorem dX8_turn_43 : decode cX8_turn 43 = .ok (.invokevirtual 137, 3) := by decide +kernel
theorem dX8_turn_46 : decode cX8_turn 46 = .ok (.ifCond .eq 4, 3) := by decide +kernel
theorem dX8_turn_49 : decode cX8_turn 49 = .ok (.return_, 1) := by decide +kernel
theorem dX8_turn_50 : decode cX8_turn 50 = .ok (.iload_n 1, 1) := by decide +kernel
theorem dX8_turn_51 : decode cX8_turn 51 = .ok (.ifCond .ne 11, 3) := by decide +kernel
theorem dX8_turn_54 : decode cX8_turn 54 = .ok (.aload_n 0, 1) := by decide +kernel
theorem dX8_turn_55 : decode cX8_turn 55 = .ok (.iload_n 2, 1) := by decide +kernel
theorem dX8_turn_56 : decode cX8_turn 56 = .ok (.invokevirtual 152, 3) := by decide +kernel
theorem dX8_turn_59 : decode cX8_turn 59 = .ok (.goto 8, 3) := by decide +kernel
theorem dX8_turn_62 : decode cX8_turn 62 = .ok (.aload_n 0, 1) := by decide +kernel
theorem dX8_turn_63 : decode cX8_turn 63 = .ok (.iload_n 2, 1) := by decide +kernel
theorem dX8_turn_64 : decode cX8_turn 64 = .ok (.invokevirtual 155, 3) := by decide +kernel
theorem dX8_turn_67 : decode cX8_turn 67 = .ok (.return_, 1) := by decide +kernel
set_option maxRecDepth 20000 in
theorem ggX8_count_X8_in : GoodIn wsX8_count wsX8_in := goodIn_r _ [11] (by decide +kernel) (by decide +kernel)
set_option maxRecDepth 20000 in
theorem gX8_count_X8_in : GoodIn wsX8_count (va_wsS RX8 133 yX8_in wsX8_in) := goodIn_app (goodIn_of _ (by decide +kernel)) ggX8_count_X8_in
set_option maxRecDepth 20000 in
theorem ggX8_count_X8_refuses : GoodIn wsX8_count wsX8_refuses := goodIn_r _ [15, 1, 16, 17, 18, 19, 20, 21, 22, 23, 24, 25, 26, 27, 28, 29, 30, 31, 32, 33, 34, 35, 36, 37, 38] (by decide +kernel) (by decide +kernel)
set_option maxRecDepth 20000 in
theorem gX8_count_X8_refuses : GoodIn wsX8_count (wsV RX8 137 RX8 yX8_refuses wsX8_refuses) := goodIn_app (goodIn_of _ (by decide +kernel)) ggX8_count_X8_refuses
theorem dX8_count_0 : decode cX8_count 0 = .ok (.aload_n 0, 1) := by decide +kernel
theorem dX8_count_1 : decode cX8_count 1 = .ok (.iconst 0, 1) := by decide +kernel
theorem dX8_count_2 : decode cX8_count 2 = .ok (.putfield 63, 3) := by decide +kernel
theorem dX8_count_5 : decode cX8_count 5 = .ok (.aload_n 0, 1) := by decide +kernel
theorem dX8_count_6 : decode cX8_count 6 = .ok (.iload_n 1, 1) := by decide +kernel
theorem dX8_count_7 : decode cX8_count 7 = .ok (.i2l, 1) := by decide +kernel
theorem dX8_count_8 : decode cX8_count 8 = .ok (.lconst 0, 1) := by decide +kernel
theorem dX8_count_9 : decode cX8_count 9 = .ok (.ldc2_w 158, 3) := by decide +kernel
theorem dX8_count_12 : decode cX8_count 12 = .ok (.invokestatic 133, 3) := by decide +kernel
theorem dX8_count_15 : decode cX8_count 15 = .ok (.ifCond .ne 7, 3) := by decide +kernel
theorem dX8_count_18 : decode cX8_count 18 = .ok (.iconst 1, 1) := by decide +kernel
theorem dX8_count_19 : decode cX8_count 19 = .ok (.goto 4, 3) := by decide +kernel
theorem dX8_count_22 : decode cX8_count 22 = .ok (.iconst 0, 1) := by decide +kernel
theorem dX8_count_23 : decode cX8_count 23 = .ok (.iconst 1, 1) := by decide +kernel
theorem dX8_count_24 : decode cX8_count 24 = .ok (.invokevirtual 137, 3) := by decide +kernel
theorem dX8_count_27 : decode cX8_count 27 = .ok (.ifCond .eq 5, 3) := by decide +kernel
theorem dX8_count_30 : decode cX8_count 30 = .ok (.iconst 0, 1) := by decide +kernel
theorem dX8_count_31 : decode cX8_count 31 = .ok (.ireturn, 1) := by decide +kernel
theorem dX8_count_32 : decode cX8_count 32 = .ok (.iload_n 1, 1) := by decide +kernel
theorem dX8_count_33 : decode cX8_count 33 = .ok (.ifCond .ne 10, 3) := by decide +kernel
theorem dX8_count_36 : decode cX8_count 36 = .ok (.aload_n 0, 1) := by decide +kernel
theorem dX8_count_37 : decode cX8_count 37 = .ok (.getfield 89, 3) := by decide +kernel
theorem dX8_count_40 : decode cX8_count 40 = .ok (.goto 43, 3) := by decide +kernel
theorem dX8_count_43 : decode cX8_count 43 = .ok (.iload_n 1, 1) := by decide +kernel
theorem dX8_count_44 : decode cX8_count 44 = .ok (.iconst 1, 1) := by decide +kernel
theorem dX8_count_45 : decode cX8_count 45 = .ok (.if_icmp .ne 10, 3) := by decide +kernel
theorem dX8_count_48 : decode cX8_count 48 = .ok (.aload_n 0, 1) := by decide +kernel
theorem dX8_count_49 : decode cX8_count 49 = .ok (.getfield 23, 3) := by decide +kernel
theorem dX8_count_52 : decode cX8_count 52 = .ok (.goto 31, 3) := by decide +kernel
theorem dX8_count_55 : decode cX8_count 55 = .ok (.iload_n 1, 1) := by decide +kernel
theorem dX8_count_56 : decode cX8_count 56 = .ok (.iconst 2, 1) := by decide +kernel
theorem dX8_count_57 : decode cX8_count 57 = .ok (.if_icmp .ne 10, 3) := by decide +kernel
theorem dX8_count_60 : decode cX8_count 60 = .ok (.aload_n 0, 1) := by decide +kernel
theorem dX8_count_61 : decode cX8_count 61 = .ok (.getfield 13, 3) := by decide +kernel
theorem dX8_count_64 : decode cX8_count 64 = .ok (.goto 19, 3) := by decide +kernel
theorem dX8_count_67 : decode cX8_count 67 = .ok (.iload_n 1, 1) := by decide +kernel
theorem dX8_count_68 : decode cX8_count 68 = .ok (.iconst 3, 1) := by decide +kernel
theorem dX8_count_69 : decode cX8_count 69 = .ok (.if_icmp .ne 10, 3) := by decide +kernel
theorem dX8_count_72 : decode cX8_count 72 = .ok (.aload_n 0, 1) := by decide +kernel
theorem dX8_count_73 : decode cX8_count 73 = .ok (.getfield 95, 3) := by decide +kernel
theorem dX8_count_76 : decode cX8_count 76 = .ok (.goto 7, 3) := by decide +kernel
theorem dX8_count_79 : decode cX8_count 79 = .ok (.aload_n 0, 1) := by decide +kernel
theorem dX8_count_80 : decode cX8_count 80 = .ok (.getfield 141, 3) := by decide +kernel
theorem dX8_count_83 : decode cX8_count 83 = .ok (.ireturn, 1) := by decide +kernel
theorem dJ9_max_7cf53_0 : decode cJ9_max_7cf53 0 = .ok (.iload_n 0, 1) := by decide +kernel
theorem dJ9_max_7cf53_1 : decode cJ9_max_7cf53 1 = .ok (.iload_n 1, 1) := by decide +kernel
theorem dJ9_max_7cf53_2 : decode cJ9_max_7cf53 2 = .ok (.if_icmp .lt 7, 3) := by decide +kernel
theorem dJ9_max_7cf53_5 : decode cJ9_max_7cf53 5 = .ok (.iload_n 0, 1) := by decide +kernel
theorem dJ9_max_7cf53_6 : decode cJ9_max_7cf53 6 = .ok (.goto 4, 3) := by decide +kernel
theorem dJ9_max_7cf53_9 : decode cJ9_max_7cf53 9 = .ok (.iload_n 1, 1) := by decide +kernel
theorem dJ9_max_7cf53_10 : decode cJ9_max_7cf53 10 = .ok (.ireturn, 1) := by decide +kernel
theorem dJ7_fill_53178_0 : decode cJ7_fill_53178 0 = .ok (.iconst 0, 1) := by decide +kernel
theorem dJ7_fill_53178_1 : decode cJ7_fill_53178 1 = .ok (.istore_n 2, 1) := by decide +kernel
theorem dJ7_fill_53178_2 : decode cJ7_fill_53178 2 = .ok (.aload_n 0, 1) := by decide +kernel
theorem dJ7_fill_53178_3 : decode cJ7_fill_53178 3 = .ok (.arraylength, 1) := by decide +kernel
theorem dJ7_fill_53178_4 : decode cJ7_fill_53178 4 = .ok (.istore_n 3, 1) := by decide +kernel
theorem dJ7_fill_53178_5 : decode cJ7_fill_53178 5 = .ok (.iload_n 2, 1) := by decide +kernel
theorem dJ7_fill_53178_6 : decode cJ7_fill_53178 6 = .ok (.iload_n 3, 1) := by decide +kernel
theorem dJ7_fill_53178_7 : decode cJ7_fill_53178 7 = .ok (.if_icmp .ge 13, 3) := by decide +kernel
theorem dJ7_fill_53178_10 : decode cJ7_fill_53178 10 = .ok (.aload_n 0, 1) := by decide +kernel
theorem dJ7_fill_53178_11 : decode cJ7_fill_53178 11 = .ok (.iload_n 2, 1) := by decide +kernel
theorem dJ7_fill_53178_12 : decode cJ7_fill_53178 12 = .ok (.iload_n 1, 1) := by decide +kernel
theorem dJ7_fill_53178_13 : decode cJ7_fill_53178 13 = .ok (.iastore, 1) := by decide +kernel
theorem dJ7_fill_53178_14 : decode cJ7_fill_53178 14 = .ok (.iinc 2 1, 3) := by decide +kernel
theorem dJ7_fill_53178_17 : decode cJ7_fill_53178 17 = .ok (.goto (-12), 3) := by decide +kernel
theorem dJ7_fill_53178_20 : decode cJ7_fill_53178 20 = .ok (.return_, 1) := by decide +kernel
abbrev vwCl : List vw_C := [(RX0, TX0, 3), (RX1, TX1, 2), (RX2, TX2, 8), (RX3, TX3, 2), (RX4, TX4, 3), (RX5, TX5, 4), (RX7, TX7, 8), (RX8, TX8, 23)]
