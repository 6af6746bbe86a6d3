theorem dX7_at_30 : decode cX7_at 30 = .ok (.ireturn, 1) := by decide +kernel
set_option maxRecDepth 20000 in
theorem ggX7_can_X7_isTurnable : GoodIn wsX7_can wsX7_isTurnable := goodIn_r _ [7, 8, 9, 10, 11, 12, 13, 14, 15, 16, 17, 18, 19, 20, 21, 6, 22, 23, 24, 25, 26, 27, 28, 29, 30, 31, 32, 33, 34, 35, 36, 37, 38, 39, 40, 41, 42, 43, 44, 45, 46, 47, 48, 49, 50, 51, 52, 53, 54, 55, 56, 57, 58, 59, 60, 61, 62, 63, 64, 65, 66, 67, 68, 69, 70, 71, 72, 73, 74, 75, 76, 77, 78, 79, 80, 81, 82, 83, 84, 85] rfl (by decide +kernel)
set_option maxRecDepth 20000 in
theorem gX7_can_X7_isTurnable : GoodIn wsX7_can (wsV RX7 135 RX7 yX7_isTurnable wsX7_isTurnable) := goodIn_app (goodIn_of _ (by decide +kernel)) ggX7_can_X7_isTurnable
theorem dX7_can_0 : decode cX7_can 0 = .ok (.iload_n 1, 1) := by decide +kernel
theorem dX7_can_1 : decode cX7_can 1 = .ok (.ifCond .eq 18, 3) := by decide +kernel
theorem dX7_can_4 : decode cX7_can 4 = .ok (.iload_n 1, 1) := by decide +kernel
theorem dX7_can_5 : decode cX7_can 5 = .ok (.iconst 1, 1) := by decide +kernel
theorem dX7_can_6 : decode cX7_can 6 = .ok (.if_icmp .eq 13, 3) := by decide +kernel
theorem dX7_can_9 : decode cX7_can 9 = .ok (.new 61, 3) := by decide +kernel
theorem dX7_can_12 : decode cX7_can 12 = .ok (.dup, 1) := by decide +kernel
theorem dX7_can_13 : decode cX7_can 13 = .ok (.ldc 133, 2) := by decide +kernel
theorem dX7_can_15 : decode cX7_can 15 = .ok (.invokespecial 65, 3) := by decide +kernel
theorem dX7_can_18 : decode cX7_can 18 = .ok (.athrow, 1) := by decide +kernel
theorem dX7_can_19 : decode cX7_can 19 = .ok (.aload_n 0, 1) := by decide +kernel
theorem dX7_can_20 : decode cX7_can 20 = .ok (.iload_n 1, 1) := by decide +kernel
theorem dX7_can_21 : decode cX7_can 21 = .ok (.invokevirtual 135, 3) := by decide +kernel
theorem dX7_can_24 : decode cX7_can 24 = .ok (.ireturn, 1) := by decide +kernel
set_option maxRecDepth 20000 in
theorem ggX7_turn_X7_isTurnable : GoodIn wsX7_turn wsX7_isTurnable := goodIn_r _ [9, 10, 11, 12, 13, 14, 15, 16, 17, 18, 19, 20, 21, 22, 23, 8, 24, 25, 26, 27, 28, 29, 30, 31, 32, 33, 34, 35, 36, 37, 38, 39, 40, 41, 42, 43, 44, 45, 46, 47, 48, 49, 50, 51, 52, 53, 54, 55, 56, 57, 58, 59, 60, 61, 62, 63, 64, 65, 66, 67, 68, 69, 70, 71, 72, 217, 218, 219, 220, 221, 222, 223, 224, 225, 226, 227, 228, 229, 230, 231] rfl (by decide +kernel)
set_option maxRecDepth 20000 in
theorem gX7_turn_X7_isTurnable : GoodIn wsX7_turn (wsV RX7 135 RX7 yX7_isTurnable wsX7_isTurnable) := goodIn_app (goodIn_of _ (by decide +kernel)) ggX7_turn_X7_isTurnable
set_option maxRecDepth 20000 in
theorem ggX7_turn_X7_wayOf : GoodIn wsX7_turn wsX7_wayOf := goodIn_r _ [24, 25, 26, 217, 218, 219, 220, 221, 222, 223, 224] (by decide +kernel) (by decide +kernel)
set_option maxRecDepth 20000 in
theorem gX7_turn_X7_wayOf : GoodIn wsX7_turn (wsV RX7 143 RX7 yX7_wayOf wsX7_wayOf) := goodIn_app (goodIn_of _ (by decide +kernel)) ggX7_turn_X7_wayOf
set_option maxRecDepth 20000 in
theorem ggX7_turn_X7_runRounds : GoodIn wsX7_turn wsX7_runRounds := goodIn_r _ [76, 10, 11, 12, 77, 78, 79, 80, 31, 81, 82, 38, 35, 40, 83, 84, 85, 86, 87, 88, 89, 90, 91, 92, 93, 94, 95, 96, 97, 98, 99, 100, 101, 102, 103, 104, 105, 106, 107, 42, 43, 16, 44, 20, 45, 46, 47, 48, 49, 50, 51, 52, 53, 54, 55, 56, 57, 58, 59, 60, 61, 62, 63, 64, 65, 66, 67, 68, 69, 70, 71, 72, 108, 109, 110, 111, 112, 113, 114, 115, 116, 117, 118, 119, 120, 121, 122, 123, 124, 125, 126, 127, 128, 129, 130, 131, 132, 133, 134, 135, 136, 137, 138, 139, 140, 141, 142, 143, 144, 145, 146, 147, 148, 149, 150, 151, 152, 153, 154, 155, 156, 157, 158, 159, 160, 161, 162, 163, 164, 165, 166, 167, 168, 169, 170, 171, 172, 173, 174, 175, 176, 177, 178, 179, 180, 181, 182, 183, 184, 185, 186, 187, 188, 189, 190, 191, 192, 193, 194, 195, 196, 197, 198, 199, 200, 201, 202, 203, 204, 205, 206, 207, 208, 209, 210, 211, 212, 213, 214, 215, 216, 217, 218, 219, 220, 221, 222, 223, 224, 225, 226, 227, 232, 233, 234, 235, 236, 237, 238, 239, 228, 229, 240, 241, 242, 243, 230, 231, 244, 245, 246] rfl (by decide +kernel)
set_option maxRecDepth 20000 in
theorem gX7_turn_X7_runRounds : GoodIn wsX7_turn (wsV RX7 147 RX7 yX7_runRounds wsX7_runRounds) := goodIn_app (goodIn_of _ (by decide +kernel)) ggX7_turn_X7_runRounds
theorem dX7_turn_0 : decode cX7_turn 0 = .ok (.iload_n 1, 1) := by decide +kernel
theorem dX7_turn_1 : decode cX7_turn 1 = .ok (.ifCond .eq 18, 3) := by decide +kernel
theorem dX7_turn_4 : decode cX7_turn 4 = .ok (.iload_n 1, 1) := by decide +kernel
theorem dX7_turn_5 : decode cX7_turn 5 = .ok (.iconst 1, 1) := by decide +kernel
theorem dX7_turn_6 : decode cX7_turn 6 = .ok (.if_icmp .eq 13, 3) := by decide +kernel
theorem dX7_turn_9 : decode cX7_turn 9 = .ok (.new 61, 3) := by decide +kernel
theorem dX7_turn_12 : decode cX7_turn 12 = .ok (.dup, 1) := by decide +kernel
theorem dX7_turn_13 : decode cX7_turn 13 = .ok (.ldc 133, 2) := by decide +kernel
theorem dX7_turn_15 : decode cX7_turn 15 = .ok (.invokespecial 65, 3) := by decide +kernel
theorem dX7_turn_18 : decode cX7_turn 18 = .ok (.athrow, 1) := by decide +kernel
theorem dX7_turn_19 : decode cX7_turn 19 = .ok (.aload_n 0, 1) := by decide +kernel
theorem dX7_turn_20 : decode cX7_turn 20 = .ok (.iload_n 1, 1) := by decide +kernel
theorem dX7_turn_21 : decode cX7_turn 21 = .ok (.invokevirtual 135, 3) := by decide +kernel
theorem dX7_turn_24 : decode cX7_turn 24 = .ok (.ifCond .ne 13, 3) := by decide +kernel
theorem dX7_turn_27 : decode cX7_turn 27 = .ok (.new 138, 3) := by decide +kernel
theorem dX7_turn_30 : decode cX7_turn 30 = .ok (.dup, 1) := by decide +kernel
theorem dX7_turn_31 : decode cX7_turn 31 = .ok (.ldc 140, 2) := by decide +kernel
theorem dX7_turn_33 : decode cX7_turn 33 = .ok (.invokespecial 142, 3) := by decide +kernel
theorem dX7_turn_36 : decode cX7_turn 36 = .ok (.athrow, 1) := by decide +kernel
theorem dX7_turn_37 : decode cX7_turn 37 = .ok (.aload_n 0, 1) := by decide +kernel
theorem dX7_turn_38 : decode cX7_turn 38 = .ok (.aload_n 0, 1) := by decide +kernel
theorem dX7_turn_39 : decode cX7_turn 39 = .ok (.iload_n 1, 1) := by decide +kernel
theorem dX7_turn_40 : decode cX7_turn 40 = .ok (.invokevirtual 143, 3) := by decide +kernel
theorem dX7_turn_43 : decode cX7_turn 43 = .ok (.iload_n 2, 1) := by decide +kernel
theorem dX7_turn_44 : decode cX7_turn 44 = .ok (.invokevirtual 147, 3) := by decide +kernel
theorem dX7_turn_47 : decode cX7_turn 47 = .ok (.return_, 1) := by decide +kernel
theorem dX7_count_0 : decode cX7_count 0 = .ok (.iload_n 1, 1) := by decide +kernel
theorem dX7_count_1 : decode cX7_count 1 = .ok (.tableswitch 75 0 4 #[35, 43, 51, 59, 67], 35) := by decide +kernel
theorem dX7_count_36 : decode cX7_count 36 = .ok (.aload_n 0, 1) := by decide +kernel
theorem dX7_count_37 : decode cX7_count 37 = .ok (.getfield 25, 3) := by decide +kernel
theorem dX7_count_40 : decode cX7_count 40 = .ok (.getfield 113, 3) := by decide +kernel
theorem dX7_count_43 : decode cX7_count 43 = .ok (.ireturn, 1) := by decide +kernel
theorem dX7_count_44 : decode cX7_count 44 = .ok (.aload_n 0, 1) := by decide +kernel
theorem dX7_count_45 : decode cX7_count 45 = .ok (.getfield 25, 3) := by decide +kernel
theorem dX7_count_48 : decode cX7_count 48 = .ok (.getfield 114, 3) := by decide +kernel
theorem dX7_count_51 : decode cX7_count 51 = .ok (.ireturn, 1) := by decide +kernel
theorem dX7_count_52 : decode cX7_count 52 = .ok (.aload_n 0, 1) := by decide +kernel
theorem dX7_count_53 : decode cX7_count 53 = .ok (.getfield 16, 3) := by decide +kernel
theorem dX7_count_56 : decode cX7_count 56 = .ok (.getfield 54, 3) := by decide +kernel
theorem dX7_count_59 : decode cX7_count 59 = .ok (.ireturn, 1) := by decide +kernel
theorem dX7_count_60 : decode cX7_count 60 = .ok (.aload_n 0, 1) := by decide +kernel
theorem dX7_count_61 : decode cX7_count 61 = .ok (.getfield 19, 3) := by decide +kernel
theorem dX7_count_64 : decode cX7_count 64 = .ok (.getfield 54, 3) := by decide +kernel
theorem dX7_count_67 : decode cX7_count 67 = .ok (.ireturn, 1) := by decide +kernel
theorem dX7_count_68 : decode cX7_count 68 = .ok (.aload_n 0, 1) := by decide +kernel
theorem dX7_count_69 : decode cX7_count 69 = .ok (.getfield 10, 3) := by decide +kernel
theorem dX7_count_72 : decode cX7_count 72 = .ok (.getfield 54, 3) := by decide +kernel
theorem dX7_count_75 : decode cX7_count 75 = .ok (.ireturn, 1) := by decide +kernel
theorem dX7_count_76 : decode cX7_count 76 = .ok (.new 78, 3) := by decide +kernel
theorem dX7_count_79 : decode cX7_count 79 = .ok (.dup, 1) := by decide +kernel
theorem dX7_count_80 : decode cX7_count 80 = .ok (.ldc 151, 2) := by decide +kernel
theorem dX7_count_82 : decode cX7_count 82 = .ok (.invokespecial 82, 3) := by decide +kernel
theorem dX7_count_85 : decode cX7_count 85 = .ok (.athrow, 1) := by decide +kernel
set_option maxRecDepth 20000 in
theorem ggX7_expandKey_X0_expand : GoodIn wsX7_expandKey wsX0_expand := goodIn_r _ [12, 13, 14, 15, 16, 17, 18, 19, 20, 21, 22, 11, 23, 24, 25, 26, 27, 28, 29, 30, 31, 32, 33, 34, 35, 36, 37, 58, 59, 60, 61, 62] (by decide +kernel) (by decide +kernel)
set_option maxRecDepth 20000 in
theorem gX7_expandKey_X0_expand : GoodIn wsX7_expandKey (wsV RX7 153 RX0 yX0_expand wsX0_expand) := goodIn_app (goodIn_of _ (by decide +kernel)) ggX7_expandKey_X0_expand
theorem dX7_expandKey_0 : decode cX7_expandKey 0 = .ok (.aload_n 0, 1) := by decide +kernel
theorem dX7_expandKey_1 : decode cX7_expandKey 1 = .ok (.getfield 32, 3) := by decide +kernel
theorem dX7_expandKey_4 : decode cX7_expandKey 4 = .ok (.getfield 89, 3) := by decide +kernel
theorem dX7_expandKey_7 : decode cX7_expandKey 7 = .ok (.aload_n 0, 1) := by decide +kernel
theorem dX7_expandKey_8 : decode cX7_expandKey 8 = .ok (.getfield 16, 3) := by decide +kernel
theorem dX7_expandKey_11 : decode cX7_expandKey 11 = .ok (.iconst 0, 1) := by decide +kernel
theorem dX7_expandKey_12 : decode cX7_expandKey 12 = .ok (.invokevirtual 153, 3) := by decide +kernel
theorem dX7_expandKey_15 : decode cX7_expandKey 15 = .ok (.aload_n 0, 1) := by decide +kernel
theorem dX7_expandKey_16 : decode cX7_expandKey 16 = .ok (.getfield 39, 3) := by decide +kernel
theorem dX7_expandKey_19 : decode cX7_expandKey 19 = .ok (.getfield 157, 3) := by decide +kernel
theorem dX7_expandKey_22 : decode cX7_expandKey 22 = .ok (.aload_n 0, 1) := by decide +kernel
theorem dX7_expandKey_23 : decode cX7_expandKey 23 = .ok (.getfield 16, 3) := by decide +kernel
theorem dX7_expandKey_26 : decode cX7_expandKey 26 = .ok (.iconst 1, 1) := by decide +kernel
theorem dX7_expandKey_27 : decode cX7_expandKey 27 = .ok (.invokevirtual 153, 3) := by decide +kernel
theorem dX7_expandKey_30 : decode cX7_expandKey 30 = .ok (.return_, 1) := by decide +kernel
theorem dX7_wayOf_0 : decode cX7_wayOf 0 = .ok (.iload_n 1, 1) := by decide +kernel
theorem dX7_wayOf_1 : decode cX7_wayOf 1 = .ok (.ifCond .ne 10, 3) := by decide +kernel
theorem dX7_wayOf_4 : decode cX7_wayOf 4 = .ok (.aload_n 0, 1) := by decide +kernel
theorem dX7_wayOf_5 : decode cX7_wayOf 5 = .ok (.getfield 32, 3) := by decide +kernel
theorem dX7_wayOf_8 : decode cX7_wayOf 8 = .ok (.goto 7, 3) := by decide +kernel
theorem dX7_wayOf_11 : decode cX7_wayOf 11 = .ok (.aload_n 0, 1) := by decide +kernel
theorem dX7_wayOf_12 : decode cX7_wayOf 12 = .ok (.getfield 39, 3) := by decide +kernel
theorem dX7_wayOf_15 : decode cX7_wayOf 15 = .ok (.areturn, 1) := by decide +kernel
set_option maxRecDepth 20000 in
theorem ggX7_isTurnable_X4_isLongEnough : GoodIn wsX7_isTurnable wsX4_isLongEnough := goodIn_r _ [8, 9, 10, 11, 73, 74, 75] (by decide +kernel) (by decide +kernel)
set_option maxRecDepth 20000 in
theorem gX7_isTurnable_X4_isLongEnough : GoodIn wsX7_isTurnable (wsV RX7 158 RX4 yX4_isLongEnough wsX4_isLongEnough) := goodIn_app (goodIn_of _ (by decide +kernel)) ggX7_isTurnable_X4_isLongEnough
set_option maxRecDepth 20000 in
theorem ggX7_isTurnable_X7_wayOf : GoodIn wsX7_isTurnable wsX7_wayOf := goodIn_r _ [16, 17, 18, 65, 66, 67, 68, 69, 70, 71, 72] (by decide +kernel) (by decide +kernel)
set_option maxRecDepth 20000 in
theorem gX7_isTurnable_X7_wayOf : GoodIn wsX7_isTurnable (wsV RX7 143 RX7 yX7_wayOf wsX7_wayOf) := goodIn_app (goodIn_of _ (by decide +kernel)) ggX7_isTurnable_X7_wayOf
set_option maxRecDepth 20000 in
theorem ggX7_isTurnable_X2_takes : GoodIn wsX7_isTurnable wsX2_takes := goodIn_r _ [24] (by decide +kernel) (by decide +kernel)
set_option maxRecDepth 20000 in
theorem gX7_isTurnable_X2_takes_u162X2 : GoodIn wsX7_isTurnable (va_wsU RX7 162 RX2 "NumeralCipher$Way" ⟨"NumeralCipher$Way", "takes", "(LNumeralCipher$Row;LNumeralCipher$Bytes;LNumeralCipher$Natural;)Z"⟩ yX2_takes wsX2_takes) := goodIn_app (goodIn_of _ (by decide +kernel)) ggX7_isTurnable_X2_takes
set_option maxRecDepth 20000 in
theorem ggX7_isTurnable_X5_takes : GoodIn wsX7_isTurnable wsX5_takes := goodIn_r _ [28, 29, 30, 31, 27, 32, 33, 34, 35, 7, 36, 11, 37, 38, 39, 40, 41, 42, 43, 44, 45, 46, 47, 48, 49, 50, 51, 52, 53, 54, 55, 56, 57, 58, 59, 60, 61, 62, 63, 64, 76, 77, 73, 74, 75, 78, 79] (by decide +kernel) (by decide +kernel)
set_option maxRecDepth 20000 in
theorem gX7_isTurnable_X5_takes_u162X5 : GoodIn wsX7_isTurnable (va_wsU RX7 162 RX5 "NumeralCipher$Way" ⟨"NumeralCipher$Way", "takes", "(LNumeralCipher$Row;LNumeralCipher$Bytes;LNumeralCipher$Natural;)Z"⟩ yX5_takes wsX5_takes) := goodIn_app (goodIn_of _ (by decide +kernel)) ggX7_isTurnable_X5_takes
theorem dX7_isTurnable_0 : decode cX7_isTurnable 0 = .ok (.aload_n 0, 1) := by decide +kernel
theorem dX7_isTurnable_1 : decode cX7_isTurnable 1 = .ok (.getfield 25, 3) := by decide +kernel
theorem dX7_isTurnable_4 : decode cX7_isTurnable 4 = .ok (.invokevirtual 158, 3) := by decide +kernel
theorem dX7_isTurnable_7 : decode cX7_isTurnable 7 = .ok (.ifCond .eq 30, 3) := by decide +kernel
theorem dX7_isTurnable_10 : decode cX7_isTurnable 10 = .ok (.aload_n 0, 1) := by decide +kernel
theorem dX7_isTurnable_11 : decode cX7_isTurnable 11 = .ok (.iload_n 1, 1) := by decide +kernel
theorem dX7_isTurnable_12 : decode cX7_isTurnable 12 = .ok (.invokevirtual 143, 3) := by decide +kernel
theorem dX7_isTurnable_15 : decode cX7_isTurnable 15 = .ok (.aload_n 0, 1) := by decide +kernel
theorem dX7_isTurnable_16 : decode cX7_isTurnable 16 = .ok (.getfield 25, 3) := by decide +kernel
theorem dX7_isTurnable_19 : decode cX7_isTurnable 19 = .ok (.aload_n 0, 1) := by decide +kernel
theorem dX7_isTurnable_20 : decode cX7_isTurnable 20 = .ok (.getfield 19, 3) := by decide +kernel
theorem dX7_isTurnable_23 : decode cX7_isTurnable 23 = .ok (.aload_n 0, 1) := by decide +kernel
theorem dX7_isTurnable_24 : decode cX7_isTurnable 24 = .ok (.getfield 46, 3) := by decide +kernel
theorem dX7_isTurnable_27 : decode cX7_isTurnable 27 = .ok (.invokevirtual 162, 3) := by decide +kernel
theorem dX7_isTurnable_30 : decode cX7_isTurnable 30 = .ok (.ifCond .eq 7, 3) := by decide +kernel
theorem dX7_isTurnable_33 : decode cX7_isTurnable 33 = .ok (.iconst 1, 1) := by decide +kernel
theorem dX7_isTurnable_34 : decode cX7_isTurnable 34 = .ok (.goto 4, 3) := by decide +kernel
theorem dX7_isTurnable_37 : decode cX7_isTurnable 37 = .ok (.iconst 0, 1) := by decide +kernel
theorem dX7_isTurnable_38 : decode cX7_isTurnable 38 = .ok (.ireturn, 1) := by decide +kernel
set_option maxRecDepth 20000 in
theorem ggX7_runRounds_X2_firstHalf : GoodIn wsX7_runRounds wsX2_firstHalf := goodIn_r _ [9] (by decide +kernel) (by decide +kernel)
set_option maxRecDepth 20000 in
theorem gX7_runRounds_X2_firstHalf_u168X2 : GoodIn wsX7_runRounds (va_wsU RX7 168 RX2 "NumeralCipher$Way" ⟨"NumeralCipher$Way", "firstHalf", "(I)I"⟩ yX2_firstHalf wsX2_firstHalf) := goodIn_app (goodIn_of _ (by decide +kernel)) ggX7_runRounds_X2_firstHalf
set_option maxRecDepth 20000 in
theorem ggX7_runRounds_X5_firstHalf : GoodIn wsX7_runRounds wsX5_firstHalf := goodIn_r _ [13] (by decide +kernel) (by decide +kernel)
set_option maxRecDepth 20000 in
theorem gX7_runRounds_X5_firstHalf_u168X5 : GoodIn wsX7_runRounds (va_wsU RX7 168 RX5 "NumeralCipher$Way" ⟨"NumeralCipher$Way", "firstHalf", "(I)I"⟩ yX5_firstHalf wsX5_firstHalf) := goodIn_app (goodIn_of _ (by decide +kernel)) ggX7_runRounds_X5_firstHalf
set_option maxRecDepth 20000 in
theorem ggX7_runRounds_X2_rounds : GoodIn wsX7_runRounds wsX2_rounds := goodIn_r _ [18] (by decide +kernel) (by decide +kernel)
set_option maxRecDepth 20000 in
theorem gX7_runRounds_X2_rounds_u171X2 : GoodIn wsX7_runRounds (va_wsU RX7 171 RX2 "NumeralCipher$Way" ⟨"NumeralCipher$Way", "rounds", "()I"⟩ yX2_rounds wsX2_rounds) := goodIn_app (goodIn_of _ (by decide +kernel)) ggX7_runRounds_X2_rounds
set_option maxRecDepth 20000 in
theorem ggX7_runRounds_X5_rounds : GoodIn wsX7_runRounds wsX5_rounds := goodIn_r _ [21] (by decide +kernel) (by decide +kernel)
set_option maxRecDepth 20000 in
theorem gX7_runRounds_X5_rounds_u171X5 : GoodIn wsX7_runRounds (va_wsU RX7 171 RX5 "NumeralCipher$Way" ⟨"NumeralCipher$Way", "rounds", "()I"⟩ yX5_rounds wsX5_rounds) := goodIn_app (goodIn_of _ (by decide +kernel)) ggX7_runRounds_X5_rounds
set_option maxRecDepth 20000 in
theorem ggX7_runRounds_X2_begin : GoodIn wsX7_runRounds wsX2_begin := goodIn_r _ [26, 27, 28, 29, 30, 31, 32, 33, 34, 35, 36, 7, 37, 8, 9, 38, 39, 40, 41, 42, 43, 44, 45, 46, 47, 48, 49, 50, 51, 52, 53, 54, 55, 56, 57, 58, 59, 60, 61, 62, 63, 64, 65, 66, 67, 68, 69, 70, 71, 72, 73, 74, 75, 76, 77, 78, 79, 80, 81, 82, 83, 84, 85, 86, 87, 88, 89, 90, 91, 92, 93, 94, 95, 96, 97, 98, 99, 100, 101, 102, 103, 104, 105, 106, 189, 190, 191, 192, 193, 194, 195, 196, 197, 198, 199, 200, 201, 202, 203, 204, 205, 206, 207, 208, 209, 210] rfl (by decide +kernel)
set_option maxRecDepth 20000 in
theorem gX7_runRounds_X2_begin_u174X2 : GoodIn wsX7_runRounds (va_wsU RX7 174 RX2 "NumeralCipher$Way" ⟨"NumeralCipher$Way", "begin", "(LNumeralCipher$Row;LNumeralCipher$Bytes;LNumeralCipher$Natural;)V"⟩ yX2_begin wsX2_begin) := goodIn_app (goodIn_of _ (by decide +kernel)) ggX7_runRounds_X2_begin
set_option maxRecDepth 20000 in
theorem ggX7_runRounds_X5_begin : GoodIn wsX7_runRounds wsX5_begin := goodIn_r _ [109, 110, 111, 112, 73, 74, 75, 76, 77, 202, 203, 204, 205, 200, 201] (by decide +kernel) (by decide +kernel)
set_option maxRecDepth 20000 in
theorem gX7_runRounds_X5_begin_u174X5 : GoodIn wsX7_runRounds (va_wsU RX7 174 RX5 "NumeralCipher$Way" ⟨"NumeralCipher$Way", "begin", "(LNumeralCipher$Row;LNumeralCipher$Bytes;LNumeralCipher$Natural;)V"⟩ yX5_begin wsX5_begin) := goodIn_app (goodIn_of _ (by decide +kernel)) ggX7_runRounds_X5_begin
set_option maxRecDepth 20000 in
theorem ggX7_runRounds_X2_lowestFirst : GoodIn wsX7_runRounds wsX2_lowestFirst := goodIn_r _ [117] (by decide +kernel) (by decide +kernel)
set_option maxRecDepth 20000 in
theorem gX7_runRounds_X2_lowestFirst_u178X2 : GoodIn wsX7_runRounds (va_wsU RX7 178 RX2 "NumeralCipher$Way" ⟨"NumeralCipher$Way", "lowestFirst", "()Z"⟩ yX2_lowestFirst wsX2_lowestFirst) := goodIn_app (goodIn_of _ (by decide +kernel)) ggX7_runRounds_X2_lowestFirst
set_option maxRecDepth 20000 in
theorem ggX7_runRounds_X5_lowestFirst : GoodIn wsX7_runRounds wsX5_lowestFirst := goodIn_r _ [120] (by decide +kernel) (by decide +kernel)
set_option maxRecDepth 20000 in
theorem gX7_runRounds_X5_lowestFirst_u178X5 : GoodIn wsX7_runRounds (va_wsU RX7 178 RX5 "NumeralCipher$Way" ⟨"NumeralCipher$Way", "lowestFirst", "()Z"⟩ yX5_lowestFirst wsX5_lowestFirst) := goodIn_app (goodIn_of _ (by decide +kernel)) ggX7_runRounds_X5_lowestFirst
set_option maxRecDepth 20000 in
theorem ggX7_runRounds_X4_readPart : GoodIn wsX7_runRounds wsX4_readPart := goodIn_r _ [124, 43, 125, 44, 45, 46, 47, 48, 49, 50, 51, 52, 53, 54, 126, 127, 41, 128, 55, 56, 57, 58, 59, 60, 61, 62, 63, 64, 65, 66, 67, 189, 190, 191, 206, 207] (by decide +kernel) (by decide +kernel)
set_option maxRecDepth 20000 in
theorem gX7_runRounds_X4_readPart : GoodIn wsX7_runRounds (wsV RX7 181 RX4 yX4_readPart wsX4_readPart) := goodIn_app (goodIn_of _ (by decide +kernel)) ggX7_runRounds_X4_readPart
set_option maxRecDepth 20000 in
theorem ggX7_runRounds_X2_makeAddend : GoodIn wsX7_runRounds wsX2_makeAddend := goodIn_r _ [133, 134, 135, 136, 137, 138, 139, 27, 34, 35, 140, 141, 142, 8, 143, 31, 28, 144, 145, 146, 147, 30, 29, 148, 149, 150, 47, 151, 50, 49, 78, 79, 80, 81, 82, 83, 84, 85, 86, 87, 88, 89, 90, 91, 92, 93, 94, 95, 96, 97, 98, 99, 100, 101, 102, 103, 104, 105, 106, 152, 45, 46, 48, 51, 52, 53, 54, 153, 61, 62, 63, 64, 65, 66, 67, 192, 193, 194, 195, 196, 197, 198, 199, 202, 203, 204, 205, 206, 207, 208, 209, 210] rfl (by decide +kernel)
set_option maxRecDepth 20000 in
theorem gX7_runRounds_X2_makeAddend_u185X2 : GoodIn wsX7_runRounds (va_wsU RX7 185 RX2 "NumeralCipher$Way" ⟨"NumeralCipher$Way", "makeAddend", "(ILNumeralCipher$Natural;)V"⟩ yX2_makeAddend wsX2_makeAddend) := goodIn_app (goodIn_of _ (by decide +kernel)) ggX7_runRounds_X2_makeAddend
set_option maxRecDepth 20000 in
theorem ggX7_runRounds_X5_makeAddend : GoodIn wsX7_runRounds wsX5_makeAddend := goodIn_r _ [156, 157, 111, 110, 158, 159, 160, 149, 150, 47, 151, 50, 49, 161, 162, 81, 163, 164, 165, 104, 105, 106, 166, 79, 80, 82, 83, 84, 85, 86, 87, 88, 89, 90, 91, 92, 93, 94, 95, 96, 97, 98, 99, 100, 101, 102, 103, 167, 45, 46, 48, 51, 52, 53, 54, 168, 61, 62, 63, 64, 65, 66, 67, 202, 203, 204, 205, 192, 193, 194, 195, 196, 197, 198, 199, 206, 207, 208, 209, 210] rfl (by decide +kernel)
set_option maxRecDepth 20000 in
theorem gX7_runRounds_X5_makeAddend_u185X5 : GoodIn wsX7_runRounds (va_wsU RX7 185 RX5 "NumeralCipher$Way" ⟨"NumeralCipher$Way", "makeAddend", "(ILNumeralCipher$Natural;)V"⟩ yX5_makeAddend wsX5_makeAddend) := goodIn_app (goodIn_of _ (by decide +kernel)) ggX7_runRounds_X5_makeAddend
set_option maxRecDepth 20000 in
theorem ggX7_runRounds_X4_shiftPart : GoodIn wsX7_runRounds wsX4_shiftPart := goodIn_r _ [172, 43, 125, 126, 127, 41, 128, 173, 174, 175, 47, 176, 50, 49, 59, 177, 178, 179, 180, 189, 190, 191, 206, 207] (by decide +kernel) (by decide +kernel)
set_option maxRecDepth 20000 in
theorem gX7_runRounds_X4_shiftPart : GoodIn wsX7_runRounds (wsV RX7 189 RX4 yX4_shiftPart wsX4_shiftPart) := goodIn_app (goodIn_of _ (by decide +kernel)) ggX7_runRounds_X4_shiftPart
theorem dX7_runRounds_0 : decode cX7_runRounds 0 = .ok (.aload_n 1, 1) := by decide +kernel
theorem dX7_runRounds_1 : decode cX7_runRounds 1 = .ok (.aload_n 0, 1) := by decide +kernel
theorem dX7_runRounds_2 : decode cX7_runRounds 2 = .ok (.getfield 25, 3) := by decide +kernel
theorem dX7_runRounds_5 : decode cX7_runRounds 5 = .ok (.getfield 113, 3) := by decide +kernel
theorem dX7_runRounds_8 : decode cX7_runRounds 8 = .ok (.invokevirtual 168, 3) := by decide +kernel
theorem dX7_runRounds_11 : decode cX7_runRounds 11 = .ok (.istore_n 3, 1) := by decide +kernel
theorem dX7_runRounds_12 : decode cX7_runRounds 12 = .ok (.aload_n 0, 1) := by decide +kernel
theorem dX7_runRounds_13 : decode cX7_runRounds 13 = .ok (.getfield 25, 3) := by decide +kernel
theorem dX7_runRounds_16 : decode cX7_runRounds 16 = .ok (.getfield 113, 3) := by decide +kernel
theorem dX7_runRounds_19 : decode cX7_runRounds 19 = .ok (.iload_n 3, 1) := by decide +kernel
theorem dX7_runRounds_20 : decode cX7_runRounds 20 = .ok (.isub, 1) := by decide +kernel
theorem dX7_runRounds_21 : decode cX7_runRounds 21 = .ok (.istore 4, 2) := by decide +kernel
theorem dX7_runRounds_23 : decode cX7_runRounds 23 = .ok (.aload_n 1, 1) := by decide +kernel
theorem dX7_runRounds_24 : decode cX7_runRounds 24 = .ok (.invokevirtual 171, 3) := by decide +kernel
theorem dX7_runRounds_27 : decode cX7_runRounds 27 = .ok (.istore 5, 2) := by decide +kernel
theorem dX7_runRounds_29 : decode cX7_runRounds 29 = .ok (.aload_n 1, 1) := by decide +kernel
theorem dX7_runRounds_30 : decode cX7_runRounds 30 = .ok (.aload_n 0, 1) := by decide +kernel
theorem dX7_runRounds_31 : decode cX7_runRounds 31 = .ok (.getfield 25, 3) := by decide +kernel
theorem dX7_runRounds_34 : decode cX7_runRounds 34 = .ok (.aload_n 0, 1) := by decide +kernel
theorem dX7_runRounds_35 : decode cX7_runRounds 35 = .ok (.getfield 19, 3) := by decide +kernel
theorem dX7_runRounds_38 : decode cX7_runRounds 38 = .ok (.aload_n 0, 1) := by decide +kernel
theorem dX7_runRounds_39 : decode cX7_runRounds 39 = .ok (.getfield 46, 3) := by decide +kernel
theorem dX7_runRounds_42 : decode cX7_runRounds 42 = .ok (.invokevirtual 174, 3) := by decide +kernel
theorem dX7_runRounds_45 : decode cX7_runRounds 45 = .ok (.iconst 0, 1) := by decide +kernel
theorem dX7_runRounds_46 : decode cX7_runRounds 46 = .ok (.istore 6, 2) := by decide +kernel
theorem dX7_runRounds_48 : decode cX7_runRounds 48 = .ok (.iload 6, 2) := by decide +kernel
theorem dX7_runRounds_50 : decode cX7_runRounds 50 = .ok (.iload 5, 2) := by decide +kernel
theorem dX7_runRounds_52 : decode cX7_runRounds 52 = .ok (.if_icmp .ge 124, 3) := by decide +kernel
theorem dX7_runRounds_55 : decode cX7_runRounds 55 = .ok (.iload_n 2, 1) := by decide +kernel
theorem dX7_runRounds_56 : decode cX7_runRounds 56 = .ok (.ifCond .eq 13, 3) := by decide +kernel
theorem dX7_runRounds_59 : decode cX7_runRounds 59 = .ok (.iload 5, 2) := by decide +kernel
theorem dX7_runRounds_61 : decode cX7_runRounds 61 = .ok (.iconst 1, 1) := by decide +kernel
theorem dX7_runRounds_62 : decode cX7_runRounds 62 = .ok (.isub, 1) := by decide +kernel
theorem dX7_runRounds_63 : decode cX7_runRounds 63 = .ok (.iload 6, 2) := by decide +kernel
theorem dX7_runRounds_65 : decode cX7_runRounds 65 = .ok (.isub, 1) := by decide +kernel
theorem dX7_runRounds_66 : decode cX7_runRounds 66 = .ok (.goto 5, 3) := by decide +kernel
theorem dX7_runRounds_69 : decode cX7_runRounds 69 = .ok (.iload 6, 2) := by decide +kernel
theorem dX7_runRounds_71 : decode cX7_runRounds 71 = .ok (.istore 7, 2) := by decide +kernel
theorem dX7_runRounds_73 : decode cX7_runRounds 73 = .ok (.iload 7, 2) := by decide +kernel
theorem dX7_runRounds_75 : decode cX7_runRounds 75 = .ok (.iconst 2, 1) := by decide +kernel
theorem dX7_runRounds_76 : decode cX7_runRounds 76 = .ok (.irem, 1) := by decide +kernel
theorem dX7_runRounds_77 : decode cX7_runRounds 77 = .ok (.ifCond .ne 7, 3) := by decide +kernel
theorem dX7_runRounds_80 : decode cX7_runRounds 80 = .ok (.iconst 1, 1) := by decide +kernel
theorem dX7_runRounds_81 : decode cX7_runRounds 81 = .ok (.goto 4, 3) := by decide +kernel
theorem dX7_runRounds_84 : decode cX7_runRounds 84 = .ok (.iconst 0, 1) := by decide +kernel
theorem dX7_runRounds_85 : decode cX7_runRounds 85 = .ok (.istore 8, 2) := by decide +kernel
theorem dX7_runRounds_87 : decode cX7_runRounds 87 = .ok (.aload_n 0, 1) := by decide +kernel
theorem dX7_runRounds_88 : decode cX7_runRounds 88 = .ok (.getfield 25, 3) := by decide +kernel
theorem dX7_runRounds_91 : decode cX7_runRounds 91 = .ok (.iload 8, 2) := by decide +kernel
theorem dX7_runRounds_93 : decode cX7_runRounds 93 = .ok (.ifCond .eq 7, 3) := by decide +kernel
theorem dX7_runRounds_96 : decode cX7_runRounds 96 = .ok (.iload_n 3, 1) := by decide +kernel
theorem dX7_runRounds_97 : decode cX7_runRounds 97 = .ok (.goto 4, 3) := by decide +kernel
theorem dX7_runRounds_100 : decode cX7_runRounds 100 = .ok (.iconst 0, 1) := by decide +kernel
theorem dX7_runRounds_101 : decode cX7_runRounds 101 = .ok (.iload 8, 2) := by decide +kernel
theorem dX7_runRounds_103 : decode cX7_runRounds 103 = .ok (.ifCond .eq 8, 3) := by decide +kernel
theorem dX7_runRounds_106 : decode cX7_runRounds 106 = .ok (.iload 4, 2) := by decide +kernel
theorem dX7_runRounds_108 : decode cX7_runRounds 108 = .ok (.goto 4, 3) := by decide +kernel
theorem dX7_runRounds_111 : decode cX7_runRounds 111 = .ok (.iload_n 3, 1) := by decide +kernel
theorem dX7_runRounds_112 : decode cX7_runRounds 112 = .ok (.aload_n 1, 1) := by decide +kernel
theorem dX7_runRounds_113 : decode cX7_runRounds 113 = .ok (.invokevirtual 178, 3) := by decide +kernel
theorem dX7_runRounds_116 : decode cX7_runRounds 116 = .ok (.aload_n 0, 1) := by decide +kernel
theorem dX7_runRounds_117 : decode cX7_runRounds 117 = .ok (.getfield 46, 3) := by decide +kernel
theorem dX7_runRounds_120 : decode cX7_runRounds 120 = .ok (.invokevirtual 181, 3) := by decide +kernel
theorem dX7_runRounds_123 : decode cX7_runRounds 123 = .ok (.aload_n 1, 1) := by decide +kernel
theorem dX7_runRounds_124 : decode cX7_runRounds 124 = .ok (.iload 7, 2) := by decide +kernel
theorem dX7_runRounds_126 : decode cX7_runRounds 126 = .ok (.aload_n 0, 1) := by decide +kernel
theorem dX7_runRounds_127 : decode cX7_runRounds 127 = .ok (.getfield 46, 3) := by decide +kernel
theorem dX7_runRounds_130 : decode cX7_runRounds 130 = .ok (.invokevirtual 185, 3) := by decide +kernel
theorem dX7_runRounds_133 : decode cX7_runRounds 133 = .ok (.aload_n 0, 1) := by decide +kernel
theorem dX7_runRounds_134 : decode cX7_runRounds 134 = .ok (.getfield 25, 3) := by decide +kernel
theorem dX7_runRounds_137 : decode cX7_runRounds 137 = .ok (.iload 8, 2) := by decide +kernel
theorem dX7_runRounds_139 : decode cX7_runRounds 139 = .ok (.ifCond .eq 7, 3) := by decide +kernel
theorem dX7_runRounds_142 : decode cX7_runRounds 142 = .ok (.iconst 0, 1) := by decide +kernel
theorem dX7_runRounds_143 : decode cX7_runRounds 143 = .ok (.goto 4, 3) := by decide +kernel
theorem dX7_runRounds_146 : decode cX7_runRounds 146 = .ok (.iload_n 3, 1) := by decide +kernel
theorem dX7_runRounds_147 : decode cX7_runRounds 147 = .ok (.iload 8, 2) := by decide +kernel
theorem dX7_runRounds_149 : decode cX7_runRounds 149 = .ok (.ifCond .eq 7, 3) := by decide +kernel
theorem dX7_runRounds_152 : decode cX7_runRounds 152 = .ok (.iload_n 3, 1) := by decide +kernel
theorem dX7_runRounds_153 : decode cX7_runRounds 153 = .ok (.goto 5, 3) := by decide +kernel
theorem dX7_runRounds_156 : decode cX7_runRounds 156 = .ok (.iload 4, 2) := by decide +kernel
theorem dX7_runRounds_158 : decode cX7_runRounds 158 = .ok (.aload_n 1, 1) := by decide +kernel
theorem dX7_runRounds_159 : decode cX7_runRounds 159 = .ok (.invokevirtual 178, 3) := by decide +kernel
theorem dX7_runRounds_162 : decode cX7_runRounds 162 = .ok (.aload_n 0, 1) := by decide +kernel
theorem dX7_runRounds_163 : decode cX7_runRounds 163 = .ok (.getfield 46, 3) := by decide +kernel
theorem dX7_runRounds_166 : decode cX7_runRounds 166 = .ok (.iload_n 2, 1) := by decide +kernel
theorem dX7_runRounds_167 : decode cX7_runRounds 167 = .ok (.invokevirtual 189, 3) := by decide +kernel
theorem dX7_runRounds_170 : decode cX7_runRounds 170 = .ok (.iinc 6 1, 3) := by decide +kernel
theorem dX7_runRounds_173 : decode cX7_runRounds 173 = .ok (.goto (-125), 3) := by decide +kernel
theorem dX7_runRounds_176 : decode cX7_runRounds 176 = .ok (.return_, 1) := by decide +kernel
set_option maxRecDepth 20000 in
theorem ggX8_init_X8_sOf : GoodIn wsX8_init wsX8_sOf := goodIn_r _ [24, 25, 26, 23, 27] (by decide +kernel) (by decide +kernel)
set_option maxRecDepth 20000 in
theorem gX8_init_X8_sOf : GoodIn wsX8_init (va_wsS RX8 59 yX8_sOf wsX8_sOf) := goodIn_app (goodIn_of _ (by decide +kernel)) ggX8_init_X8_sOf
theorem dX8_init_0 : decode cX8_init 0 = .ok (.aload_n 0, 1) := by decide +kernel
theorem dX8_init_1 : decode cX8_init 1 = .ok (.invokespecial 1, 3) := by decide +kernel
theorem dX8_init_4 : decode cX8_init 4 = .ok (.aload_n 0, 1) := by decide +kernel
theorem dX8_init_5 : decode cX8_init 5 = .ok (.bipush 64, 2) := by decide +kernel
theorem dX8_init_7 : decode cX8_init 7 = .ok (.newarray .int, 2) := by decide +kernel
theorem dX8_init_9 : decode cX8_init 9 = .ok (.putfield 7, 3) := by decide +kernel
theorem dX8_init_12 : decode cX8_init 12 = .ok (.aload_n 0, 1) := by decide +kernel
theorem dX8_init_13 : decode cX8_init 13 = .ok (.bipush 16, 2) := by decide +kernel
theorem dX8_init_15 : decode cX8_init 15 = .ok (.putfield 13, 3) := by decide +kernel
theorem dX8_init_18 : decode cX8_init 18 = .ok (.aload_n 0, 1) := by decide +kernel
theorem dX8_init_19 : decode cX8_init 19 = .ok (.bipush 32, 2) := by decide +kernel
theorem dX8_init_21 : decode cX8_init 21 = .ok (.newarray .int, 2) := by decide +kernel
theorem dX8_init_23 : decode cX8_init 23 = .ok (.putfield 17, 3) := by decide +kernel
theorem dX8_init_26 : decode cX8_init 26 = .ok (.aload_n 0, 1) := by decide +kernel
theorem dX8_init_27 : decode cX8_init 27 = .ok (.bipush 32, 2) := by decide +kernel
theorem dX8_init_29 : decode cX8_init 29 = .ok (.newarray .int, 2) := by decide +kernel
theorem dX8_init_31 : decode cX8_init 31 = .ok (.putfield 20, 3) := by decide +kernel
theorem dX8_init_34 : decode cX8_init 34 = .ok (.aload_n 0, 1) := by decide +kernel
theorem dX8_init_35 : decode cX8_init 35 = .ok (.bipush 10, 2) := by decide +kernel
theorem dX8_init_37 : decode cX8_init 37 = .ok (.putfield 23, 3) := by decide +kernel
theorem dX8_init_40 : decode cX8_init 40 = .ok (.aload_n 0, 1) := by decide +kernel
theorem dX8_init_41 : decode cX8_init 41 = .ok (.bipush 64, 2) := by decide +kernel
theorem dX8_init_43 : decode cX8_init 43 = .ok (.newarray .int, 2) := by decide +kernel
theorem dX8_init_45 : decode cX8_init 45 = .ok (.putfield 26, 3) := by decide +kernel
theorem dX8_init_48 : decode cX8_init 48 = .ok (.aload_n 0, 1) := by decide +kernel
theorem dX8_init_49 : decode cX8_init 49 = .ok (.sipush 256, 3) := by decide +kernel
theorem dX8_init_52 : decode cX8_init 52 = .ok (.newarray .int, 2) := by decide +kernel
theorem dX8_init_54 : decode cX8_init 54 = .ok (.putfield 29, 3) := by decide +kernel
theorem dX8_init_57 : decode cX8_init 57 = .ok (.aload_n 0, 1) := by decide +kernel
theorem dX8_init_58 : decode cX8_init 58 = .ok (.sipush 240, 3) := by decide +kernel
theorem dX8_init_61 : decode cX8_init 61 = .ok (.newarray .int, 2) := by decide +kernel
theorem dX8_init_63 : decode cX8_init 63 = .ok (.putfield 32, 3) := by decide +kernel
theorem dX8_init_66 : decode cX8_init 66 = .ok (.aload_n 0, 1) := by decide +kernel
theorem dX8_init_67 : decode cX8_init 67 = .ok (.bipush 16, 2) := by decide +kernel
theorem dX8_init_69 : decode cX8_init 69 = .ok (.newarray .int, 2) := by decide +kernel
theorem dX8_init_71 : decode cX8_init 71 = .ok (.putfield 35, 3) := by decide +kernel
theorem dX8_init_74 : decode cX8_init 74 = .ok (.aload_n 0, 1) := by decide +kernel
theorem dX8_init_75 : decode cX8_init 75 = .ok (.bipush 16, 2) := by decide +kernel
theorem dX8_init_77 : decode cX8_init 77 = .ok (.newarray .int, 2) := by decide +kernel
theorem dX8_init_79 : decode cX8_init 79 = .ok (.putfield 38, 3) := by decide +kernel
theorem dX8_init_82 : decode cX8_init 82 = .ok (.aload_n 0, 1) := by decide +kernel
theorem dX8_init_83 : decode cX8_init 83 = .ok (.bipush 64, 2) := by decide +kernel
theorem dX8_init_85 : decode cX8_init 85 = .ok (.newarray .int, 2) := by decide +kernel
theorem dX8_init_87 : decode cX8_init 87 = .ok (.putfield 41, 3) := by decide +kernel
theorem dX8_init_90 : decode cX8_init 90 = .ok (.aload_n 0, 1) := by decide +kernel
theorem dX8_init_91 : decode cX8_init 91 = .ok (.bipush 64, 2) := by decide +kernel
theorem dX8_init_93 : decode cX8_init 93 = .ok (.newarray .int, 2) := by decide +kernel
theorem dX8_init_95 : decode cX8_init 95 = .ok (.putfield 44, 3) := by decide +kernel
theorem dX8_init_98 : decode cX8_init 98 = .ok (.aload_n 0, 1) := by decide +kernel
theorem dX8_init_99 : decode cX8_init 99 = .ok (.bipush 64, 2) := by decide +kernel
theorem dX8_init_101 : decode cX8_init 101 = .ok (.newarray .int, 2) := by decide +kernel
theorem dX8_init_103 : decode cX8_init 103 = .ok (.putfield 47, 3) := by decide +kernel
theorem dX8_init_106 : decode cX8_init 106 = .ok (.aload_n 0, 1) := by decide +kernel
theorem dX8_init_107 : decode cX8_init 107 = .ok (.sipush 128, 3) := by decide +kernel
theorem dX8_init_110 : decode cX8_init 110 = .ok (.newarray .int, 2) := by decide +kernel
theorem dX8_init_112 : decode cX8_init 112 = .ok (.putfield 50, 3) := by decide +kernel
theorem dX8_init_115 : decode cX8_init 115 = .ok (.aload_n 0, 1) := by decide +kernel
theorem dX8_init_116 : decode cX8_init 116 = .ok (.sipush 128, 3) := by decide +kernel
theorem dX8_init_119 : decode cX8_init 119 = .ok (.newarray .int, 2) := by decide +kernel
theorem dX8_init_121 : decode cX8_init 121 = .ok (.putfield 53, 3) := by decide +kernel
theorem dX8_init_124 : decode cX8_init 124 = .ok (.aload_n 0, 1) := by decide +kernel
theorem dX8_init_125 : decode cX8_init 125 = .ok (.sipush 128, 3) := by decide +kernel
theorem dX8_init_128 : decode cX8_init 128 = .ok (.newarray .int, 2) := by decide +kernel
theorem dX8_init_130 : decode cX8_init 130 = .ok (.putfield 56, 3) := by decide +kernel
theorem dX8_init_133 : decode cX8_init 133 = .ok (.iconst 0, 1) := by decide +kernel
theorem dX8_init_134 : decode cX8_init 134 = .ok (.istore_n 1, 1) := by decide +kernel
theorem dX8_init_135 : decode cX8_init 135 = .ok (.iload_n 1, 1) := by decide +kernel
theorem dX8_init_136 : decode cX8_init 136 = .ok (.sipush 256, 3) := by decide +kernel
theorem dX8_init_139 : decode cX8_init 139 = .ok (.if_icmp .ge 19, 3) := by decide +kernel
theorem dX8_init_142 : decode cX8_init 142 = .ok (.aload_n 0, 1) := by decide +kernel
theorem dX8_init_143 : decode cX8_init 143 = .ok (.getfield 29, 3) := by decide +kernel
theorem dX8_init_146 : decode cX8_init 146 = .ok (.iload_n 1, 1) := by decide +kernel
theorem dX8_init_147 : decode cX8_init 147 = .ok (.iload_n 1, 1) := by decide +kernel
theorem dX8_init_148 : decode cX8_init 148 = .ok (.invokestatic 59, 3) := by decide +kernel
theorem dX8_init_151 : decode cX8_init 151 = .ok (.iastore, 1) := by decide +kernel
theorem dX8_init_152 : decode cX8_init 152 = .ok (.iinc 1 1, 3) := by decide +kernel
theorem dX8_init_155 : decode cX8_init 155 = .ok (.goto (-20), 3) := by decide +kernel
theorem dX8_init_158 : decode cX8_init 158 = .ok (.return_, 1) := by decide +kernel
theorem dX8_thrown_0 : decode cX8_thrown 0 = .ok (.aload_n 0, 1) := by decide +kernel
theorem dX8_thrown_1 : decode cX8_thrown 1 = .ok (.getfield 63, 3) := by decide +kernel
theorem dX8_thrown_4 : decode cX8_thrown 4 = .ok (.ireturn, 1) := by decide +kernel
theorem dX8_in_0 : decode cX8_in 0 = .ok (.lload_n 0, 1) := by decide +kernel
theorem dX8_in_1 : decode cX8_in 1 = .ok (.lload_n 2, 1) := by decide +kernel
theorem dX8_in_2 : decode cX8_in 2 = .ok (.lcmp, 1) := by decide +kernel
theorem dX8_in_3 : decode cX8_in 3 = .ok (.ifCond .lt 14, 3) := by decide +kernel
theorem dX8_in_6 : decode cX8_in 6 = .ok (.lload_n 0, 1) := by decide +kernel
theorem dX8_in_7 : decode cX8_in 7 = .ok (.lload 4, 2) := by decide +kernel
theorem dX8_in_9 : decode cX8_in 9 = .ok (.lcmp, 1) := by decide +kernel
theorem dX8_in_10 : decode cX8_in 10 = .ok (.ifCond .gt 7, 3) := by decide +kernel
theorem dX8_in_13 : decode cX8_in 13 = .ok (.iconst 1, 1) := by decide +kernel
theorem dX8_in_14 : decode cX8_in 14 = .ok (.goto 4, 3) := by decide +kernel
theorem dX8_in_17 : decode cX8_in 17 = .ok (.iconst 0, 1) := by decide +kernel
theorem dX8_in_18 : decode cX8_in 18 = .ok (.ireturn, 1) := by decide +kernel
theorem dX8_refuses_0 : decode cX8_refuses 0 = .ok (.aload_n 0, 1) := by decide +kernel
theorem dX8_refuses_1 : decode cX8_refuses 1 = .ok (.getfield 63, 3) := by decide +kernel
theorem dX8_refuses_4 : decode cX8_refuses 4 = .ok (.ifCond .ne 12, 3) := by decide +kernel
theorem dX8_refuses_7 : decode cX8_refuses 7 = .ok (.iload_n 1, 1) := by decide +kernel
theorem dX8_refuses_8 : decode cX8_refuses 8 = .ok (.ifCond .eq 8, 3) := by decide +kernel
theorem dX8_refuses_11 : decode cX8_refuses 11 = .ok (.aload_n 0, 1) := by decide +kernel
theorem dX8_refuses_12 : decode cX8_refuses 12 = .ok (.iload_n 2, 1) := by decide +kernel
theorem dX8_refuses_13 : decode cX8_refuses 13 = .ok (.putfield 63, 3) := by decide +kernel
theorem dX8_refuses_16 : decode cX8_refuses 16 = .ok (.aload_n 0, 1) := by decide +kernel
theorem dX8_refuses_17 : decode cX8_refuses 17 = .ok (.getfield 63, 3) := by decide +kernel
theorem dX8_refuses_20 : decode cX8_refuses 20 = .ok (.ifCond .le 7, 3) := by decide +kernel
theorem dX8_refuses_23 : decode cX8_refuses 23 = .ok (.iconst 1, 1) := by decide +kernel
theorem dX8_refuses_24 : decode cX8_refuses 24 = .ok (.goto 4, 3) := by decide +kernel
theorem dX8_refuses_27 : decode cX8_refuses 27 = .ok (.iconst 0, 1) := by decide +kernel
theorem dX8_refuses_28 : decode cX8_refuses 28 = .ok (.ireturn, 1) := by decide +kernel
theorem dX8_times_0 : decode cX8_times 0 = .ok (.iconst 0, 1) := by decide +kernel
theorem dX8_times_1 : decode cX8_times 1 = .ok (.istore_n 2, 1) := by decide +kernel
theorem dX8_times_2 : decode cX8_times 2 = .ok (.bipush 7, 2) := by decide +kernel
theorem dX8_times_4 : decode cX8_times 4 = .ok (.istore_n 3, 1) := by decide +kernel
theorem dX8_times_5 : decode cX8_times 5 = .ok (.iload_n 3, 1) := by decide +kernel
theorem dX8_times_6 : decode cX8_times 6 = .ok (.ifCond .lt 47, 3) := by decide +kernel
theorem dX8_times_9 : decode cX8_times 9 = .ok (.iload_n 2, 1) := by decide +kernel
theorem dX8_times_10 : decode cX8_times 10 = .ok (.iconst 1, 1) := by decide +kernel
theorem dX8_times_11 : decode cX8_times 11 = .ok (.ishl, 1) := by decide +kernel
theorem dX8_times_12 : decode cX8_times 12 = .ok (.istore_n 2, 1) := by decide +kernel
theorem dX8_times_13 : decode cX8_times 13 = .ok (.iload_n 2, 1) := by decide +kernel
theorem dX8_times_14 : decode cX8_times 14 = .ok (.sipush 255, 3) := by decide +kernel
theorem dX8_times_17 : decode cX8_times 17 = .ok (.if_icmp .le 11, 3) := by decide +kernel
theorem dX8_times_20 : decode cX8_times 20 = .ok (.iload_n 2, 1) := by decide +kernel
theorem dX8_times_21 : decode cX8_times 21 = .ok (.sipush 283, 3) := by decide +kernel
theorem dX8_times_24 : decode cX8_times 24 = .ok (.ixor, 1) := by decide +kernel
theorem dX8_times_25 : decode cX8_times 25 = .ok (.goto 4, 3) := by decide +kernel
theorem dX8_times_28 : decode cX8_times 28 = .ok (.iload_n 2, 1) := by decide +kernel
theorem dX8_times_29 : decode cX8_times 29 = .ok (.istore_n 2, 1) := by decide +kernel
theorem dX8_times_30 : decode cX8_times 30 = .ok (.iload_n 1, 1) := by decide +kernel
theorem dX8_times_31 : decode cX8_times 31 = .ok (.iload_n 3, 1) := by decide +kernel
theorem dX8_times_32 : decode cX8_times 32 = .ok (.ishr, 1) := by decide +kernel
theorem dX8_times_33 : decode cX8_times 33 = .ok (.iconst 1, 1) := by decide +kernel
theorem dX8_times_34 : decode cX8_times 34 = .ok (.iand, 1) := by decide +kernel
theorem dX8_times_35 : decode cX8_times 35 = .ok (.iconst 1, 1) := by decide +kernel
theorem dX8_times_36 : decode cX8_times 36 = .ok (.if_icmp .ne 9, 3) := by decide +kernel
theorem dX8_times_39 : decode cX8_times 39 = .ok (.iload_n 2, 1) := by decide +kernel
theorem dX8_times_40 : decode cX8_times 40 = .ok (.iload_n 0, 1) := by decide +kernel
theorem dX8_times_41 : decode cX8_times 41 = .ok (.ixor, 1) := by decide +kernel
theorem dX8_times_42 : decode cX8_times 42 = .ok (.goto 4, 3) := by decide +kernel
theorem dX8_times_45 : decode cX8_times 45 = .ok (.iload_n 2, 1) := by decide +kernel
theorem dX8_times_46 : decode cX8_times 46 = .ok (.istore_n 2, 1) := by decide +kernel
theorem dX8_times_47 : decode cX8_times 47 = .ok (.iinc 3 (-1), 3) := by decide +kernel
theorem dX8_times_50 : decode cX8_times 50 = .ok (.goto (-45), 3) := by decide +kernel
theorem dX8_times_53 : decode cX8_times 53 = .ok (.iload_n 2, 1) := by decide +kernel
theorem dX8_times_54 : decode cX8_times 54 = .ok (.ireturn, 1) := by decide +kernel
set_option maxRecDepth 20000 in
theorem ggX8_sOf_X8_times : GoodIn wsX8_sOf wsX8_times := goodIn_r _ [4] (by decide +kernel) (by decide +kernel)
set_option maxRecDepth 20000 in
theorem gX8_sOf_X8_times : GoodIn wsX8_sOf (va_wsS RX8 66 yX8_times wsX8_times) := goodIn_app (goodIn_of _ (by decide +kernel)) ggX8_sOf_X8_times
theorem dX8_sOf_0 : decode cX8_sOf 0 = .ok (.iconst 0, 1) := by decide +kernel
theorem dX8_sOf_1 : decode cX8_sOf 1 = .ok (.istore_n 1, 1) := by decide +kernel
theorem dX8_sOf_2 : decode cX8_sOf 2 = .ok (.iconst 1, 1) := by decide +kernel
theorem dX8_sOf_3 : decode cX8_sOf 3 = .ok (.istore_n 2, 1) := by decide +kernel
theorem dX8_sOf_4 : decode cX8_sOf 4 = .ok (.iload_n 2, 1) := by decide +kernel
theorem dX8_sOf_5 : decode cX8_sOf 5 = .ok (.sipush 256, 3) := by decide +kernel
theorem dX8_sOf_8 : decode cX8_sOf 8 = .ok (.if_icmp .ge 28, 3) := by decide +kernel
theorem dX8_sOf_11 : decode cX8_sOf 11 = .ok (.iload_n 0, 1) := by decide +kernel
theorem dX8_sOf_12 : decode cX8_sOf 12 = .ok (.ifCond .le 16, 3) := by decide +kernel
theorem dX8_sOf_15 : decode cX8_sOf 15 = .ok (.iload_n 0, 1) := by decide +kernel
theorem dX8_sOf_16 : decode cX8_sOf 16 = .ok (.iload_n 2, 1) := by decide +kernel
theorem dX8_sOf_17 : decode cX8_sOf 17 = .ok (.invokestatic 66, 3) := by decide +kernel
theorem dX8_sOf_20 : decode cX8_sOf 20 = .ok (.iconst 1, 1) := by decide +kernel
theorem dX8_sOf_21 : decode cX8_sOf 21 = .ok (.if_icmp .ne 7, 3) := by decide +kernel
theorem dX8_sOf_24 : decode cX8_sOf 24 = .ok (.iload_n 2, 1) := by decide +kernel
theorem dX8_sOf_25 : decode cX8_sOf 25 = .ok (.goto 4, 3) := by decide +kernel
theorem dX8_sOf_28 : decode cX8_sOf 28 = .ok (.iload_n 1, 1) := by decide +kernel
theorem dX8_sOf_29 : decode cX8_sOf 29 = .ok (.istore_n 1, 1) := by decide +kernel
theorem dX8_sOf_30 : decode cX8_sOf 30 = .ok (.iinc 2 1, 3) := by decide +kernel
theorem dX8_sOf_33 : decode cX8_sOf 33 = .ok (.goto (-29), 3) := by decide +kernel
theorem dX8_sOf_36 : decode cX8_sOf 36 = .ok (.iload_n 1, 1) := by decide +kernel
theorem dX8_sOf_37 : decode cX8_sOf 37 = .ok (.bipush 99, 2) := by decide +kernel
theorem dX8_sOf_39 : decode cX8_sOf 39 = .ok (.ixor, 1) := by decide +kernel
theorem dX8_sOf_40 : decode cX8_sOf 40 = .ok (.istore_n 2, 1) := by decide +kernel
theorem dX8_sOf_41 : decode cX8_sOf 41 = .ok (.iconst 1, 1) := by decide +kernel
theorem dX8_sOf_42 : decode cX8_sOf 42 = .ok (.istore_n 3, 1) := by decide +kernel
theorem dX8_sOf_43 : decode cX8_sOf 43 = .ok (.iload_n 3, 1) := by decide +kernel
theorem dX8_sOf_44 : decode cX8_sOf 44 = .ok (.iconst 5, 1) := by decide +kernel
theorem dX8_sOf_45 : decode cX8_sOf 45 = .ok (.if_icmp .ge 26, 3) := by decide +kernel
theorem dX8_sOf_48 : decode cX8_sOf 48 = .ok (.iload_n 2, 1) := by decide +kernel
theorem dX8_sOf_49 : decode cX8_sOf 49 = .ok (.iload_n 1, 1) := by decide +kernel
theorem dX8_sOf_50 : decode cX8_sOf 50 = .ok (.iload_n 3, 1) := by decide +kernel
theorem dX8_sOf_51 : decode cX8_sOf 51 = .ok (.ishl, 1) := by decide +kernel
theorem dX8_sOf_52 : decode cX8_sOf 52 = .ok (.iload_n 1, 1) := by decide +kernel
theorem dX8_sOf_53 : decode cX8_sOf 53 = .ok (.bipush 8, 2) := by decide +kernel
theorem dX8_sOf_55 : decode cX8_sOf 55 = .ok (.iload_n 3, 1) := by decide +kernel
theorem dX8_sOf_56 : decode cX8_sOf 56 = .ok (.isub, 1) := by decide +kernel
theorem dX8_sOf_57 : decode cX8_sOf 57 = .ok (.ishr, 1) := by decide +kernel
theorem dX8_sOf_58 : decode cX8_sOf 58 = .ok (.ior, 1) := by decide +kernel
theorem dX8_sOf_59 : decode cX8_sOf 59 = .ok (.sipush 255, 3) := by decide +kernel
theorem dX8_sOf_62 : decode cX8_sOf 62 = .ok (.iand, 1) := by decide +kernel
theorem dX8_sOf_63 : decode cX8_sOf 63 = .ok (.ixor, 1) := by decide +kernel
theorem dX8_sOf_64 : decode cX8_sOf 64 = .ok (.istore_n 2, 1) := by decide +kernel
theorem dX8_sOf_65 : decode cX8_sOf 65 = .ok (.iinc 3 1, 3) := by decide +kernel
theorem dX8_sOf_68 : decode cX8_sOf 68 = .ok (.goto (-25), 3) := by decide +kernel
theorem dX8_sOf_71 : decode cX8_sOf 71 = .ok (.iload_n 2, 1) := by decide +kernel
theorem dX8_sOf_72 : decode cX8_sOf 72 = .ok (.ireturn, 1) := by decide +kernel
set_option maxRecDepth 20000 in
theorem ggX8_makeWords_X8_times : GoodIn wsX8_makeWords wsX8_times := goodIn_r _ [9] (by decide +kernel) (by decide +kernel)
set_option maxRecDepth 20000 in
theorem gX8_makeWords_X8_times : GoodIn wsX8_makeWords (va_wsS RX8 66 yX8_times wsX8_times) := goodIn_app (goodIn_of _ (by decide +kernel)) ggX8_makeWords_X8_times
theorem dX8_makeWords_0 : decode cX8_makeWords 0 = .ok (.aload_n 0, 1) := by decide +kernel
theorem dX8_makeWords_1 : decode cX8_makeWords 1 = .ok (.getfield 13, 3) := by decide +kernel
theorem dX8_makeWords_4 : decode cX8_makeWords 4 = .ok (.iconst 4, 1) := by decide +kernel
theorem dX8_makeWords_5 : decode cX8_makeWords 5 = .ok (.idiv, 1) := by decide +kernel
theorem dX8_makeWords_6 : decode cX8_makeWords 6 = .ok (.istore_n 2, 1) := by decide +kernel
theorem dX8_makeWords_7 : decode cX8_makeWords 7 = .ok (.aload_n 0, 1) := by decide +kernel
theorem dX8_makeWords_8 : decode cX8_makeWords 8 = .ok (.iload_n 2, 1) := by decide +kernel
theorem dX8_makeWords_9 : decode cX8_makeWords 9 = .ok (.bipush 6, 2) := by decide +kernel
theorem dX8_makeWords_11 : decode cX8_makeWords 11 = .ok (.iadd, 1) := by decide +kernel
theorem dX8_makeWords_12 : decode cX8_makeWords 12 = .ok (.putfield 70, 3) := by decide +kernel
theorem dX8_makeWords_15 : decode cX8_makeWords 15 = .ok (.iconst 0, 1) := by decide +kernel
theorem dX8_makeWords_16 : decode cX8_makeWords 16 = .ok (.istore_n 3, 1) := by decide +kernel
theorem dX8_makeWords_17 : decode cX8_makeWords 17 = .ok (.iload_n 3, 1) := by decide +kernel
theorem dX8_makeWords_18 : decode cX8_makeWords 18 = .ok (.aload_n 0, 1) := by decide +kernel
theorem dX8_makeWords_19 : decode cX8_makeWords 19 = .ok (.getfield 13, 3) := by decide +kernel
theorem dX8_makeWords_22 : decode cX8_makeWords 22 = .ok (.if_icmp .ge 36, 3) := by decide +kernel
theorem dX8_makeWords_25 : decode cX8_makeWords 25 = .ok (.aload_n 0, 1) := by decide +kernel
theorem dX8_makeWords_26 : decode cX8_makeWords 26 = .ok (.getfield 32, 3) := by decide +kernel
theorem dX8_makeWords_29 : decode cX8_makeWords 29 = .ok (.iload_n 3, 1) := by decide +kernel
theorem dX8_makeWords_30 : decode cX8_makeWords 30 = .ok (.aload_n 0, 1) := by decide +kernel
theorem dX8_makeWords_31 : decode cX8_makeWords 31 = .ok (.getfield 17, 3) := by decide +kernel
theorem dX8_makeWords_34 : decode cX8_makeWords 34 = .ok (.iload_n 1, 1) := by decide +kernel
theorem dX8_makeWords_35 : decode cX8_makeWords 35 = .ok (.ifCond .eq 14, 3) := by decide +kernel
theorem dX8_makeWords_38 : decode cX8_makeWords 38 = .ok (.aload_n 0, 1) := by decide +kernel
theorem dX8_makeWords_39 : decode cX8_makeWords 39 = .ok (.getfield 13, 3) := by decide +kernel
theorem dX8_makeWords_42 : decode cX8_makeWords 42 = .ok (.iconst 1, 1) := by decide +kernel
theorem dX8_makeWords_43 : decode cX8_makeWords 43 = .ok (.isub, 1) := by decide +kernel
theorem dX8_makeWords_44 : decode cX8_makeWords 44 = .ok (.iload_n 3, 1) := by decide +kernel
theorem dX8_makeWords_45 : decode cX8_makeWords 45 = .ok (.isub, 1) := by decide +kernel
theorem dX8_makeWords_46 : decode cX8_makeWords 46 = .ok (.goto 4, 3) := by decide +kernel
theorem dX8_makeWords_49 : decode cX8_makeWords 49 = .ok (.iload_n 3, 1) := by decide +kernel
theorem dX8_makeWords_50 : decode cX8_makeWords 50 = .ok (.iaload, 1) := by decide +kernel
theorem dX8_makeWords_51 : decode cX8_makeWords 51 = .ok (.iastore, 1) := by decide +kernel
theorem dX8_makeWords_52 : decode cX8_makeWords 52 = .ok (.iinc 3 1, 3) := by decide +kernel
theorem dX8_makeWords_55 : decode cX8_makeWords 55 = .ok (.goto (-38), 3) := by decide +kernel
theorem dX8_makeWords_58 : decode cX8_makeWords 58 = .ok (.iconst 1, 1) := by decide +kernel
theorem dX8_makeWords_59 : decode cX8_makeWords 59 = .ok (.istore_n 3, 1) := by decide +kernel
theorem dX8_makeWords_60 : decode cX8_makeWords 60 = .ok (.iload_n 2, 1) := by decide +kernel
theorem dX8_makeWords_61 : decode cX8_makeWords 61 = .ok (.istore 4, 2) := by decide +kernel
theorem dX8_makeWords_63 : decode cX8_makeWords 63 = .ok (.iload 4, 2) := by decide +kernel
theorem dX8_makeWords_65 : decode cX8_makeWords 65 = .ok (.iconst 4, 1) := by decide +kernel
theorem dX8_makeWords_66 : decode cX8_makeWords 66 = .ok (.aload_n 0, 1) := by decide +kernel
theorem dX8_makeWords_67 : decode cX8_makeWords 67 = .ok (.getfield 70, 3) := by decide +kernel
theorem dX8_makeWords_70 : decode cX8_makeWords 70 = .ok (.iconst 1, 1) := by decide +kernel
theorem dX8_makeWords_71 : decode cX8_makeWords 71 = .ok (.iadd, 1) := by decide +kernel
theorem dX8_makeWords_72 : decode cX8_makeWords 72 = .ok (.imul, 1) := by decide +kernel
theorem dX8_makeWords_73 : decode cX8_makeWords 73 = .ok (.if_icmp .ge 274, 3) := by decide +kernel
theorem dX8_makeWords_76 : decode cX8_makeWords 76 = .ok (.aload_n 0, 1) := by decide +kernel
theorem dX8_makeWords_77 : decode cX8_makeWords 77 = .ok (.getfield 32, 3) := by decide +kernel
theorem dX8_makeWords_80 : decode cX8_makeWords 80 = .ok (.iconst 4, 1) := by decide +kernel
theorem dX8_makeWords_81 : decode cX8_makeWords 81 = .ok (.iload 4, 2) := by decide +kernel
theorem dX8_makeWords_83 : decode cX8_makeWords 83 = .ok (.imul, 1) := by decide +kernel
theorem dX8_makeWords_84 : decode cX8_makeWords 84 = .ok (.iconst 4, 1) := by decide +kernel
theorem dX8_makeWords_85 : decode cX8_makeWords 85 = .ok (.isub, 1) := by decide +kernel
theorem dX8_makeWords_86 : decode cX8_makeWords 86 = .ok (.iaload, 1) := by decide +kernel
theorem dX8_makeWords_87 : decode cX8_makeWords 87 = .ok (.istore 5, 2) := by decide +kernel
theorem dX8_makeWords_89 : decode cX8_makeWords 89 = .ok (.aload_n 0, 1) := by decide +kernel
theorem dX8_makeWords_90 : decode cX8_makeWords 90 = .ok (.getfield 32, 3) := by decide +kernel
theorem dX8_makeWords_93 : decode cX8_makeWords 93 = .ok (.iconst 4, 1) := by decide +kernel
theorem dX8_makeWords_94 : decode cX8_makeWords 94 = .ok (.iload 4, 2) := by decide +kernel
theorem dX8_makeWords_96 : decode cX8_makeWords 96 = .ok (.imul, 1) := by decide +kernel
theorem dX8_makeWords_97 : decode cX8_makeWords 97 = .ok (.iconst 3, 1) := by decide +kernel
theorem dX8_makeWords_98 : decode cX8_makeWords 98 = .ok (.isub, 1) := by decide +kernel
theorem dX8_makeWords_99 : decode cX8_makeWords 99 = .ok (.iaload, 1) := by decide +kernel
theorem dX8_makeWords_100 : decode cX8_makeWords 100 = .ok (.istore 6, 2) := by decide +kernel
theorem dX8_makeWords_102 : decode cX8_makeWords 102 = .ok (.aload_n 0, 1) := by decide +kernel
theorem dX8_makeWords_103 : decode cX8_makeWords 103 = .ok (.getfield 32, 3) := by decide +kernel
theorem dX8_makeWords_106 : decode cX8_makeWords 106 = .ok (.iconst 4, 1) := by decide +kernel
theorem dX8_makeWords_107 : decode cX8_makeWords 107 = .ok (.iload 4, 2) := by decide +kernel
theorem dX8_makeWords_109 : decode cX8_makeWords 109 = .ok (.imul, 1) := by decide +kernel
theorem dX8_makeWords_110 : decode cX8_makeWords 110 = .ok (.iconst 2, 1) := by decide +kernel
theorem dX8_makeWords_111 : decode cX8_makeWords 111 = .ok (.isub, 1) := by decide +kernel
theorem dX8_makeWords_112 : decode cX8_makeWords 112 = .ok (.iaload, 1) := by decide +kernel
theorem dX8_makeWords_113 : decode cX8_makeWords 113 = .ok (.istore 7, 2) := by decide +kernel
theorem dX8_makeWords_115 : decode cX8_makeWords 115 = .ok (.aload_n 0, 1) := by decide +kernel
theorem dX8_makeWords_116 : decode cX8_makeWords 116 = .ok (.getfield 32, 3) := by decide +kernel
theorem dX8_makeWords_119 : decode cX8_makeWords 119 = .ok (.iconst 4, 1) := by decide +kernel
theorem dX8_makeWords_120 : decode cX8_makeWords 120 = .ok (.iload 4, 2) := by decide +kernel
theorem dX8_makeWords_122 : decode cX8_makeWords 122 = .ok (.imul, 1) := by decide +kernel
theorem dX8_makeWords_123 : decode cX8_makeWords 123 = .ok (.iconst 1, 1) := by decide +kernel
theorem dX8_makeWords_124 : decode cX8_makeWords 124 = .ok (.isub, 1) := by decide +kernel
theorem dX8_makeWords_125 : decode cX8_makeWords 125 = .ok (.iaload, 1) := by decide +kernel
theorem dX8_makeWords_126 : decode cX8_makeWords 126 = .ok (.istore 8, 2) := by decide +kernel
theorem dX8_makeWords_128 : decode cX8_makeWords 128 = .ok (.iload 4, 2) := by decide +kernel
theorem dX8_makeWords_130 : decode cX8_makeWords 130 = .ok (.iload_n 2, 1) := by decide +kernel
theorem dX8_makeWords_131 : decode cX8_makeWords 131 = .ok (.irem, 1) := by decide +kernel
theorem dX8_makeWords_132 : decode cX8_makeWords 132 = .ok (.ifCond .ne 54, 3) := by decide +kernel
theorem dX8_makeWords_135 : decode cX8_makeWords 135 = .ok (.iload 5, 2) := by decide +kernel
theorem dX8_makeWords_137 : decode cX8_makeWords 137 = .ok (.istore 9, 2) := by decide +kernel
theorem dX8_makeWords_139 : decode cX8_makeWords 139 = .ok (.aload_n 0, 1) := by decide +kernel
theorem dX8_makeWords_140 : decode cX8_makeWords 140 = .ok (.getfield 29, 3) := by decide +kernel
theorem dX8_makeWords_143 : decode cX8_makeWords 143 = .ok (.iload 6, 2) := by decide +kernel
theorem dX8_makeWords_145 : decode cX8_makeWords 145 = .ok (.iaload, 1) := by decide +kernel
theorem dX8_makeWords_146 : decode cX8_makeWords 146 = .ok (.iload_n 3, 1) := by decide +kernel
theorem dX8_makeWords_147 : decode cX8_makeWords 147 = .ok (.ixor, 1) := by decide +kernel
theorem dX8_makeWords_148 : decode cX8_makeWords 148 = .ok (.istore 5, 2) := by decide +kernel
theorem dX8_makeWords_150 : decode cX8_makeWords 150 = .ok (.aload_n 0, 1) := by decide +kernel
theorem dX8_makeWords_151 : decode cX8_makeWords 151 = .ok (.getfield 29, 3) := by decide +kernel
theorem dX8_makeWords_154 : decode cX8_makeWords 154 = .ok (.iload 7, 2) := by decide +kernel
theorem dX8_makeWords_156 : decode cX8_makeWords 156 = .ok (.iaload, 1) := by decide +kernel
theorem dX8_makeWords_157 : decode cX8_makeWords 157 = .ok (.istore 6, 2) := by decide +kernel
theorem dX8_makeWords_159 : decode cX8_makeWords 159 = .ok (.aload_n 0, 1) := by decide +kernel
theorem dX8_makeWords_160 : decode cX8_makeWords 160 = .ok (.getfield 29, 3) := by decide +kernel
theorem dX8_makeWords_163 : decode cX8_makeWords 163 = .ok (.iload 8, 2) := by decide +kernel
theorem dX8_makeWords_165 : decode cX8_makeWords 165 = .ok (.iaload, 1) := by decide +kernel
theorem dX8_makeWords_166 : decode cX8_makeWords 166 = .ok (.istore 7, 2) := by decide +kernel
theorem dX8_makeWords_168 : decode cX8_makeWords 168 = .ok (.aload_n 0, 1) := by decide +kernel
theorem dX8_makeWords_169 : decode cX8_makeWords 169 = .ok (.getfield 29, 3) := by decide +kernel
theorem dX8_makeWords_172 : decode cX8_makeWords 172 = .ok (.iload 9, 2) := by decide +kernel
theorem dX8_makeWords_174 : decode cX8_makeWords 174 = .ok (.iaload, 1) := by decide +kernel
theorem dX8_makeWords_175 : decode cX8_makeWords 175 = .ok (.istore 8, 2) := by decide +kernel
theorem dX8_makeWords_177 : decode cX8_makeWords 177 = .ok (.iload_n 3, 1) := by decide +kernel
theorem dX8_makeWords_178 : decode cX8_makeWords 178 = .ok (.iconst 2, 1) := by decide +kernel
theorem dX8_makeWords_179 : decode cX8_makeWords 179 = .ok (.invokestatic 66, 3) := by decide +kernel
theorem dX8_makeWords_182 : decode cX8_makeWords 182 = .ok (.istore_n 3, 1) := by decide +kernel
theorem dX8_makeWords_183 : decode cX8_makeWords 183 = .ok (.goto 54, 3) := by decide +kernel
theorem dX8_makeWords_186 : decode cX8_makeWords 186 = .ok (.iload_n 2, 1) := by decide +kernel
theorem dX8_makeWords_187 : decode cX8_makeWords 187 = .ok (.bipush 8, 2) := by decide +kernel
theorem dX8_makeWords_189 : decode cX8_makeWords 189 = .ok (.if_icmp .ne 48, 3) := by decide +kernel
theorem dX8_makeWords_192 : decode cX8_makeWords 192 = .ok (.iload 4, 2) := by decide +kernel
theorem dX8_makeWords_194 : decode cX8_makeWords 194 = .ok (.bipush 8, 2) := by decide +kernel
theorem dX8_makeWords_196 : decode cX8_makeWords 196 = .ok (.irem, 1) := by decide +kernel
theorem dX8_makeWords_197 : decode cX8_makeWords 197 = .ok (.iconst 4, 1) := by decide +kernel
theorem dX8_makeWords_198 : decode cX8_makeWords 198 = .ok (.if_icmp .ne 39, 3) := by decide +kernel
theorem dX8_makeWords_201 : decode cX8_makeWords 201 = .ok (.aload_n 0, 1) := by decide +kernel
theorem dX8_makeWords_202 : decode cX8_makeWords 202 = .ok (.getfield 29, 3) := by decide +kernel
theorem dX8_makeWords_205 : decode cX8_makeWords 205 = .ok (.iload 5, 2) := by decide +kernel
theorem dX8_makeWords_207 : decode cX8_makeWords 207 = .ok (.iaload, 1) := by decide +kernel
theorem dX8_makeWords_208 : decode cX8_makeWords 208 = .ok (.istore 5, 2) := by decide +kernel
theorem dX8_makeWords_210 : decode cX8_makeWords 210 = .ok (.aload_n 0, 1) := by decide +kernel
theorem dX8_makeWords_211 : decode cX8_makeWords 211 = .ok (.getfield 29, 3) := by decide +kernel
theorem dX8_makeWords_214 : decode cX8_makeWords 214 = .ok (.iload 6, 2) := by decide +kernel
theorem dX8_makeWords_216 : decode cX8_makeWords 216 = .ok (.iaload, 1) := by decide +kernel
theorem dX8_makeWords_217 : decode cX8_makeWords 217 = .ok (.istore 6, 2) := by decide +kernel
theorem dX8_makeWords_219 : decode cX8_makeWords 219 = .ok (.aload_n 0, 1) := by decide +kernel
theorem dX8_makeWords_220 : decode cX8_makeWords 220 = .ok (.getfield 29, 3) := by decide +kernel
theorem dX8_makeWords_223 : decode cX8_makeWords 223 = .ok (.iload 7, 2) := by decide +kernel
theorem dX8_makeWords_225 : decode cX8_makeWords 225 = .ok (.iaload, 1) := by decide +kernel
theorem dX8_makeWords_226 : decode cX8_makeWords 226 = .ok (.istore 7, 2) := by decide +kernel
theorem dX8_makeWords_228 : decode cX8_makeWords 228 = .ok (.aload_n 0, 1) := by decide +kernel
theorem dX8_makeWords_229 : decode cX8_makeWords 229 = .ok (.getfield 29, 3) := by decide +kernel
theorem dX8_makeWords_232 : decode cX8_makeWords 232 = .ok (.iload 8, 2) := by decide +kernel
theorem dX8_makeWords_234 : decode cX8_makeWords 234 = .ok (.iaload, 1) := by decide +kernel
theorem dX8_makeWords_235 : decode cX8_makeWords 235 = .ok (.istore 8, 2) := by decide +kernel
theorem dX8_makeWords_237 : decode cX8_makeWords 237 = .ok (.aload_n 0, 1) := by decide +kernel
theorem dX8_makeWords_238 : decode cX8_makeWords 238 = .ok (.getfield 32, 3) := by decide +kernel
theorem dX8_makeWords_241 : decode cX8_makeWords 241 = .ok (.iconst 4, 1) := by decide +kernel
theorem dX8_makeWords_242 : decode cX8_makeWords 242 = .ok (.iload 4, 2) := by decide +kernel
theorem dX8_makeWords_244 : decode cX8_makeWords 244 = .ok (.imul, 1) := by decide +kernel
theorem dX8_makeWords_245 : decode cX8_makeWords 245 = .ok (.aload_n 0, 1) := by decide +kernel
theorem dX8_makeWords_246 : decode cX8_makeWords 246 = .ok (.getfield 32, 3) := by decide +kernel
theorem dX8_makeWords_249 : decode cX8_makeWords 249 = .ok (.iconst 4, 1) := by decide +kernel
theorem dX8_makeWords_250 : decode cX8_makeWords 250 = .ok (.iload 4, 2) := by decide +kernel
theorem dX8_makeWords_252 : decode cX8_makeWords 252 = .ok (.iload_n 2, 1) := by decide +kernel
theorem dX8_makeWords_253 : decode cX8_makeWords 253 = .ok (.isub, 1) := by decide +kernel
theorem dX8_makeWords_254 : decode cX8_makeWords 254 = .ok (.imul, 1) := by decide +kernel
theorem dX8_makeWords_255 : decode cX8_makeWords 255 = .ok (.iaload, 1) := by decide +kernel
theorem dX8_makeWords_256 : decode cX8_makeWords 256 = .ok (.iload 5, 2) := by decide +kernel
theorem dX8_makeWords_258 : decode cX8_makeWords 258 = .ok (.ixor, 1) := by decide +kernel
theorem dX8_makeWords_259 : decode cX8_makeWords 259 = .ok (.iastore, 1) := by decide +kernel
theorem dX8_makeWords_260 : decode cX8_makeWords 260 = .ok (.aload_n 0, 1) := by decide +kernel
theorem dX8_makeWords_261 : decode cX8_makeWords 261 = .ok (.getfield 32, 3) := by decide +kernel
theorem dX8_makeWords_264 : decode cX8_makeWords 264 = .ok (.iconst 4, 1) := by decide +kernel
theorem dX8_makeWords_265 : decode cX8_makeWords 265 = .ok (.iload 4, 2) := by decide +kernel
theorem dX8_makeWords_267 : decode cX8_makeWords 267 = .ok (.imul, 1) := by decide +kernel
theorem dX8_makeWords_268 : decode cX8_makeWords 268 = .ok (.iconst 1, 1) := by decide +kernel
theorem dX8_makeWords_269 : decode cX8_makeWords 269 = .ok (.iadd, 1) := by decide +kernel
theorem dX8_makeWords_270 : decode cX8_makeWords 270 = .ok (.aload_n 0, 1) := by decide +kernel
theorem dX8_makeWords_271 : decode cX8_makeWords 271 = .ok (.getfield 32, 3) := by decide +kernel
theorem dX8_makeWords_274 : decode cX8_makeWords 274 = .ok (.iconst 4, 1) := by decide +kernel
theorem dX8_makeWords_275 : decode cX8_makeWords 275 = .ok (.iload 4, 2) := by decide +kernel
theorem dX8_makeWords_277 : decode cX8_makeWords 277 = .ok (.iload_n 2, 1) := by decide +kernel
theorem dX8_makeWords_278 : decode cX8_makeWords 278 = .ok (.isub, 1) := by decide +kernel
theorem dX8_makeWords_279 : decode cX8_makeWords 279 = .ok (.imul, 1) := by decide +kernel
theorem dX8_makeWords_280 : decode cX8_makeWords 280 = .ok (.iconst 1, 1) := by decide +kernel
theorem dX8_makeWords_281 : decode cX8_makeWords 281 = .ok (.iadd, 1) := by decide +kernel
theorem dX8_makeWords_282 : decode cX8_makeWords 282 = .ok (.iaload, 1) := by decide +kernel
theorem dX8_makeWords_283 : decode cX8_makeWords 283 = .ok (.iload 6, 2) := by decide +kernel
theorem dX8_makeWords_285 : decode cX8_makeWords 285 = .ok (.ixor, 1) := by decide +kernel
theorem dX8_makeWords_286 : decode cX8_makeWords 286 = .ok (.iastore, 1) := by decide +kernel
theorem dX8_makeWords_287 : decode cX8_makeWords 287 = .ok (.aload_n 0, 1) := by decide +kernel
theorem dX8_makeWords_288 : decode cX8_makeWords 288 = .ok (.getfield 32, 3) := by decide +kernel
theorem dX8_makeWords_291 : decode cX8_makeWords 291 = .ok (.iconst 4, 1) := by decide +kernel
theorem dX8_makeWords_292 : decode cX8_makeWords 292 = .ok (.iload 4, 2) := by decide +kernel
theorem dX8_makeWords_294 : decode cX8_makeWords 294 = .ok (.imul, 1) := by decide +kernel
theorem dX8_makeWords_295 : decode cX8_makeWords 295 = .ok (.iconst 2, 1) := by decide +kernel
theorem dX8_makeWords_296 : decode cX8_makeWords 296 = .ok (.iadd, 1) := by decide +kernel
theorem dX8_makeWords_297 : decode cX8_makeWords 297 = .ok (.aload_n 0, 1) := by decide +kernel
theorem dX8_makeWords_298 : decode cX8_makeWords 298 = .ok (.getfield 32, 3) := by decide +kernel
theorem dX8_makeWords_301 : decode cX8_makeWords 301 = .ok (.iconst 4, 1) := by decide +kernel
theorem dX8_makeWords_302 : decode cX8_makeWords 302 = .ok (.iload 4, 2) := by decide +kernel
theorem dX8_makeWords_304 : decode cX8_makeWords 304 = .ok (.iload_n 2, 1) := by decide +kernel
theorem dX8_makeWords_305 : decode cX8_makeWords 305 = .ok (.isub, 1) := by decide +kernel
theorem dX8_makeWords_306 : decode cX8_makeWords 306 = .ok (.imul, 1) := by decide +kernel
theorem dX8_makeWords_307 : decode cX8_makeWords 307 = .ok (.iconst 2, 1) := by decide +kernel
theorem dX8_makeWords_308 : decode cX8_makeWords 308 = .ok (.iadd, 1) := by decide +kernel
theorem dX8_makeWords_309 : decode cX8_makeWords 309 = .ok (.iaload, 1) := by decide +kernel
theorem dX8_makeWords_310 : decode cX8_makeWords 310 = .ok (.iload 7, 2) := by decide +kernel
theorem dX8_makeWords_312 : decode cX8_makeWords 312 = .ok (.ixor, 1) := by decide +kernel
theorem dX8_makeWords_313 : decode cX8_makeWords 313 = .ok (.iastore, 1) := by decide +kernel
theorem dX8_makeWords_314 : decode cX8_makeWords 314 = .ok (.aload_n 0, 1) := by decide +kernel
theorem dX8_makeWords_315 : decode cX8_makeWords 315 = .ok (.getfield 32, 3) := by decide +kernel
theorem dX8_makeWords_318 : decode cX8_makeWords 318 = .ok (.iconst 4, 1) := by decide +kernel
theorem dX8_makeWords_319 : decode cX8_makeWords 319 = .ok (.iload 4, 2) := by decide +kernel
theorem dX8_makeWords_321 : decode cX8_makeWords 321 = .ok (.imul, 1) := by decide +kernel
theorem dX8_makeWords_322 : decode cX8_makeWords 322 = .ok (.iconst 3, 1) := by decide +kernel
theorem dX8_makeWords_323 : decode cX8_makeWords 323 = .ok (.iadd, 1) := by decide +kernel
theorem dX8_makeWords_324 : decode cX8_makeWords 324 = .ok (.aload_n 0, 1) := by decide +kernel
theorem dX8_makeWords_325 : decode cX8_makeWords 325 = .ok (.getfield 32, 3) := by decide +kernel
theorem dX8_makeWords_328 : decode cX8_makeWords 328 = .ok (.iconst 4, 1) := by decide +kernel
theorem dX8_makeWords_329 : decode cX8_makeWords 329 = .ok (.iload 4, 2) := by decide +kernel
theorem dX8_makeWords_331 : decode cX8_makeWords 331 = .ok (.iload_n 2, 1) := by decide +kernel
theorem dX8_makeWords_332 : decode cX8_makeWords 332 = .ok (.isub, 1) := by decide +kernel
theorem dX8_makeWords_333 : decode cX8_makeWords 333 = .ok (.imul, 1) := by decide +kernel
theorem dX8_makeWords_334 : decode cX8_makeWords 334 = .ok (.iconst 3, 1) := by decide +kernel
theorem dX8_makeWords_335 : decode cX8_makeWords 335 = .ok (.iadd, 1) := by decide +kernel
theorem dX8_makeWords_336 : decode cX8_makeWords 336 = .ok (.iaload, 1) := by decide +kernel
theorem dX8_makeWords_337 : decode cX8_makeWords 337 = .ok (.iload 8, 2) := by decide +kernel
theorem dX8_makeWords_339 : decode cX8_makeWords 339 = .ok (.ixor, 1) := by decide +kernel
theorem dX8_makeWords_340 : decode cX8_makeWords 340 = .ok (.iastore, 1) := by decide +kernel
theorem dX8_makeWords_341 : decode cX8_makeWords 341 = .ok (.iinc 4 1, 3) := by decide +kernel
theorem dX8_makeWords_344 : decode cX8_makeWords 344 = .ok (.goto (-281), 3) := by decide +kernel
theorem dX8_makeWords_347 : decode cX8_makeWords 347 = .ok (.return_, 1) := by decide +kernel
theorem dX8_addWords_0 : decode cX8_addWords 0 = .ok (.iconst 0, 1) := by decide +kernel
theorem dX8_addWords_1 : decode cX8_addWords 1 = .ok (.istore_n 2, 1) := by decide +kernel
theorem dX8_addWords_2 : decode cX8_addWords 2 = .ok (.iload_n 2, 1) := by decide +kernel
theorem dX8_addWords_3 : decode cX8_addWords 3 = .ok (.bipush 16, 2) := by decide +kernel
theorem dX8_addWords_5 : decode cX8_addWords 5 = .ok (.if_icmp .ge 33, 3) := by decide +kernel
theorem dX8_addWords_8 : decode cX8_addWords 8 = .ok (.aload_n 0, 1) := by decide +kernel
theorem dX8_addWords_9 : decode cX8_addWords 9 = .ok (.getfield 35, 3) := by decide +kernel
theorem dX8_addWords_12 : decode cX8_addWords 12 = .ok (.iload_n 2, 1) := by decide +kernel
theorem dX8_addWords_13 : decode cX8_addWords 13 = .ok (.aload_n 0, 1) := by decide +kernel
theorem dX8_addWords_14 : decode cX8_addWords 14 = .ok (.getfield 35, 3) := by decide +kernel
theorem dX8_addWords_17 : decode cX8_addWords 17 = .ok (.iload_n 2, 1) := by decide +kernel
theorem dX8_addWords_18 : decode cX8_addWords 18 = .ok (.iaload, 1) := by decide +kernel
theorem dX8_addWords_19 : decode cX8_addWords 19 = .ok (.aload_n 0, 1) := by decide +kernel
theorem dX8_addWords_20 : decode cX8_addWords 20 = .ok (.getfield 32, 3) := by decide +kernel
theorem dX8_addWords_23 : decode cX8_addWords 23 = .ok (.bipush 16, 2) := by decide +kernel
theorem dX8_addWords_25 : decode cX8_addWords 25 = .ok (.iload_n 1, 1) := by decide +kernel
theorem dX8_addWords_26 : decode cX8_addWords 26 = .ok (.imul, 1) := by decide +kernel
theorem dX8_addWords_27 : decode cX8_addWords 27 = .ok (.iload_n 2, 1) := by decide +kernel
theorem dX8_addWords_28 : decode cX8_addWords 28 = .ok (.iadd, 1) := by decide +kernel
theorem dX8_addWords_29 : decode cX8_addWords 29 = .ok (.iaload, 1) := by decide +kernel
theorem dX8_addWords_30 : decode cX8_addWords 30 = .ok (.ixor, 1) := by decide +kernel
theorem dX8_addWords_31 : decode cX8_addWords 31 = .ok (.iastore, 1) := by decide +kernel
theorem dX8_addWords_32 : decode cX8_addWords 32 = .ok (.iinc 2 1, 3) := by decide +kernel
theorem dX8_addWords_35 : decode cX8_addWords 35 = .ok (.goto (-33), 3) := by decide +kernel
theorem dX8_addWords_38 : decode cX8_addWords 38 = .ok (.return_, 1) := by decide +kernel
set_option maxRecDepth 20000 in
theorem ggX8_encipher_X8_addWords : GoodIn wsX8_encipher wsX8_addWords := goodIn_r _ [9, 4, 10, 14, 15, 16, 17, 18, 19, 20, 21, 22, 23, 24, 25, 26, 27, 28, 29, 30, 31, 32, 33, 34, 35, 36] (by decide +kernel) (by decide +kernel)
set_option maxRecDepth 20000 in
theorem gX8_encipher_X8_addWords : GoodIn wsX8_encipher (wsV RX8 73 RX8 yX8_addWords wsX8_addWords) := goodIn_app (goodIn_of _ (by decide +kernel)) ggX8_encipher_X8_addWords
set_option maxRecDepth 20000 in
theorem ggX8_encipher_X8_times : GoodIn wsX8_encipher wsX8_times := goodIn_r _ [13] (by decide +kernel) (by decide +kernel)
set_option maxRecDepth 20000 in
theorem gX8_encipher_X8_times : GoodIn wsX8_encipher (va_wsS RX8 66 yX8_times wsX8_times) := goodIn_app (goodIn_of _ (by decide +kernel)) ggX8_encipher_X8_times
theorem dX8_encipher_0 : decode cX8_encipher 0 = .ok (.aload_n 0, 1) := by decide +kernel
theorem dX8_encipher_1 : decode cX8_encipher 1 = .ok (.iconst 0, 1) := by decide +kernel
theorem dX8_encipher_2 : decode cX8_encipher 2 = .ok (.invokevirtual 73, 3) := by decide +kernel
theorem dX8_encipher_5 : decode cX8_encipher 5 = .ok (.iconst 1, 1) := by decide +kernel
theorem dX8_encipher_6 : decode cX8_encipher 6 = .ok (.istore_n 1, 1) := by decide +kernel
theorem dX8_encipher_7 : decode cX8_encipher 7 = .ok (.iload_n 1, 1) := by decide +kernel
theorem dX8_encipher_8 : decode cX8_encipher 8 = .ok (.aload_n 0, 1) := by decide +kernel
theorem dX8_encipher_9 : decode cX8_encipher 9 = .ok (.getfield 70, 3) := by decide +kernel
theorem dX8_encipher_12 : decode cX8_encipher 12 = .ok (.if_icmp .gt 184, 3) := by decide +kernel
theorem dX8_encipher_15 : decode cX8_encipher 15 = .ok (.iconst 0, 1) := by decide +kernel
theorem dX8_encipher_16 : decode cX8_encipher 16 = .ok (.istore_n 2, 1) := by decide +kernel
theorem dX8_encipher_17 : decode cX8_encipher 17 = .ok (.iload_n 2, 1) := by decide +kernel
theorem dX8_encipher_18 : decode cX8_encipher 18 = .ok (.iconst 4, 1) := by decide +kernel
theorem dX8_encipher_19 : decode cX8_encipher 19 = .ok (.if_icmp .ge 51, 3) := by decide +kernel
theorem dX8_encipher_22 : decode cX8_encipher 22 = .ok (.iconst 0, 1) := by decide +kernel
theorem dX8_encipher_23 : decode cX8_encipher 23 = .ok (.istore_n 3, 1) := by decide +kernel
theorem dX8_encipher_24 : decode cX8_encipher 24 = .ok (.iload_n 3, 1) := by decide +kernel
theorem dX8_encipher_25 : decode cX8_encipher 25 = .ok (.iconst 4, 1) := by decide +kernel
theorem dX8_encipher_26 : decode cX8_encipher 26 = .ok (.if_icmp .ge 38, 3) := by decide +kernel
theorem dX8_encipher_29 : decode cX8_encipher 29 = .ok (.aload_n 0, 1) := by decide +kernel
theorem dX8_encipher_30 : decode cX8_encipher 30 = .ok (.getfield 38, 3) := by decide +kernel
theorem dX8_encipher_33 : decode cX8_encipher 33 = .ok (.iconst 4, 1) := by decide +kernel
theorem dX8_encipher_34 : decode cX8_encipher 34 = .ok (.iload_n 2, 1) := by decide +kernel
theorem dX8_encipher_35 : decode cX8_encipher 35 = .ok (.imul, 1) := by decide +kernel
theorem dX8_encipher_36 : decode cX8_encipher 36 = .ok (.iload_n 3, 1) := by decide +kernel
theorem dX8_encipher_37 : decode cX8_encipher 37 = .ok (.iadd, 1) := by decide +kernel
theorem dX8_encipher_38 : decode cX8_encipher 38 = .ok (.aload_n 0, 1) := by decide +kernel
theorem dX8_encipher_39 : decode cX8_encipher 39 = .ok (.getfield 29, 3) := by decide +kernel
theorem dX8_encipher_42 : decode cX8_encipher 42 = .ok (.aload_n 0, 1) := by decide +kernel
theorem dX8_encipher_43 : decode cX8_encipher 43 = .ok (.getfield 35, 3) := by decide +kernel
theorem dX8_encipher_46 : decode cX8_encipher 46 = .ok (.iconst 4, 1) := by decide +kernel
theorem dX8_encipher_47 : decode cX8_encipher 47 = .ok (.iload_n 2, 1) := by decide +kernel
theorem dX8_encipher_48 : decode cX8_encipher 48 = .ok (.iload_n 3, 1) := by decide +kernel
theorem dX8_encipher_49 : decode cX8_encipher 49 = .ok (.iadd, 1) := by decide +kernel
theorem dX8_encipher_50 : decode cX8_encipher 50 = .ok (.iconst 4, 1) := by decide +kernel
theorem dX8_encipher_51 : decode cX8_encipher 51 = .ok (.irem, 1) := by decide +kernel
theorem dX8_encipher_52 : decode cX8_encipher 52 = .ok (.imul, 1) := by decide +kernel
theorem dX8_encipher_53 : decode cX8_encipher 53 = .ok (.iload_n 3, 1) := by decide +kernel
theorem dX8_encipher_54 : decode cX8_encipher 54 = .ok (.iadd, 1) := by decide +kernel
theorem dX8_encipher_55 : decode cX8_encipher 55 = .ok (.iaload, 1) := by decide +kernel
theorem dX8_encipher_56 : decode cX8_encipher 56 = .ok (.iaload, 1) := by decide +kernel
theorem dX8_encipher_57 : decode cX8_encipher 57 = .ok (.iastore, 1) := by decide +kernel
theorem dX8_encipher_58 : decode cX8_encipher 58 = .ok (.iinc 3 1, 3) := by decide +kernel
theorem dX8_encipher_61 : decode cX8_encipher 61 = .ok (.goto (-37), 3) := by decide +kernel
theorem dX8_encipher_64 : decode cX8_encipher 64 = .ok (.iinc 2 1, 3) := by decide +kernel
theorem dX8_encipher_67 : decode cX8_encipher 67 = .ok (.goto (-50), 3) := by decide +kernel
theorem dX8_encipher_70 : decode cX8_encipher 70 = .ok (.iconst 0, 1) := by decide +kernel
theorem dX8_encipher_71 : decode cX8_encipher 71 = .ok (.istore_n 2, 1) := by decide +kernel
theorem dX8_encipher_72 : decode cX8_encipher 72 = .ok (.iload_n 2, 1) := by decide +kernel
theorem dX8_encipher_73 : decode cX8_encipher 73 = .ok (.bipush 16, 2) := by decide +kernel
theorem dX8_encipher_75 : decode cX8_encipher 75 = .ok (.if_icmp .ge 110, 3) := by decide +kernel
theorem dX8_encipher_78 : decode cX8_encipher 78 = .ok (.iconst 0, 1) := by decide +kernel
theorem dX8_encipher_79 : decode cX8_encipher 79 = .ok (.istore_n 3, 1) := by decide +kernel
theorem dX8_encipher_80 : decode cX8_encipher 80 = .ok (.iload_n 3, 1) := by decide +kernel
theorem dX8_encipher_81 : decode cX8_encipher 81 = .ok (.iconst 4, 1) := by decide +kernel
theorem dX8_encipher_82 : decode cX8_encipher 82 = .ok (.if_icmp .ge 97, 3) := by decide +kernel
theorem dX8_encipher_85 : decode cX8_encipher 85 = .ok (.aload_n 0, 1) := by decide +kernel
theorem dX8_encipher_86 : decode cX8_encipher 86 = .ok (.getfield 38, 3) := by decide +kernel
