theorem dX0_encipher_73 : decode cX0_encipher 73 = .ok (.getfield 24, 3) := by decide +kernel
theorem dX0_encipher_76 : decode cX0_encipher 76 = .ok (.if_icmp .ge 15, 3) := by decide +kernel
theorem dX0_encipher_79 : decode cX0_encipher 79 = .ok (.aload_n 0, 1) := by decide +kernel
theorem dX0_encipher_80 : decode cX0_encipher 80 = .ok (.getfield 15, 3) := by decide +kernel
theorem dX0_encipher_83 : decode cX0_encipher 83 = .ok (.iload_n 3, 1) := by decide +kernel
theorem dX0_encipher_84 : decode cX0_encipher 84 = .ok (.iaload, 1) := by decide +kernel
theorem dX0_encipher_85 : decode cX0_encipher 85 = .ok (.invokestatic 48, 3) := by decide +kernel
theorem dX0_encipher_88 : decode cX0_encipher 88 = .ok (.goto 9, 3) := by decide +kernel
theorem dX0_encipher_91 : decode cX0_encipher 91 = .ok (.aload_n 0, 1) := by decide +kernel
theorem dX0_encipher_92 : decode cX0_encipher 92 = .ok (.getfield 15, 3) := by decide +kernel
theorem dX0_encipher_95 : decode cX0_encipher 95 = .ok (.iload_n 3, 1) := by decide +kernel
theorem dX0_encipher_96 : decode cX0_encipher 96 = .ok (.iaload, 1) := by decide +kernel
theorem dX0_encipher_97 : decode cX0_encipher 97 = .ok (.aload_n 0, 1) := by decide +kernel
theorem dX0_encipher_98 : decode cX0_encipher 98 = .ok (.getfield 11, 3) := by decide +kernel
theorem dX0_encipher_101 : decode cX0_encipher 101 = .ok (.iconst 4, 1) := by decide +kernel
theorem dX0_encipher_102 : decode cX0_encipher 102 = .ok (.iload_n 2, 1) := by decide +kernel
theorem dX0_encipher_103 : decode cX0_encipher 103 = .ok (.imul, 1) := by decide +kernel
theorem dX0_encipher_104 : decode cX0_encipher 104 = .ok (.iload_n 3, 1) := by decide +kernel
theorem dX0_encipher_105 : decode cX0_encipher 105 = .ok (.iadd, 1) := by decide +kernel
theorem dX0_encipher_106 : decode cX0_encipher 106 = .ok (.iaload, 1) := by decide +kernel
theorem dX0_encipher_107 : decode cX0_encipher 107 = .ok (.ixor, 1) := by decide +kernel
theorem dX0_encipher_108 : decode cX0_encipher 108 = .ok (.iastore, 1) := by decide +kernel
theorem dX0_encipher_109 : decode cX0_encipher 109 = .ok (.iinc 3 1, 3) := by decide +kernel
theorem dX0_encipher_112 : decode cX0_encipher 112 = .ok (.goto (-48), 3) := by decide +kernel
theorem dX0_encipher_115 : decode cX0_encipher 115 = .ok (.iinc 2 1, 3) := by decide +kernel
theorem dX0_encipher_118 : decode cX0_encipher 118 = .ok (.goto (-91), 3) := by decide +kernel
theorem dX0_encipher_121 : decode cX0_encipher 121 = .ok (.return_, 1) := by decide +kernel
theorem dX0_diagonal_0 : decode cX0_diagonal 0 = .ok (.aload_n 0, 1) := by decide +kernel
theorem dX0_diagonal_1 : decode cX0_diagonal 1 = .ok (.iload_n 1, 1) := by decide +kernel
theorem dX0_diagonal_2 : decode cX0_diagonal 2 = .ok (.iaload, 1) := by decide +kernel
theorem dX0_diagonal_3 : decode cX0_diagonal 3 = .ok (.ldc 51, 2) := by decide +kernel
theorem dX0_diagonal_5 : decode cX0_diagonal 5 = .ok (.iand, 1) := by decide +kernel
theorem dX0_diagonal_6 : decode cX0_diagonal 6 = .ok (.aload_n 0, 1) := by decide +kernel
theorem dX0_diagonal_7 : decode cX0_diagonal 7 = .ok (.iload_n 1, 1) := by decide +kernel
theorem dX0_diagonal_8 : decode cX0_diagonal 8 = .ok (.iconst 1, 1) := by decide +kernel
theorem dX0_diagonal_9 : decode cX0_diagonal 9 = .ok (.iadd, 1) := by decide +kernel
theorem dX0_diagonal_10 : decode cX0_diagonal 10 = .ok (.iconst 4, 1) := by decide +kernel
theorem dX0_diagonal_11 : decode cX0_diagonal 11 = .ok (.irem, 1) := by decide +kernel
theorem dX0_diagonal_12 : decode cX0_diagonal 12 = .ok (.iaload, 1) := by decide +kernel
theorem dX0_diagonal_13 : decode cX0_diagonal 13 = .ok (.ldc 52, 2) := by decide +kernel
theorem dX0_diagonal_15 : decode cX0_diagonal 15 = .ok (.iand, 1) := by decide +kernel
theorem dX0_diagonal_16 : decode cX0_diagonal 16 = .ok (.ior, 1) := by decide +kernel
theorem dX0_diagonal_17 : decode cX0_diagonal 17 = .ok (.aload_n 0, 1) := by decide +kernel
theorem dX0_diagonal_18 : decode cX0_diagonal 18 = .ok (.iload_n 1, 1) := by decide +kernel
theorem dX0_diagonal_19 : decode cX0_diagonal 19 = .ok (.iconst 2, 1) := by decide +kernel
theorem dX0_diagonal_20 : decode cX0_diagonal 20 = .ok (.iadd, 1) := by decide +kernel
theorem dX0_diagonal_21 : decode cX0_diagonal 21 = .ok (.iconst 4, 1) := by decide +kernel
theorem dX0_diagonal_22 : decode cX0_diagonal 22 = .ok (.irem, 1) := by decide +kernel
theorem dX0_diagonal_23 : decode cX0_diagonal 23 = .ok (.iaload, 1) := by decide +kernel
theorem dX0_diagonal_24 : decode cX0_diagonal 24 = .ok (.ldc 53, 2) := by decide +kernel
theorem dX0_diagonal_26 : decode cX0_diagonal 26 = .ok (.iand, 1) := by decide +kernel
theorem dX0_diagonal_27 : decode cX0_diagonal 27 = .ok (.ior, 1) := by decide +kernel
theorem dX0_diagonal_28 : decode cX0_diagonal 28 = .ok (.aload_n 0, 1) := by decide +kernel
theorem dX0_diagonal_29 : decode cX0_diagonal 29 = .ok (.iload_n 1, 1) := by decide +kernel
theorem dX0_diagonal_30 : decode cX0_diagonal 30 = .ok (.iconst 3, 1) := by decide +kernel
theorem dX0_diagonal_31 : decode cX0_diagonal 31 = .ok (.iadd, 1) := by decide +kernel
theorem dX0_diagonal_32 : decode cX0_diagonal 32 = .ok (.iconst 4, 1) := by decide +kernel
theorem dX0_diagonal_33 : decode cX0_diagonal 33 = .ok (.irem, 1) := by decide +kernel
theorem dX0_diagonal_34 : decode cX0_diagonal 34 = .ok (.iaload, 1) := by decide +kernel
theorem dX0_diagonal_35 : decode cX0_diagonal 35 = .ok (.sipush 255, 3) := by decide +kernel
theorem dX0_diagonal_38 : decode cX0_diagonal 38 = .ok (.iand, 1) := by decide +kernel
theorem dX0_diagonal_39 : decode cX0_diagonal 39 = .ok (.ior, 1) := by decide +kernel
theorem dX0_diagonal_40 : decode cX0_diagonal 40 = .ok (.ireturn, 1) := by decide +kernel
theorem dX0_substituted_0 : decode cX0_substituted 0 = .ok (.getstatic 54, 3) := by decide +kernel
theorem dX0_substituted_3 : decode cX0_substituted 3 = .ok (.iload_n 0, 1) := by decide +kernel
theorem dX0_substituted_4 : decode cX0_substituted 4 = .ok (.bipush 24, 2) := by decide +kernel
theorem dX0_substituted_6 : decode cX0_substituted 6 = .ok (.iushr, 1) := by decide +kernel
theorem dX0_substituted_7 : decode cX0_substituted 7 = .ok (.iaload, 1) := by decide +kernel
theorem dX0_substituted_8 : decode cX0_substituted 8 = .ok (.bipush 24, 2) := by decide +kernel
theorem dX0_substituted_10 : decode cX0_substituted 10 = .ok (.ishl, 1) := by decide +kernel
theorem dX0_substituted_11 : decode cX0_substituted 11 = .ok (.getstatic 54, 3) := by decide +kernel
theorem dX0_substituted_14 : decode cX0_substituted 14 = .ok (.iload_n 0, 1) := by decide +kernel
theorem dX0_substituted_15 : decode cX0_substituted 15 = .ok (.bipush 16, 2) := by decide +kernel
theorem dX0_substituted_17 : decode cX0_substituted 17 = .ok (.iushr, 1) := by decide +kernel
theorem dX0_substituted_18 : decode cX0_substituted 18 = .ok (.sipush 255, 3) := by decide +kernel
theorem dX0_substituted_21 : decode cX0_substituted 21 = .ok (.iand, 1) := by decide +kernel
theorem dX0_substituted_22 : decode cX0_substituted 22 = .ok (.iaload, 1) := by decide +kernel
theorem dX0_substituted_23 : decode cX0_substituted 23 = .ok (.bipush 16, 2) := by decide +kernel
theorem dX0_substituted_25 : decode cX0_substituted 25 = .ok (.ishl, 1) := by decide +kernel
theorem dX0_substituted_26 : decode cX0_substituted 26 = .ok (.ior, 1) := by decide +kernel
theorem dX0_substituted_27 : decode cX0_substituted 27 = .ok (.getstatic 54, 3) := by decide +kernel
theorem dX0_substituted_30 : decode cX0_substituted 30 = .ok (.iload_n 0, 1) := by decide +kernel
theorem dX0_substituted_31 : decode cX0_substituted 31 = .ok (.bipush 8, 2) := by decide +kernel
theorem dX0_substituted_33 : decode cX0_substituted 33 = .ok (.iushr, 1) := by decide +kernel
theorem dX0_substituted_34 : decode cX0_substituted 34 = .ok (.sipush 255, 3) := by decide +kernel
theorem dX0_substituted_37 : decode cX0_substituted 37 = .ok (.iand, 1) := by decide +kernel
theorem dX0_substituted_38 : decode cX0_substituted 38 = .ok (.iaload, 1) := by decide +kernel
theorem dX0_substituted_39 : decode cX0_substituted 39 = .ok (.bipush 8, 2) := by decide +kernel
theorem dX0_substituted_41 : decode cX0_substituted 41 = .ok (.ishl, 1) := by decide +kernel
theorem dX0_substituted_42 : decode cX0_substituted 42 = .ok (.ior, 1) := by decide +kernel
theorem dX0_substituted_43 : decode cX0_substituted 43 = .ok (.getstatic 54, 3) := by decide +kernel
theorem dX0_substituted_46 : decode cX0_substituted 46 = .ok (.iload_n 0, 1) := by decide +kernel
theorem dX0_substituted_47 : decode cX0_substituted 47 = .ok (.sipush 255, 3) := by decide +kernel
theorem dX0_substituted_50 : decode cX0_substituted 50 = .ok (.iand, 1) := by decide +kernel
theorem dX0_substituted_51 : decode cX0_substituted 51 = .ok (.iaload, 1) := by decide +kernel
theorem dX0_substituted_52 : decode cX0_substituted 52 = .ok (.ior, 1) := by decide +kernel
theorem dX0_substituted_53 : decode cX0_substituted 53 = .ok (.ireturn, 1) := by decide +kernel
set_option maxRecDepth 20000 in
theorem ggX0_mixed_X0_doubled : GoodIn wsX0_mixed wsX0_doubled := goodIn_r _ [4, 5, 6] (by decide +kernel) (by decide +kernel)
set_option maxRecDepth 20000 in
theorem gX0_mixed_X0_doubled : GoodIn wsX0_mixed (va_wsS RX0 41 yX0_doubled wsX0_doubled) := goodIn_app (goodIn_of _ (by decide +kernel)) ggX0_mixed_X0_doubled
set_option maxRecDepth 20000 in
theorem ggX0_mixed_X0_rotated : GoodIn wsX0_mixed wsX0_rotated := goodIn_r _ [9] (by decide +kernel) (by decide +kernel)
set_option maxRecDepth 20000 in
theorem gX0_mixed_X0_rotated : GoodIn wsX0_mixed (va_wsS RX0 34 yX0_rotated wsX0_rotated) := goodIn_app (goodIn_of _ (by decide +kernel)) ggX0_mixed_X0_rotated
theorem dX0_mixed_0 : decode cX0_mixed 0 = .ok (.iload_n 0, 1) := by decide +kernel
theorem dX0_mixed_1 : decode cX0_mixed 1 = .ok (.invokestatic 41, 3) := by decide +kernel
theorem dX0_mixed_4 : decode cX0_mixed 4 = .ok (.istore_n 1, 1) := by decide +kernel
theorem dX0_mixed_5 : decode cX0_mixed 5 = .ok (.iload_n 1, 1) := by decide +kernel
theorem dX0_mixed_6 : decode cX0_mixed 6 = .ok (.iload_n 1, 1) := by decide +kernel
theorem dX0_mixed_7 : decode cX0_mixed 7 = .ok (.iload_n 0, 1) := by decide +kernel
theorem dX0_mixed_8 : decode cX0_mixed 8 = .ok (.ixor, 1) := by decide +kernel
theorem dX0_mixed_9 : decode cX0_mixed 9 = .ok (.bipush 8, 2) := by decide +kernel
theorem dX0_mixed_11 : decode cX0_mixed 11 = .ok (.invokestatic 34, 3) := by decide +kernel
theorem dX0_mixed_14 : decode cX0_mixed 14 = .ok (.ixor, 1) := by decide +kernel
theorem dX0_mixed_15 : decode cX0_mixed 15 = .ok (.iload_n 0, 1) := by decide +kernel
theorem dX0_mixed_16 : decode cX0_mixed 16 = .ok (.bipush 16, 2) := by decide +kernel
theorem dX0_mixed_18 : decode cX0_mixed 18 = .ok (.invokestatic 34, 3) := by decide +kernel
theorem dX0_mixed_21 : decode cX0_mixed 21 = .ok (.ixor, 1) := by decide +kernel
theorem dX0_mixed_22 : decode cX0_mixed 22 = .ok (.iload_n 0, 1) := by decide +kernel
theorem dX0_mixed_23 : decode cX0_mixed 23 = .ok (.bipush 24, 2) := by decide +kernel
theorem dX0_mixed_25 : decode cX0_mixed 25 = .ok (.invokestatic 34, 3) := by decide +kernel
theorem dX0_mixed_28 : decode cX0_mixed 28 = .ok (.ixor, 1) := by decide +kernel
theorem dX0_mixed_29 : decode cX0_mixed 29 = .ok (.ireturn, 1) := by decide +kernel
theorem dX0_doubled_0 : decode cX0_doubled 0 = .ok (.iload_n 0, 1) := by decide +kernel
theorem dX0_doubled_1 : decode cX0_doubled 1 = .ok (.ldc 57, 2) := by decide +kernel
theorem dX0_doubled_3 : decode cX0_doubled 3 = .ok (.iand, 1) := by decide +kernel
theorem dX0_doubled_4 : decode cX0_doubled 4 = .ok (.iconst 1, 1) := by decide +kernel
theorem dX0_doubled_5 : decode cX0_doubled 5 = .ok (.ishl, 1) := by decide +kernel
theorem dX0_doubled_6 : decode cX0_doubled 6 = .ok (.iload_n 0, 1) := by decide +kernel
theorem dX0_doubled_7 : decode cX0_doubled 7 = .ok (.bipush 7, 2) := by decide +kernel
theorem dX0_doubled_9 : decode cX0_doubled 9 = .ok (.iushr, 1) := by decide +kernel
theorem dX0_doubled_10 : decode cX0_doubled 10 = .ok (.ldc 58, 2) := by decide +kernel
theorem dX0_doubled_12 : decode cX0_doubled 12 = .ok (.iand, 1) := by decide +kernel
theorem dX0_doubled_13 : decode cX0_doubled 13 = .ok (.bipush 27, 2) := by decide +kernel
theorem dX0_doubled_15 : decode cX0_doubled 15 = .ok (.imul, 1) := by decide +kernel
theorem dX0_doubled_16 : decode cX0_doubled 16 = .ok (.ixor, 1) := by decide +kernel
theorem dX0_doubled_17 : decode cX0_doubled 17 = .ok (.ireturn, 1) := by decide +kernel
theorem dX0_rotated_0 : decode cX0_rotated 0 = .ok (.iload_n 0, 1) := by decide +kernel
theorem dX0_rotated_1 : decode cX0_rotated 1 = .ok (.iload_n 1, 1) := by decide +kernel
theorem dX0_rotated_2 : decode cX0_rotated 2 = .ok (.ishl, 1) := by decide +kernel
theorem dX0_rotated_3 : decode cX0_rotated 3 = .ok (.iload_n 0, 1) := by decide +kernel
theorem dX0_rotated_4 : decode cX0_rotated 4 = .ok (.bipush 32, 2) := by decide +kernel
theorem dX0_rotated_6 : decode cX0_rotated 6 = .ok (.iload_n 1, 1) := by decide +kernel
theorem dX0_rotated_7 : decode cX0_rotated 7 = .ok (.isub, 1) := by decide +kernel
theorem dX0_rotated_8 : decode cX0_rotated 8 = .ok (.iushr, 1) := by decide +kernel
theorem dX0_rotated_9 : decode cX0_rotated 9 = .ok (.ior, 1) := by decide +kernel
theorem dX0_rotated_10 : decode cX0_rotated 10 = .ok (.ireturn, 1) := by decide +kernel
set_option maxRecDepth 20000 in
theorem ggX0_bytesTurned_X0_rotated : GoodIn wsX0_bytesTurned wsX0_rotated := goodIn_r _ [6] (by decide +kernel) (by decide +kernel)
set_option maxRecDepth 20000 in
theorem gX0_bytesTurned_X0_rotated : GoodIn wsX0_bytesTurned (va_wsS RX0 34 yX0_rotated wsX0_rotated) := goodIn_app (goodIn_of _ (by decide +kernel)) ggX0_bytesTurned_X0_rotated
theorem dX0_bytesTurned_0 : decode cX0_bytesTurned 0 = .ok (.iload_n 0, 1) := by decide +kernel
theorem dX0_bytesTurned_1 : decode cX0_bytesTurned 1 = .ok (.bipush 8, 2) := by decide +kernel
theorem dX0_bytesTurned_3 : decode cX0_bytesTurned 3 = .ok (.invokestatic 34, 3) := by decide +kernel
theorem dX0_bytesTurned_6 : decode cX0_bytesTurned 6 = .ok (.ldc 59, 2) := by decide +kernel
theorem dX0_bytesTurned_8 : decode cX0_bytesTurned 8 = .ok (.iand, 1) := by decide +kernel
theorem dX0_bytesTurned_9 : decode cX0_bytesTurned 9 = .ok (.iload_n 0, 1) := by decide +kernel
theorem dX0_bytesTurned_10 : decode cX0_bytesTurned 10 = .ok (.bipush 24, 2) := by decide +kernel
theorem dX0_bytesTurned_12 : decode cX0_bytesTurned 12 = .ok (.invokestatic 34, 3) := by decide +kernel
theorem dX0_bytesTurned_15 : decode cX0_bytesTurned 15 = .ok (.ldc 60, 2) := by decide +kernel
theorem dX0_bytesTurned_17 : decode cX0_bytesTurned 17 = .ok (.iand, 1) := by decide +kernel
theorem dX0_bytesTurned_18 : decode cX0_bytesTurned 18 = .ok (.ior, 1) := by decide +kernel
theorem dX0_bytesTurned_19 : decode cX0_bytesTurned 19 = .ok (.ireturn, 1) := by decide +kernel
theorem dX1_init_0 : decode cX1_init 0 = .ok (.aload_n 0, 1) := by decide +kernel
theorem dX1_init_1 : decode cX1_init 1 = .ok (.invokespecial 3, 3) := by decide +kernel
theorem dX1_init_4 : decode cX1_init 4 = .ok (.aload_n 0, 1) := by decide +kernel
theorem dX1_init_5 : decode cX1_init 5 = .ok (.bipush 64, 2) := by decide +kernel
theorem dX1_init_7 : decode cX1_init 7 = .ok (.newarray .int, 2) := by decide +kernel
theorem dX1_init_9 : decode cX1_init 9 = .ok (.putfield 9, 3) := by decide +kernel
theorem dX1_init_12 : decode cX1_init 12 = .ok (.return_, 1) := by decide +kernel
theorem dX1_takeAll_0 : decode cX1_takeAll 0 = .ok (.iconst 0, 1) := by decide +kernel
theorem dX1_takeAll_1 : decode cX1_takeAll 1 = .ok (.istore_n 2, 1) := by decide +kernel
theorem dX1_takeAll_2 : decode cX1_takeAll 2 = .ok (.iload_n 2, 1) := by decide +kernel
theorem dX1_takeAll_3 : decode cX1_takeAll 3 = .ok (.bipush 64, 2) := by decide +kernel
theorem dX1_takeAll_5 : decode cX1_takeAll 5 = .ok (.if_icmp .ge 33, 3) := by decide +kernel
theorem dX1_takeAll_8 : decode cX1_takeAll 8 = .ok (.aload_n 0, 1) := by decide +kernel
theorem dX1_takeAll_9 : decode cX1_takeAll 9 = .ok (.getfield 9, 3) := by decide +kernel
theorem dX1_takeAll_12 : decode cX1_takeAll 12 = .ok (.iload_n 2, 1) := by decide +kernel
theorem dX1_takeAll_13 : decode cX1_takeAll 13 = .ok (.iload_n 2, 1) := by decide +kernel
theorem dX1_takeAll_14 : decode cX1_takeAll 14 = .ok (.aload_n 1, 1) := by decide +kernel
theorem dX1_takeAll_15 : decode cX1_takeAll 15 = .ok (.getfield 15, 3) := by decide +kernel
theorem dX1_takeAll_18 : decode cX1_takeAll 18 = .ok (.if_icmp .ge 12, 3) := by decide +kernel
theorem dX1_takeAll_21 : decode cX1_takeAll 21 = .ok (.aload_n 1, 1) := by decide +kernel
theorem dX1_takeAll_22 : decode cX1_takeAll 22 = .ok (.getfield 9, 3) := by decide +kernel
theorem dX1_takeAll_25 : decode cX1_takeAll 25 = .ok (.iload_n 2, 1) := by decide +kernel
theorem dX1_takeAll_26 : decode cX1_takeAll 26 = .ok (.iaload, 1) := by decide +kernel
theorem dX1_takeAll_27 : decode cX1_takeAll 27 = .ok (.goto 4, 3) := by decide +kernel
theorem dX1_takeAll_30 : decode cX1_takeAll 30 = .ok (.iconst 0, 1) := by decide +kernel
theorem dX1_takeAll_31 : decode cX1_takeAll 31 = .ok (.iastore, 1) := by decide +kernel
theorem dX1_takeAll_32 : decode cX1_takeAll 32 = .ok (.iinc 2 1, 3) := by decide +kernel
theorem dX1_takeAll_35 : decode cX1_takeAll 35 = .ok (.goto (-33), 3) := by decide +kernel
theorem dX1_takeAll_38 : decode cX1_takeAll 38 = .ok (.aload_n 0, 1) := by decide +kernel
theorem dX1_takeAll_39 : decode cX1_takeAll 39 = .ok (.aload_n 1, 1) := by decide +kernel
theorem dX1_takeAll_40 : decode cX1_takeAll 40 = .ok (.getfield 15, 3) := by decide +kernel
theorem dX1_takeAll_43 : decode cX1_takeAll 43 = .ok (.putfield 15, 3) := by decide +kernel
theorem dX1_takeAll_46 : decode cX1_takeAll 46 = .ok (.aload_n 1, 1) := by decide +kernel
theorem dX1_takeAll_47 : decode cX1_takeAll 47 = .ok (.iconst 0, 1) := by decide +kernel
theorem dX1_takeAll_48 : decode cX1_takeAll 48 = .ok (.putfield 15, 3) := by decide +kernel
theorem dX1_takeAll_51 : decode cX1_takeAll 51 = .ok (.return_, 1) := by decide +kernel
theorem dX1_wordAt_0 : decode cX1_wordAt 0 = .ok (.iload_n 1, 1) := by decide +kernel
theorem dX1_wordAt_1 : decode cX1_wordAt 1 = .ok (.ifCond .lt 9, 3) := by decide +kernel
theorem dX1_wordAt_4 : decode cX1_wordAt 4 = .ok (.iload_n 1, 1) := by decide +kernel
theorem dX1_wordAt_5 : decode cX1_wordAt 5 = .ok (.bipush 16, 2) := by decide +kernel
theorem dX1_wordAt_7 : decode cX1_wordAt 7 = .ok (.if_icmp .lt 5, 3) := by decide +kernel
theorem dX1_wordAt_10 : decode cX1_wordAt 10 = .ok (.iconst 0, 1) := by decide +kernel
theorem dX1_wordAt_11 : decode cX1_wordAt 11 = .ok (.ireturn, 1) := by decide +kernel
theorem dX1_wordAt_12 : decode cX1_wordAt 12 = .ok (.iconst 4, 1) := by decide +kernel
theorem dX1_wordAt_13 : decode cX1_wordAt 13 = .ok (.iload_n 1, 1) := by decide +kernel
theorem dX1_wordAt_14 : decode cX1_wordAt 14 = .ok (.imul, 1) := by decide +kernel
theorem dX1_wordAt_15 : decode cX1_wordAt 15 = .ok (.istore_n 2, 1) := by decide +kernel
theorem dX1_wordAt_16 : decode cX1_wordAt 16 = .ok (.aload_n 0, 1) := by decide +kernel
theorem dX1_wordAt_17 : decode cX1_wordAt 17 = .ok (.getfield 9, 3) := by decide +kernel
theorem dX1_wordAt_20 : decode cX1_wordAt 20 = .ok (.iload_n 2, 1) := by decide +kernel
theorem dX1_wordAt_21 : decode cX1_wordAt 21 = .ok (.iaload, 1) := by decide +kernel
theorem dX1_wordAt_22 : decode cX1_wordAt 22 = .ok (.bipush 24, 2) := by decide +kernel
theorem dX1_wordAt_24 : decode cX1_wordAt 24 = .ok (.ishl, 1) := by decide +kernel
theorem dX1_wordAt_25 : decode cX1_wordAt 25 = .ok (.aload_n 0, 1) := by decide +kernel
theorem dX1_wordAt_26 : decode cX1_wordAt 26 = .ok (.getfield 9, 3) := by decide +kernel
theorem dX1_wordAt_29 : decode cX1_wordAt 29 = .ok (.iload_n 2, 1) := by decide +kernel
theorem dX1_wordAt_30 : decode cX1_wordAt 30 = .ok (.iconst 1, 1) := by decide +kernel
theorem dX1_wordAt_31 : decode cX1_wordAt 31 = .ok (.iadd, 1) := by decide +kernel
theorem dX1_wordAt_32 : decode cX1_wordAt 32 = .ok (.iaload, 1) := by decide +kernel
theorem dX1_wordAt_33 : decode cX1_wordAt 33 = .ok (.bipush 16, 2) := by decide +kernel
theorem dX1_wordAt_35 : decode cX1_wordAt 35 = .ok (.ishl, 1) := by decide +kernel
theorem dX1_wordAt_36 : decode cX1_wordAt 36 = .ok (.ior, 1) := by decide +kernel
theorem dX1_wordAt_37 : decode cX1_wordAt 37 = .ok (.aload_n 0, 1) := by decide +kernel
theorem dX1_wordAt_38 : decode cX1_wordAt 38 = .ok (.getfield 9, 3) := by decide +kernel
theorem dX1_wordAt_41 : decode cX1_wordAt 41 = .ok (.iload_n 2, 1) := by decide +kernel
theorem dX1_wordAt_42 : decode cX1_wordAt 42 = .ok (.iconst 2, 1) := by decide +kernel
theorem dX1_wordAt_43 : decode cX1_wordAt 43 = .ok (.iadd, 1) := by decide +kernel
theorem dX1_wordAt_44 : decode cX1_wordAt 44 = .ok (.iaload, 1) := by decide +kernel
theorem dX1_wordAt_45 : decode cX1_wordAt 45 = .ok (.bipush 8, 2) := by decide +kernel
theorem dX1_wordAt_47 : decode cX1_wordAt 47 = .ok (.ishl, 1) := by decide +kernel
theorem dX1_wordAt_48 : decode cX1_wordAt 48 = .ok (.ior, 1) := by decide +kernel
theorem dX1_wordAt_49 : decode cX1_wordAt 49 = .ok (.aload_n 0, 1) := by decide +kernel
theorem dX1_wordAt_50 : decode cX1_wordAt 50 = .ok (.getfield 9, 3) := by decide +kernel
theorem dX1_wordAt_53 : decode cX1_wordAt 53 = .ok (.iload_n 2, 1) := by decide +kernel
theorem dX1_wordAt_54 : decode cX1_wordAt 54 = .ok (.iconst 3, 1) := by decide +kernel
theorem dX1_wordAt_55 : decode cX1_wordAt 55 = .ok (.iadd, 1) := by decide +kernel
theorem dX1_wordAt_56 : decode cX1_wordAt 56 = .ok (.iaload, 1) := by decide +kernel
theorem dX1_wordAt_57 : decode cX1_wordAt 57 = .ok (.ior, 1) := by decide +kernel
theorem dX1_wordAt_58 : decode cX1_wordAt 58 = .ok (.ireturn, 1) := by decide +kernel
set_option maxRecDepth 20000 in
theorem ggX2_init_X6_init : GoodIn wsX2_init wsX6_init := goodIn_r _ [8, 9, 10, 11, 12, 13, 14, 15, 16, 17, 18, 1, 19, 20, 29, 30, 31, 21, 22, 23, 24, 25, 26, 27, 28, 32, 33, 34, 35] (by decide +kernel) (by decide +kernel)
set_option maxRecDepth 20000 in
theorem gX2_init_X6_init_n3 : GoodIn wsX2_init (wsX6_init) := ggX2_init_X6_init
theorem dX2_init_0 : decode cX2_init 0 = .ok (.aload_n 0, 1) := by decide +kernel
theorem dX2_init_1 : decode cX2_init 1 = .ok (.invokespecial 3, 3) := by decide +kernel
theorem dX2_init_4 : decode cX2_init 4 = .ok (.aload_n 0, 1) := by decide +kernel
theorem dX2_init_5 : decode cX2_init 5 = .ok (.bipush 8, 2) := by decide +kernel
theorem dX2_init_7 : decode cX2_init 7 = .ok (.newarray .int, 2) := by decide +kernel
theorem dX2_init_9 : decode cX2_init 9 = .ok (.putfield 11, 3) := by decide +kernel
theorem dX2_init_12 : decode cX2_init 12 = .ok (.aload_n 0, 1) := by decide +kernel
theorem dX2_init_13 : decode cX2_init 13 = .ok (.iconst 4, 1) := by decide +kernel
theorem dX2_init_14 : decode cX2_init 14 = .ok (.newarray .int, 2) := by decide +kernel
theorem dX2_init_16 : decode cX2_init 16 = .ok (.putfield 15, 3) := by decide +kernel
theorem dX2_init_19 : decode cX2_init 19 = .ok (.aload_n 0, 1) := by decide +kernel
theorem dX2_init_20 : decode cX2_init 20 = .ok (.iconst 4, 1) := by decide +kernel
theorem dX2_init_21 : decode cX2_init 21 = .ok (.newarray .int, 2) := by decide +kernel
theorem dX2_init_23 : decode cX2_init 23 = .ok (.putfield 18, 3) := by decide +kernel
theorem dX2_init_26 : decode cX2_init 26 = .ok (.aload_n 0, 1) := by decide +kernel
theorem dX2_init_27 : decode cX2_init 27 = .ok (.iconst 4, 1) := by decide +kernel
theorem dX2_init_28 : decode cX2_init 28 = .ok (.newarray .int, 2) := by decide +kernel
theorem dX2_init_30 : decode cX2_init 30 = .ok (.putfield 21, 3) := by decide +kernel
theorem dX2_init_33 : decode cX2_init 33 = .ok (.return_, 1) := by decide +kernel
theorem dX2_rounds_0 : decode cX2_rounds 0 = .ok (.bipush 10, 2) := by decide +kernel
theorem dX2_rounds_2 : decode cX2_rounds 2 = .ok (.ireturn, 1) := by decide +kernel
theorem dX2_firstHalf_0 : decode cX2_firstHalf 0 = .ok (.iload_n 1, 1) := by decide +kernel
theorem dX2_firstHalf_1 : decode cX2_firstHalf 1 = .ok (.iconst 2, 1) := by decide +kernel
theorem dX2_firstHalf_2 : decode cX2_firstHalf 2 = .ok (.idiv, 1) := by decide +kernel
theorem dX2_firstHalf_3 : decode cX2_firstHalf 3 = .ok (.ireturn, 1) := by decide +kernel
theorem dX2_lowestFirst_0 : decode cX2_lowestFirst 0 = .ok (.iconst 0, 1) := by decide +kernel
theorem dX2_lowestFirst_1 : decode cX2_lowestFirst 1 = .ok (.ireturn, 1) := by decide +kernel
theorem dX2_takes_0 : decode cX2_takes 0 = .ok (.iconst 1, 1) := by decide +kernel
theorem dX2_takes_1 : decode cX2_takes 1 = .ok (.ireturn, 1) := by decide +kernel
set_option maxRecDepth 20000 in
theorem ggX2_begin_X2_firstHalf : GoodIn wsX2_begin wsX2_firstHalf := goodIn_r _ [14] (by decide +kernel) (by decide +kernel)
set_option maxRecDepth 20000 in
theorem gX2_begin_X2_firstHalf : GoodIn wsX2_begin (wsV RX2 30 RX2 yX2_firstHalf wsX2_firstHalf) := goodIn_app (goodIn_of _ (by decide +kernel)) ggX2_begin_X2_firstHalf
set_option maxRecDepth 20000 in
theorem ggX2_begin_X4_widthOf : GoodIn wsX2_begin wsX4_widthOf := goodIn_r _ [19, 20, 21, 22, 23, 24, 25, 26, 27, 28, 29, 30, 31, 32, 33, 34, 35, 36, 37, 38, 39, 40, 41, 42, 43, 44, 45, 46, 47, 48, 84, 85, 86, 101, 102] (by decide +kernel) (by decide +kernel)
set_option maxRecDepth 20000 in
theorem gX2_begin_X4_widthOf : GoodIn wsX2_begin (wsV RX2 34 RX4 yX4_widthOf wsX4_widthOf) := goodIn_app (goodIn_of _ (by decide +kernel)) ggX2_begin_X4_widthOf
set_option maxRecDepth 20000 in
theorem ggX2_begin_X1_wordAt : GoodIn wsX2_begin wsX1_wordAt := goodIn_r _ [53, 54, 95, 96] (by decide +kernel) (by decide +kernel)
set_option maxRecDepth 20000 in
theorem gX2_begin_X1_wordAt : GoodIn wsX2_begin (wsV RX2 50 RX1 yX1_wordAt wsX1_wordAt) := goodIn_app (goodIn_of _ (by decide +kernel)) ggX2_begin_X1_wordAt
set_option maxRecDepth 20000 in
theorem ggX2_begin_X0_encipher : GoodIn wsX2_begin wsX0_encipher := goodIn_r _ [59, 60, 61, 62, 63, 64, 58, 65, 66, 67, 68, 69, 70, 71, 72, 73, 74, 75, 76, 77, 78, 79, 80, 81, 82, 83, 103, 104, 105] (by decide +kernel) (by decide +kernel)
set_option maxRecDepth 20000 in
theorem gX2_begin_X0_encipher : GoodIn wsX2_begin (wsV RX2 62 RX0 yX0_encipher wsX0_encipher) := goodIn_app (goodIn_of _ (by decide +kernel)) ggX2_begin_X0_encipher
theorem dX2_begin_0 : decode cX2_begin 0 = .ok (.aload_n 0, 1) := by decide +kernel
theorem dX2_begin_1 : decode cX2_begin 1 = .ok (.aload_n 1, 1) := by decide +kernel
theorem dX2_begin_2 : decode cX2_begin 2 = .ok (.getfield 24, 3) := by decide +kernel
theorem dX2_begin_5 : decode cX2_begin 5 = .ok (.invokevirtual 30, 3) := by decide +kernel
theorem dX2_begin_8 : decode cX2_begin 8 = .ok (.istore 4, 2) := by decide +kernel
theorem dX2_begin_10 : decode cX2_begin 10 = .ok (.aload_n 1, 1) := by decide +kernel
theorem dX2_begin_11 : decode cX2_begin 11 = .ok (.aload_n 1, 1) := by decide +kernel
theorem dX2_begin_12 : decode cX2_begin 12 = .ok (.getfield 24, 3) := by decide +kernel
theorem dX2_begin_15 : decode cX2_begin 15 = .ok (.iload 4, 2) := by decide +kernel
theorem dX2_begin_17 : decode cX2_begin 17 = .ok (.isub, 1) := by decide +kernel
theorem dX2_begin_18 : decode cX2_begin 18 = .ok (.aload_n 3, 1) := by decide +kernel
theorem dX2_begin_19 : decode cX2_begin 19 = .ok (.invokevirtual 34, 3) := by decide +kernel
theorem dX2_begin_22 : decode cX2_begin 22 = .ok (.istore 5, 2) := by decide +kernel
theorem dX2_begin_24 : decode cX2_begin 24 = .ok (.aload_n 0, 1) := by decide +kernel
theorem dX2_begin_25 : decode cX2_begin 25 = .ok (.iload 5, 2) := by decide +kernel
theorem dX2_begin_27 : decode cX2_begin 27 = .ok (.iconst 3, 1) := by decide +kernel
theorem dX2_begin_28 : decode cX2_begin 28 = .ok (.iadd, 1) := by decide +kernel
theorem dX2_begin_29 : decode cX2_begin 29 = .ok (.iconst 4, 1) := by decide +kernel
theorem dX2_begin_30 : decode cX2_begin 30 = .ok (.idiv, 1) := by decide +kernel
theorem dX2_begin_31 : decode cX2_begin 31 = .ok (.iconst 1, 1) := by decide +kernel
theorem dX2_begin_32 : decode cX2_begin 32 = .ok (.iadd, 1) := by decide +kernel
theorem dX2_begin_33 : decode cX2_begin 33 = .ok (.putfield 38, 3) := by decide +kernel
theorem dX2_begin_36 : decode cX2_begin 36 = .ok (.aload_n 0, 1) := by decide +kernel
theorem dX2_begin_37 : decode cX2_begin 37 = .ok (.aload_n 2, 1) := by decide +kernel
theorem dX2_begin_38 : decode cX2_begin 38 = .ok (.getfield 41, 3) := by decide +kernel
theorem dX2_begin_41 : decode cX2_begin 41 = .ok (.iconst 1, 1) := by decide +kernel
theorem dX2_begin_42 : decode cX2_begin 42 = .ok (.iadd, 1) := by decide +kernel
theorem dX2_begin_43 : decode cX2_begin 43 = .ok (.iload 5, 2) := by decide +kernel
theorem dX2_begin_45 : decode cX2_begin 45 = .ok (.iadd, 1) := by decide +kernel
theorem dX2_begin_46 : decode cX2_begin 46 = .ok (.bipush 16, 2) := by decide +kernel
theorem dX2_begin_48 : decode cX2_begin 48 = .ok (.iadd, 1) := by decide +kernel
theorem dX2_begin_49 : decode cX2_begin 49 = .ok (.iconst 1, 1) := by decide +kernel
theorem dX2_begin_50 : decode cX2_begin 50 = .ok (.isub, 1) := by decide +kernel
theorem dX2_begin_51 : decode cX2_begin 51 = .ok (.bipush 16, 2) := by decide +kernel
theorem dX2_begin_53 : decode cX2_begin 53 = .ok (.idiv, 1) := by decide +kernel
theorem dX2_begin_54 : decode cX2_begin 54 = .ok (.iconst 4, 1) := by decide +kernel
theorem dX2_begin_55 : decode cX2_begin 55 = .ok (.imul, 1) := by decide +kernel
theorem dX2_begin_56 : decode cX2_begin 56 = .ok (.putfield 44, 3) := by decide +kernel
theorem dX2_begin_59 : decode cX2_begin 59 = .ok (.aload_n 0, 1) := by decide +kernel
theorem dX2_begin_60 : decode cX2_begin 60 = .ok (.iconst 4, 1) := by decide +kernel
theorem dX2_begin_61 : decode cX2_begin 61 = .ok (.aload_n 0, 1) := by decide +kernel
theorem dX2_begin_62 : decode cX2_begin 62 = .ok (.getfield 44, 3) := by decide +kernel
theorem dX2_begin_65 : decode cX2_begin 65 = .ok (.imul, 1) := by decide +kernel
theorem dX2_begin_66 : decode cX2_begin 66 = .ok (.iload 5, 2) := by decide +kernel
theorem dX2_begin_68 : decode cX2_begin 68 = .ok (.isub, 1) := by decide +kernel
theorem dX2_begin_69 : decode cX2_begin 69 = .ok (.iconst 1, 1) := by decide +kernel
theorem dX2_begin_70 : decode cX2_begin 70 = .ok (.isub, 1) := by decide +kernel
theorem dX2_begin_71 : decode cX2_begin 71 = .ok (.putfield 47, 3) := by decide +kernel
theorem dX2_begin_74 : decode cX2_begin 74 = .ok (.iconst 0, 1) := by decide +kernel
theorem dX2_begin_75 : decode cX2_begin 75 = .ok (.istore 6, 2) := by decide +kernel
theorem dX2_begin_77 : decode cX2_begin 77 = .ok (.iload 6, 2) := by decide +kernel
theorem dX2_begin_79 : decode cX2_begin 79 = .ok (.bipush 8, 2) := by decide +kernel
theorem dX2_begin_81 : decode cX2_begin 81 = .ok (.if_icmp .ge 22, 3) := by decide +kernel
theorem dX2_begin_84 : decode cX2_begin 84 = .ok (.aload_n 0, 1) := by decide +kernel
theorem dX2_begin_85 : decode cX2_begin 85 = .ok (.getfield 11, 3) := by decide +kernel
theorem dX2_begin_88 : decode cX2_begin 88 = .ok (.iload 6, 2) := by decide +kernel
theorem dX2_begin_90 : decode cX2_begin 90 = .ok (.aload_n 2, 1) := by decide +kernel
theorem dX2_begin_91 : decode cX2_begin 91 = .ok (.iload 6, 2) := by decide +kernel
theorem dX2_begin_93 : decode cX2_begin 93 = .ok (.invokevirtual 50, 3) := by decide +kernel
theorem dX2_begin_96 : decode cX2_begin 96 = .ok (.iastore, 1) := by decide +kernel
theorem dX2_begin_97 : decode cX2_begin 97 = .ok (.iinc 6 1, 3) := by decide +kernel
theorem dX2_begin_100 : decode cX2_begin 100 = .ok (.goto (-23), 3) := by decide +kernel
theorem dX2_begin_103 : decode cX2_begin 103 = .ok (.aload_n 0, 1) := by decide +kernel
theorem dX2_begin_104 : decode cX2_begin 104 = .ok (.getfield 15, 3) := by decide +kernel
theorem dX2_begin_107 : decode cX2_begin 107 = .ok (.iconst 0, 1) := by decide +kernel
theorem dX2_begin_108 : decode cX2_begin 108 = .ok (.ldc 53, 2) := by decide +kernel
theorem dX2_begin_110 : decode cX2_begin 110 = .ok (.aload_n 1, 1) := by decide +kernel
theorem dX2_begin_111 : decode cX2_begin 111 = .ok (.getfield 54, 3) := by decide +kernel
theorem dX2_begin_114 : decode cX2_begin 114 = .ok (.bipush 16, 2) := by decide +kernel
theorem dX2_begin_116 : decode cX2_begin 116 = .ok (.iushr, 1) := by decide +kernel
theorem dX2_begin_117 : decode cX2_begin 117 = .ok (.ior, 1) := by decide +kernel
theorem dX2_begin_118 : decode cX2_begin 118 = .ok (.iastore, 1) := by decide +kernel
theorem dX2_begin_119 : decode cX2_begin 119 = .ok (.aload_n 0, 1) := by decide +kernel
theorem dX2_begin_120 : decode cX2_begin 120 = .ok (.getfield 15, 3) := by decide +kernel
theorem dX2_begin_123 : decode cX2_begin 123 = .ok (.iconst 1, 1) := by decide +kernel
theorem dX2_begin_124 : decode cX2_begin 124 = .ok (.aload_n 1, 1) := by decide +kernel
theorem dX2_begin_125 : decode cX2_begin 125 = .ok (.getfield 54, 3) := by decide +kernel
theorem dX2_begin_128 : decode cX2_begin 128 = .ok (.ldc 57, 2) := by decide +kernel
theorem dX2_begin_130 : decode cX2_begin 130 = .ok (.iand, 1) := by decide +kernel
theorem dX2_begin_131 : decode cX2_begin 131 = .ok (.bipush 16, 2) := by decide +kernel
theorem dX2_begin_133 : decode cX2_begin 133 = .ok (.ishl, 1) := by decide +kernel
theorem dX2_begin_134 : decode cX2_begin 134 = .ok (.sipush 2560, 3) := by decide +kernel
theorem dX2_begin_137 : decode cX2_begin 137 = .ok (.ior, 1) := by decide +kernel
theorem dX2_begin_138 : decode cX2_begin 138 = .ok (.iload 4, 2) := by decide +kernel
theorem dX2_begin_140 : decode cX2_begin 140 = .ok (.sipush 255, 3) := by decide +kernel
theorem dX2_begin_143 : decode cX2_begin 143 = .ok (.iand, 1) := by decide +kernel
theorem dX2_begin_144 : decode cX2_begin 144 = .ok (.ior, 1) := by decide +kernel
theorem dX2_begin_145 : decode cX2_begin 145 = .ok (.iastore, 1) := by decide +kernel
theorem dX2_begin_146 : decode cX2_begin 146 = .ok (.aload_n 0, 1) := by decide +kernel
theorem dX2_begin_147 : decode cX2_begin 147 = .ok (.getfield 15, 3) := by decide +kernel
theorem dX2_begin_150 : decode cX2_begin 150 = .ok (.iconst 2, 1) := by decide +kernel
theorem dX2_begin_151 : decode cX2_begin 151 = .ok (.aload_n 1, 1) := by decide +kernel
theorem dX2_begin_152 : decode cX2_begin 152 = .ok (.getfield 24, 3) := by decide +kernel
theorem dX2_begin_155 : decode cX2_begin 155 = .ok (.iastore, 1) := by decide +kernel
theorem dX2_begin_156 : decode cX2_begin 156 = .ok (.aload_n 0, 1) := by decide +kernel
theorem dX2_begin_157 : decode cX2_begin 157 = .ok (.getfield 15, 3) := by decide +kernel
theorem dX2_begin_160 : decode cX2_begin 160 = .ok (.iconst 3, 1) := by decide +kernel
theorem dX2_begin_161 : decode cX2_begin 161 = .ok (.aload_n 2, 1) := by decide +kernel
theorem dX2_begin_162 : decode cX2_begin 162 = .ok (.getfield 41, 3) := by decide +kernel
theorem dX2_begin_165 : decode cX2_begin 165 = .ok (.iastore, 1) := by decide +kernel
theorem dX2_begin_166 : decode cX2_begin 166 = .ok (.aload_n 0, 1) := by decide +kernel
theorem dX2_begin_167 : decode cX2_begin 167 = .ok (.getfield 58, 3) := by decide +kernel
theorem dX2_begin_170 : decode cX2_begin 170 = .ok (.aload_n 0, 1) := by decide +kernel
theorem dX2_begin_171 : decode cX2_begin 171 = .ok (.getfield 15, 3) := by decide +kernel
theorem dX2_begin_174 : decode cX2_begin 174 = .ok (.invokevirtual 62, 3) := by decide +kernel
theorem dX2_begin_177 : decode cX2_begin 177 = .ok (.return_, 1) := by decide +kernel
set_option maxRecDepth 20000 in
theorem ggX2_makeAddend_X2_chainInput : GoodIn wsX2_makeAddend wsX2_chainInput := goodIn_r _ [14, 15, 1, 3, 4, 5, 6, 16, 8, 9, 17, 18, 19, 13, 20, 21, 22, 23, 24, 25, 26, 27, 28, 29, 30, 31, 32, 33, 34, 35, 36, 37, 38, 39, 40, 41, 42, 43, 44, 45, 46, 47, 48, 49, 50, 51, 52, 53, 54, 55, 56, 57, 58, 75, 76, 77, 78, 79, 80, 81, 82, 83, 84, 85, 86, 87, 88, 89, 90, 91] rfl (by decide +kernel)
set_option maxRecDepth 20000 in
theorem gX2_makeAddend_X2_chainInput : GoodIn wsX2_makeAddend (wsV RX2 68 RX2 yX2_chainInput wsX2_chainInput) := goodIn_app (goodIn_of _ (by decide +kernel)) ggX2_makeAddend_X2_chainInput
set_option maxRecDepth 20000 in
theorem ggX2_makeAddend_X3_clear : GoodIn wsX2_makeAddend wsX3_clear := goodIn_r _ [62, 29, 28, 63, 64, 65, 66, 87, 88] (by decide +kernel) (by decide +kernel)
set_option maxRecDepth 20000 in
theorem gX2_makeAddend_X3_clear : GoodIn wsX2_makeAddend (wsV RX2 72 RX3 yX3_clear wsX3_clear) := goodIn_app (goodIn_of _ (by decide +kernel)) ggX2_makeAddend_X3_clear
set_option maxRecDepth 20000 in
theorem ggX2_makeAddend_X0_encipher : GoodIn wsX2_makeAddend wsX0_encipher := goodIn_r _ [34, 35, 36, 37, 38, 39, 33, 40, 41, 42, 43, 44, 45, 46, 47, 48, 49, 50, 51, 52, 53, 54, 55, 56, 57, 58, 89, 90, 91] (by decide +kernel) (by decide +kernel)
set_option maxRecDepth 20000 in
theorem gX2_makeAddend_X0_encipher : GoodIn wsX2_makeAddend (wsV RX2 62 RX0 yX0_encipher wsX0_encipher) := goodIn_app (goodIn_of _ (by decide +kernel)) ggX2_makeAddend_X0_encipher
set_option maxRecDepth 20000 in
theorem ggX2_makeAddend_X3_putWord : GoodIn wsX2_makeAddend wsX3_putWord := goodIn_r _ [70, 29, 28, 71, 72, 73, 74, 87, 88] (by decide +kernel) (by decide +kernel)
set_option maxRecDepth 20000 in
theorem gX2_makeAddend_X3_putWord : GoodIn wsX2_makeAddend (wsV RX2 83 RX3 yX3_putWord wsX3_putWord) := goodIn_app (goodIn_of _ (by decide +kernel)) ggX2_makeAddend_X3_putWord
theorem dX2_makeAddend_0 : decode cX2_makeAddend 0 = .ok (.aload_n 0, 1) := by decide +kernel
theorem dX2_makeAddend_1 : decode cX2_makeAddend 1 = .ok (.iload_n 1, 1) := by decide +kernel
theorem dX2_makeAddend_2 : decode cX2_makeAddend 2 = .ok (.aload_n 2, 1) := by decide +kernel
theorem dX2_makeAddend_3 : decode cX2_makeAddend 3 = .ok (.invokevirtual 68, 3) := by decide +kernel
theorem dX2_makeAddend_6 : decode cX2_makeAddend 6 = .ok (.aload_n 2, 1) := by decide +kernel
theorem dX2_makeAddend_7 : decode cX2_makeAddend 7 = .ok (.invokevirtual 72, 3) := by decide +kernel
theorem dX2_makeAddend_10 : decode cX2_makeAddend 10 = .ok (.aload_n 0, 1) := by decide +kernel
theorem dX2_makeAddend_11 : decode cX2_makeAddend 11 = .ok (.getfield 18, 3) := by decide +kernel
theorem dX2_makeAddend_14 : decode cX2_makeAddend 14 = .ok (.iconst 0, 1) := by decide +kernel
theorem dX2_makeAddend_15 : decode cX2_makeAddend 15 = .ok (.aload_n 0, 1) := by decide +kernel
theorem dX2_makeAddend_16 : decode cX2_makeAddend 16 = .ok (.getfield 21, 3) := by decide +kernel
theorem dX2_makeAddend_19 : decode cX2_makeAddend 19 = .ok (.iconst 0, 1) := by decide +kernel
theorem dX2_makeAddend_20 : decode cX2_makeAddend 20 = .ok (.iconst 4, 1) := by decide +kernel
theorem dX2_makeAddend_21 : decode cX2_makeAddend 21 = .ok (.invokestatic 77, 3) := by decide +kernel
theorem dX2_makeAddend_24 : decode cX2_makeAddend 24 = .ok (.iconst 0, 1) := by decide +kernel
theorem dX2_makeAddend_25 : decode cX2_makeAddend 25 = .ok (.istore_n 3, 1) := by decide +kernel
theorem dX2_makeAddend_26 : decode cX2_makeAddend 26 = .ok (.iload_n 3, 1) := by decide +kernel
theorem dX2_makeAddend_27 : decode cX2_makeAddend 27 = .ok (.aload_n 0, 1) := by decide +kernel
theorem dX2_makeAddend_28 : decode cX2_makeAddend 28 = .ok (.getfield 38, 3) := by decide +kernel
theorem dX2_makeAddend_31 : decode cX2_makeAddend 31 = .ok (.if_icmp .ge 76, 3) := by decide +kernel
theorem dX2_makeAddend_34 : decode cX2_makeAddend 34 = .ok (.iload_n 3, 1) := by decide +kernel
theorem dX2_makeAddend_35 : decode cX2_makeAddend 35 = .ok (.ifCond .le 46, 3) := by decide +kernel
theorem dX2_makeAddend_38 : decode cX2_makeAddend 38 = .ok (.iload_n 3, 1) := by decide +kernel
theorem dX2_makeAddend_39 : decode cX2_makeAddend 39 = .ok (.iconst 4, 1) := by decide +kernel
theorem dX2_makeAddend_40 : decode cX2_makeAddend 40 = .ok (.irem, 1) := by decide +kernel
theorem dX2_makeAddend_41 : decode cX2_makeAddend 41 = .ok (.ifCond .ne 40, 3) := by decide +kernel
theorem dX2_makeAddend_44 : decode cX2_makeAddend 44 = .ok (.aload_n 0, 1) := by decide +kernel
theorem dX2_makeAddend_45 : decode cX2_makeAddend 45 = .ok (.getfield 18, 3) := by decide +kernel
theorem dX2_makeAddend_48 : decode cX2_makeAddend 48 = .ok (.iconst 0, 1) := by decide +kernel
theorem dX2_makeAddend_49 : decode cX2_makeAddend 49 = .ok (.aload_n 0, 1) := by decide +kernel
theorem dX2_makeAddend_50 : decode cX2_makeAddend 50 = .ok (.getfield 21, 3) := by decide +kernel
theorem dX2_makeAddend_53 : decode cX2_makeAddend 53 = .ok (.iconst 0, 1) := by decide +kernel
theorem dX2_makeAddend_54 : decode cX2_makeAddend 54 = .ok (.iconst 4, 1) := by decide +kernel
theorem dX2_makeAddend_55 : decode cX2_makeAddend 55 = .ok (.invokestatic 77, 3) := by decide +kernel
theorem dX2_makeAddend_58 : decode cX2_makeAddend 58 = .ok (.aload_n 0, 1) := by decide +kernel
theorem dX2_makeAddend_59 : decode cX2_makeAddend 59 = .ok (.getfield 21, 3) := by decide +kernel
theorem dX2_makeAddend_62 : decode cX2_makeAddend 62 = .ok (.iconst 3, 1) := by decide +kernel
theorem dX2_makeAddend_63 : decode cX2_makeAddend 63 = .ok (.dup2, 1) := by decide +kernel
theorem dX2_makeAddend_64 : decode cX2_makeAddend 64 = .ok (.iaload, 1) := by decide +kernel
theorem dX2_makeAddend_65 : decode cX2_makeAddend 65 = .ok (.iload_n 3, 1) := by decide +kernel
theorem dX2_makeAddend_66 : decode cX2_makeAddend 66 = .ok (.iconst 4, 1) := by decide +kernel
theorem dX2_makeAddend_67 : decode cX2_makeAddend 67 = .ok (.idiv, 1) := by decide +kernel
theorem dX2_makeAddend_68 : decode cX2_makeAddend 68 = .ok (.ixor, 1) := by decide +kernel
theorem dX2_makeAddend_69 : decode cX2_makeAddend 69 = .ok (.iastore, 1) := by decide +kernel
theorem dX2_makeAddend_70 : decode cX2_makeAddend 70 = .ok (.aload_n 0, 1) := by decide +kernel
theorem dX2_makeAddend_71 : decode cX2_makeAddend 71 = .ok (.getfield 58, 3) := by decide +kernel
theorem dX2_makeAddend_74 : decode cX2_makeAddend 74 = .ok (.aload_n 0, 1) := by decide +kernel
theorem dX2_makeAddend_75 : decode cX2_makeAddend 75 = .ok (.getfield 21, 3) := by decide +kernel
theorem dX2_makeAddend_78 : decode cX2_makeAddend 78 = .ok (.invokevirtual 62, 3) := by decide +kernel
theorem dX2_makeAddend_81 : decode cX2_makeAddend 81 = .ok (.aload_n 2, 1) := by decide +kernel
theorem dX2_makeAddend_82 : decode cX2_makeAddend 82 = .ok (.aload_n 0, 1) := by decide +kernel
theorem dX2_makeAddend_83 : decode cX2_makeAddend 83 = .ok (.getfield 38, 3) := by decide +kernel
theorem dX2_makeAddend_86 : decode cX2_makeAddend 86 = .ok (.iconst 1, 1) := by decide +kernel
theorem dX2_makeAddend_87 : decode cX2_makeAddend 87 = .ok (.isub, 1) := by decide +kernel
theorem dX2_makeAddend_88 : decode cX2_makeAddend 88 = .ok (.iload_n 3, 1) := by decide +kernel
theorem dX2_makeAddend_89 : decode cX2_makeAddend 89 = .ok (.isub, 1) := by decide +kernel
theorem dX2_makeAddend_90 : decode cX2_makeAddend 90 = .ok (.aload_n 0, 1) := by decide +kernel
theorem dX2_makeAddend_91 : decode cX2_makeAddend 91 = .ok (.getfield 21, 3) := by decide +kernel
theorem dX2_makeAddend_94 : decode cX2_makeAddend 94 = .ok (.iload_n 3, 1) := by decide +kernel
theorem dX2_makeAddend_95 : decode cX2_makeAddend 95 = .ok (.iconst 4, 1) := by decide +kernel
theorem dX2_makeAddend_96 : decode cX2_makeAddend 96 = .ok (.irem, 1) := by decide +kernel
theorem dX2_makeAddend_97 : decode cX2_makeAddend 97 = .ok (.iaload, 1) := by decide +kernel
theorem dX2_makeAddend_98 : decode cX2_makeAddend 98 = .ok (.invokevirtual 83, 3) := by decide +kernel
theorem dX2_makeAddend_101 : decode cX2_makeAddend 101 = .ok (.iinc 3 1, 3) := by decide +kernel
theorem dX2_makeAddend_104 : decode cX2_makeAddend 104 = .ok (.goto (-78), 3) := by decide +kernel
theorem dX2_makeAddend_107 : decode cX2_makeAddend 107 = .ok (.return_, 1) := by decide +kernel
set_option maxRecDepth 20000 in
theorem ggX2_chainInput_X2_inputWord : GoodIn wsX2_chainInput wsX2_inputWord := goodIn_r _ [14, 7, 15, 16, 17, 18, 19, 20, 21, 22, 23, 53, 54, 55, 56, 57, 58, 59, 60, 65, 66] (by decide +kernel) (by decide +kernel)
set_option maxRecDepth 20000 in
theorem gX2_chainInput_X2_inputWord : GoodIn wsX2_chainInput (wsV RX2 87 RX2 yX2_inputWord wsX2_inputWord) := goodIn_app (goodIn_of _ (by decide +kernel)) ggX2_chainInput_X2_inputWord
set_option maxRecDepth 20000 in
theorem ggX2_chainInput_X0_encipher : GoodIn wsX2_chainInput wsX0_encipher := goodIn_r _ [28, 29, 30, 31, 32, 33, 27, 34, 35, 36, 37, 38, 39, 40, 41, 42, 43, 44, 45, 46, 47, 48, 49, 50, 51, 52, 67, 68, 69] (by decide +kernel) (by decide +kernel)
set_option maxRecDepth 20000 in
theorem gX2_chainInput_X0_encipher : GoodIn wsX2_chainInput (wsV RX2 62 RX0 yX0_encipher wsX0_encipher) := goodIn_app (goodIn_of _ (by decide +kernel)) ggX2_chainInput_X0_encipher
theorem dX2_chainInput_0 : decode cX2_chainInput 0 = .ok (.aload_n 0, 1) := by decide +kernel
theorem dX2_chainInput_1 : decode cX2_chainInput 1 = .ok (.getfield 15, 3) := by decide +kernel
theorem dX2_chainInput_4 : decode cX2_chainInput 4 = .ok (.iconst 0, 1) := by decide +kernel
theorem dX2_chainInput_5 : decode cX2_chainInput 5 = .ok (.aload_n 0, 1) := by decide +kernel
theorem dX2_chainInput_6 : decode cX2_chainInput 6 = .ok (.getfield 18, 3) := by decide +kernel
theorem dX2_chainInput_9 : decode cX2_chainInput 9 = .ok (.iconst 0, 1) := by decide +kernel
theorem dX2_chainInput_10 : decode cX2_chainInput 10 = .ok (.iconst 4, 1) := by decide +kernel
theorem dX2_chainInput_11 : decode cX2_chainInput 11 = .ok (.invokestatic 77, 3) := by decide +kernel
theorem dX2_chainInput_14 : decode cX2_chainInput 14 = .ok (.iconst 0, 1) := by decide +kernel
theorem dX2_chainInput_15 : decode cX2_chainInput 15 = .ok (.istore_n 3, 1) := by decide +kernel
theorem dX2_chainInput_16 : decode cX2_chainInput 16 = .ok (.iload_n 3, 1) := by decide +kernel
theorem dX2_chainInput_17 : decode cX2_chainInput 17 = .ok (.aload_n 0, 1) := by decide +kernel
theorem dX2_chainInput_18 : decode cX2_chainInput 18 = .ok (.getfield 44, 3) := by decide +kernel
theorem dX2_chainInput_21 : decode cX2_chainInput 21 = .ok (.if_icmp .ge 45, 3) := by decide +kernel
theorem dX2_chainInput_24 : decode cX2_chainInput 24 = .ok (.aload_n 0, 1) := by decide +kernel
theorem dX2_chainInput_25 : decode cX2_chainInput 25 = .ok (.getfield 18, 3) := by decide +kernel
theorem dX2_chainInput_28 : decode cX2_chainInput 28 = .ok (.iload_n 3, 1) := by decide +kernel
theorem dX2_chainInput_29 : decode cX2_chainInput 29 = .ok (.iconst 4, 1) := by decide +kernel
theorem dX2_chainInput_30 : decode cX2_chainInput 30 = .ok (.irem, 1) := by decide +kernel
theorem dX2_chainInput_31 : decode cX2_chainInput 31 = .ok (.dup2, 1) := by decide +kernel
theorem dX2_chainInput_32 : decode cX2_chainInput 32 = .ok (.iaload, 1) := by decide +kernel
theorem dX2_chainInput_33 : decode cX2_chainInput 33 = .ok (.aload_n 0, 1) := by decide +kernel
theorem dX2_chainInput_34 : decode cX2_chainInput 34 = .ok (.iload_n 3, 1) := by decide +kernel
theorem dX2_chainInput_35 : decode cX2_chainInput 35 = .ok (.iload_n 1, 1) := by decide +kernel
theorem dX2_chainInput_36 : decode cX2_chainInput 36 = .ok (.aload_n 2, 1) := by decide +kernel
theorem dX2_chainInput_37 : decode cX2_chainInput 37 = .ok (.invokevirtual 87, 3) := by decide +kernel
theorem dX2_chainInput_40 : decode cX2_chainInput 40 = .ok (.ixor, 1) := by decide +kernel
theorem dX2_chainInput_41 : decode cX2_chainInput 41 = .ok (.iastore, 1) := by decide +kernel
theorem dX2_chainInput_42 : decode cX2_chainInput 42 = .ok (.iload_n 3, 1) := by decide +kernel
theorem dX2_chainInput_43 : decode cX2_chainInput 43 = .ok (.iconst 4, 1) := by decide +kernel
theorem dX2_chainInput_44 : decode cX2_chainInput 44 = .ok (.irem, 1) := by decide +kernel
theorem dX2_chainInput_45 : decode cX2_chainInput 45 = .ok (.iconst 3, 1) := by decide +kernel
theorem dX2_chainInput_46 : decode cX2_chainInput 46 = .ok (.if_icmp .ne 14, 3) := by decide +kernel
theorem dX2_chainInput_49 : decode cX2_chainInput 49 = .ok (.aload_n 0, 1) := by decide +kernel
theorem dX2_chainInput_50 : decode cX2_chainInput 50 = .ok (.getfield 58, 3) := by decide +kernel
theorem dX2_chainInput_53 : decode cX2_chainInput 53 = .ok (.aload_n 0, 1) := by decide +kernel
theorem dX2_chainInput_54 : decode cX2_chainInput 54 = .ok (.getfield 18, 3) := by decide +kernel
theorem dX2_chainInput_57 : decode cX2_chainInput 57 = .ok (.invokevirtual 62, 3) := by decide +kernel
theorem dX2_chainInput_60 : decode cX2_chainInput 60 = .ok (.iinc 3 1, 3) := by decide +kernel
theorem dX2_chainInput_63 : decode cX2_chainInput 63 = .ok (.goto (-47), 3) := by decide +kernel
theorem dX2_chainInput_66 : decode cX2_chainInput 66 = .ok (.return_, 1) := by decide +kernel
set_option maxRecDepth 20000 in
theorem ggX2_inputWord_X3_wordAt : GoodIn wsX2_inputWord wsX3_wordAt := goodIn_r _ [8, 9, 10, 19, 20] (by decide +kernel) (by decide +kernel)
set_option maxRecDepth 20000 in
theorem gX2_inputWord_X3_wordAt : GoodIn wsX2_inputWord (wsV RX2 91 RX3 yX3_wordAt wsX3_wordAt) := goodIn_app (goodIn_of _ (by decide +kernel)) ggX2_inputWord_X3_wordAt
theorem dX2_inputWord_0 : decode cX2_inputWord 0 = .ok (.aload_n 3, 1) := by decide +kernel
theorem dX2_inputWord_1 : decode cX2_inputWord 1 = .ok (.aload_n 0, 1) := by decide +kernel
theorem dX2_inputWord_2 : decode cX2_inputWord 2 = .ok (.getfield 44, 3) := by decide +kernel
theorem dX2_inputWord_5 : decode cX2_inputWord 5 = .ok (.iconst 1, 1) := by decide +kernel
theorem dX2_inputWord_6 : decode cX2_inputWord 6 = .ok (.isub, 1) := by decide +kernel
theorem dX2_inputWord_7 : decode cX2_inputWord 7 = .ok (.iload_n 1, 1) := by decide +kernel
theorem dX2_inputWord_8 : decode cX2_inputWord 8 = .ok (.isub, 1) := by decide +kernel
theorem dX2_inputWord_9 : decode cX2_inputWord 9 = .ok (.invokevirtual 91, 3) := by decide +kernel
theorem dX2_inputWord_12 : decode cX2_inputWord 12 = .ok (.istore 4, 2) := by decide +kernel
theorem dX2_inputWord_14 : decode cX2_inputWord 14 = .ok (.iload_n 1, 1) := by decide +kernel
theorem dX2_inputWord_15 : decode cX2_inputWord 15 = .ok (.bipush 8, 2) := by decide +kernel
theorem dX2_inputWord_17 : decode cX2_inputWord 17 = .ok (.if_icmp .ge 14, 3) := by decide +kernel
theorem dX2_inputWord_20 : decode cX2_inputWord 20 = .ok (.iload 4, 2) := by decide +kernel
theorem dX2_inputWord_22 : decode cX2_inputWord 22 = .ok (.aload_n 0, 1) := by decide +kernel
theorem dX2_inputWord_23 : decode cX2_inputWord 23 = .ok (.getfield 11, 3) := by decide +kernel
theorem dX2_inputWord_26 : decode cX2_inputWord 26 = .ok (.iload_n 1, 1) := by decide +kernel
theorem dX2_inputWord_27 : decode cX2_inputWord 27 = .ok (.iaload, 1) := by decide +kernel
theorem dX2_inputWord_28 : decode cX2_inputWord 28 = .ok (.ior, 1) := by decide +kernel
theorem dX2_inputWord_29 : decode cX2_inputWord 29 = .ok (.istore 4, 2) := by decide +kernel
theorem dX2_inputWord_31 : decode cX2_inputWord 31 = .ok (.iload_n 1, 1) := by decide +kernel
theorem dX2_inputWord_32 : decode cX2_inputWord 32 = .ok (.aload_n 0, 1) := by decide +kernel
theorem dX2_inputWord_33 : decode cX2_inputWord 33 = .ok (.getfield 47, 3) := by decide +kernel
theorem dX2_inputWord_36 : decode cX2_inputWord 36 = .ok (.iconst 4, 1) := by decide +kernel
theorem dX2_inputWord_37 : decode cX2_inputWord 37 = .ok (.idiv, 1) := by decide +kernel
theorem dX2_inputWord_38 : decode cX2_inputWord 38 = .ok (.if_icmp .ne 22, 3) := by decide +kernel
theorem dX2_inputWord_41 : decode cX2_inputWord 41 = .ok (.iload 4, 2) := by decide +kernel
theorem dX2_inputWord_43 : decode cX2_inputWord 43 = .ok (.iload_n 2, 1) := by decide +kernel
theorem dX2_inputWord_44 : decode cX2_inputWord 44 = .ok (.bipush 24, 2) := by decide +kernel
theorem dX2_inputWord_46 : decode cX2_inputWord 46 = .ok (.bipush 8, 2) := by decide +kernel
theorem dX2_inputWord_48 : decode cX2_inputWord 48 = .ok (.aload_n 0, 1) := by decide +kernel
theorem dX2_inputWord_49 : decode cX2_inputWord 49 = .ok (.getfield 47, 3) := by decide +kernel
theorem dX2_inputWord_52 : decode cX2_inputWord 52 = .ok (.iconst 4, 1) := by decide +kernel
theorem dX2_inputWord_53 : decode cX2_inputWord 53 = .ok (.irem, 1) := by decide +kernel
theorem dX2_inputWord_54 : decode cX2_inputWord 54 = .ok (.imul, 1) := by decide +kernel
theorem dX2_inputWord_55 : decode cX2_inputWord 55 = .ok (.isub, 1) := by decide +kernel
theorem dX2_inputWord_56 : decode cX2_inputWord 56 = .ok (.ishl, 1) := by decide +kernel
theorem dX2_inputWord_57 : decode cX2_inputWord 57 = .ok (.ior, 1) := by decide +kernel
theorem dX2_inputWord_58 : decode cX2_inputWord 58 = .ok (.istore 4, 2) := by decide +kernel
theorem dX2_inputWord_60 : decode cX2_inputWord 60 = .ok (.iload 4, 2) := by decide +kernel
theorem dX2_inputWord_62 : decode cX2_inputWord 62 = .ok (.ireturn, 1) := by decide +kernel
theorem dX3_init_0 : decode cX3_init 0 = .ok (.aload_n 0, 1) := by decide +kernel
theorem dX3_init_1 : decode cX3_init 1 = .ok (.invokespecial 1, 3) := by decide +kernel
theorem dX3_init_4 : decode cX3_init 4 = .ok (.aload_n 0, 1) := by decide +kernel
theorem dX3_init_5 : decode cX3_init 5 = .ok (.bipush 17, 2) := by decide +kernel
theorem dX3_init_7 : decode cX3_init 7 = .ok (.newarray .int, 2) := by decide +kernel
theorem dX3_init_9 : decode cX3_init 9 = .ok (.putfield 9, 3) := by decide +kernel
theorem dX3_init_12 : decode cX3_init 12 = .ok (.return_, 1) := by decide +kernel
set_option maxRecDepth 20000 in
theorem ggX3_clear_J7_fill_53178 : GoodIn wsX3_clear wsJ7_fill_53178 := goodIn_r _ [6] (by decide +kernel) (by decide +kernel)
set_option maxRecDepth 20000 in
theorem gX3_clear_J7_fill_53178 : GoodIn wsX3_clear (va_wsS RX3 13 yJ7_fill_53178 wsJ7_fill_53178) := goodIn_app (goodIn_of _ (by decide +kernel)) ggX3_clear_J7_fill_53178
theorem dX3_clear_0 : decode cX3_clear 0 = .ok (.aload_n 0, 1) := by decide +kernel
theorem dX3_clear_1 : decode cX3_clear 1 = .ok (.getfield 9, 3) := by decide +kernel
theorem dX3_clear_4 : decode cX3_clear 4 = .ok (.iconst 0, 1) := by decide +kernel
theorem dX3_clear_5 : decode cX3_clear 5 = .ok (.invokestatic 13, 3) := by decide +kernel
theorem dX3_clear_8 : decode cX3_clear 8 = .ok (.aload_n 0, 1) := by decide +kernel
theorem dX3_clear_9 : decode cX3_clear 9 = .ok (.iconst 0, 1) := by decide +kernel
theorem dX3_clear_10 : decode cX3_clear 10 = .ok (.putfield 19, 3) := by decide +kernel
theorem dX3_clear_13 : decode cX3_clear 13 = .ok (.return_, 1) := by decide +kernel
theorem dX3_wordAt_0 : decode cX3_wordAt 0 = .ok (.iload_n 1, 1) := by decide +kernel
theorem dX3_wordAt_1 : decode cX3_wordAt 1 = .ok (.ifCond .lt 20, 3) := by decide +kernel
theorem dX3_wordAt_4 : decode cX3_wordAt 4 = .ok (.iload_n 1, 1) := by decide +kernel
theorem dX3_wordAt_5 : decode cX3_wordAt 5 = .ok (.aload_n 0, 1) := by decide +kernel
theorem dX3_wordAt_6 : decode cX3_wordAt 6 = .ok (.getfield 19, 3) := by decide +kernel
theorem dX3_wordAt_9 : decode cX3_wordAt 9 = .ok (.if_icmp .ge 12, 3) := by decide +kernel
theorem dX3_wordAt_12 : decode cX3_wordAt 12 = .ok (.aload_n 0, 1) := by decide +kernel
theorem dX3_wordAt_13 : decode cX3_wordAt 13 = .ok (.getfield 9, 3) := by decide +kernel
theorem dX3_wordAt_16 : decode cX3_wordAt 16 = .ok (.iload_n 1, 1) := by decide +kernel
theorem dX3_wordAt_17 : decode cX3_wordAt 17 = .ok (.iaload, 1) := by decide +kernel
theorem dX3_wordAt_18 : decode cX3_wordAt 18 = .ok (.goto 4, 3) := by decide +kernel
theorem dX3_wordAt_21 : decode cX3_wordAt 21 = .ok (.iconst 0, 1) := by decide +kernel
theorem dX3_wordAt_22 : decode cX3_wordAt 22 = .ok (.ireturn, 1) := by decide +kernel
theorem dX3_putWord_0 : decode cX3_putWord 0 = .ok (.iload_n 1, 1) := by decide +kernel
theorem dX3_putWord_1 : decode cX3_putWord 1 = .ok (.ifCond .lt 30, 3) := by decide +kernel
theorem dX3_putWord_4 : decode cX3_putWord 4 = .ok (.iload_n 1, 1) := by decide +kernel
theorem dX3_putWord_5 : decode cX3_putWord 5 = .ok (.bipush 17, 2) := by decide +kernel
theorem dX3_putWord_7 : decode cX3_putWord 7 = .ok (.if_icmp .ge 24, 3) := by decide +kernel
theorem dX3_putWord_10 : decode cX3_putWord 10 = .ok (.aload_n 0, 1) := by decide +kernel
theorem dX3_putWord_11 : decode cX3_putWord 11 = .ok (.getfield 9, 3) := by decide +kernel
theorem dX3_putWord_14 : decode cX3_putWord 14 = .ok (.iload_n 1, 1) := by decide +kernel
theorem dX3_putWord_15 : decode cX3_putWord 15 = .ok (.iload_n 2, 1) := by decide +kernel
theorem dX3_putWord_16 : decode cX3_putWord 16 = .ok (.iastore, 1) := by decide +kernel
theorem dX3_putWord_17 : decode cX3_putWord 17 = .ok (.aload_n 0, 1) := by decide +kernel
theorem dX3_putWord_18 : decode cX3_putWord 18 = .ok (.aload_n 0, 1) := by decide +kernel
theorem dX3_putWord_19 : decode cX3_putWord 19 = .ok (.getfield 19, 3) := by decide +kernel
theorem dX3_putWord_22 : decode cX3_putWord 22 = .ok (.iload_n 1, 1) := by decide +kernel
theorem dX3_putWord_23 : decode cX3_putWord 23 = .ok (.iconst 1, 1) := by decide +kernel
theorem dX3_putWord_24 : decode cX3_putWord 24 = .ok (.iadd, 1) := by decide +kernel
theorem dX3_putWord_25 : decode cX3_putWord 25 = .ok (.invokestatic 23, 3) := by decide +kernel
theorem dX3_putWord_28 : decode cX3_putWord 28 = .ok (.putfield 19, 3) := by decide +kernel
theorem dX3_putWord_31 : decode cX3_putWord 31 = .ok (.return_, 1) := by decide +kernel
set_option maxRecDepth 20000 in
theorem ggX3_multiplyAndAdd_X3_putWord : GoodIn wsX3_multiplyAndAdd wsX3_putWord := goodIn_r _ [8, 2, 1, 9, 10, 11, 12, 13, 14] (by decide +kernel) (by decide +kernel)
set_option maxRecDepth 20000 in
theorem gX3_multiplyAndAdd_X3_putWord : GoodIn wsX3_multiplyAndAdd (wsV RX3 31 RX3 yX3_putWord wsX3_putWord) := goodIn_app (goodIn_of _ (by decide +kernel)) ggX3_multiplyAndAdd_X3_putWord
theorem dX3_multiplyAndAdd_0 : decode cX3_multiplyAndAdd 0 = .ok (.iload_n 2, 1) := by decide +kernel
theorem dX3_multiplyAndAdd_1 : decode cX3_multiplyAndAdd 1 = .ok (.i2l, 1) := by decide +kernel
theorem dX3_multiplyAndAdd_2 : decode cX3_multiplyAndAdd 2 = .ok (.lstore_n 3, 1) := by decide +kernel
theorem dX3_multiplyAndAdd_3 : decode cX3_multiplyAndAdd 3 = .ok (.iconst 0, 1) := by decide +kernel
theorem dX3_multiplyAndAdd_4 : decode cX3_multiplyAndAdd 4 = .ok (.istore 5, 2) := by decide +kernel
theorem dX3_multiplyAndAdd_6 : decode cX3_multiplyAndAdd 6 = .ok (.iload 5, 2) := by decide +kernel
theorem dX3_multiplyAndAdd_8 : decode cX3_multiplyAndAdd 8 = .ok (.aload_n 0, 1) := by decide +kernel
theorem dX3_multiplyAndAdd_9 : decode cX3_multiplyAndAdd 9 = .ok (.getfield 19, 3) := by decide +kernel
theorem dX3_multiplyAndAdd_12 : decode cX3_multiplyAndAdd 12 = .ok (.if_icmp .ge 44, 3) := by decide +kernel
theorem dX3_multiplyAndAdd_15 : decode cX3_multiplyAndAdd 15 = .ok (.aload_n 0, 1) := by decide +kernel
theorem dX3_multiplyAndAdd_16 : decode cX3_multiplyAndAdd 16 = .ok (.getfield 9, 3) := by decide +kernel
theorem dX3_multiplyAndAdd_19 : decode cX3_multiplyAndAdd 19 = .ok (.iload 5, 2) := by decide +kernel
theorem dX3_multiplyAndAdd_21 : decode cX3_multiplyAndAdd 21 = .ok (.iaload, 1) := by decide +kernel
theorem dX3_multiplyAndAdd_22 : decode cX3_multiplyAndAdd 22 = .ok (.i2l, 1) := by decide +kernel
theorem dX3_multiplyAndAdd_23 : decode cX3_multiplyAndAdd 23 = .ok (.ldc2_w 29, 3) := by decide +kernel
theorem dX3_multiplyAndAdd_26 : decode cX3_multiplyAndAdd 26 = .ok (.land, 1) := by decide +kernel
theorem dX3_multiplyAndAdd_27 : decode cX3_multiplyAndAdd 27 = .ok (.iload_n 1, 1) := by decide +kernel
theorem dX3_multiplyAndAdd_28 : decode cX3_multiplyAndAdd 28 = .ok (.i2l, 1) := by decide +kernel
theorem dX3_multiplyAndAdd_29 : decode cX3_multiplyAndAdd 29 = .ok (.lmul, 1) := by decide +kernel
theorem dX3_multiplyAndAdd_30 : decode cX3_multiplyAndAdd 30 = .ok (.lload_n 3, 1) := by decide +kernel
theorem dX3_multiplyAndAdd_31 : decode cX3_multiplyAndAdd 31 = .ok (.ladd, 1) := by decide +kernel
theorem dX3_multiplyAndAdd_32 : decode cX3_multiplyAndAdd 32 = .ok (.lstore 6, 2) := by decide +kernel
theorem dX3_multiplyAndAdd_34 : decode cX3_multiplyAndAdd 34 = .ok (.aload_n 0, 1) := by decide +kernel
theorem dX3_multiplyAndAdd_35 : decode cX3_multiplyAndAdd 35 = .ok (.getfield 9, 3) := by decide +kernel
theorem dX3_multiplyAndAdd_38 : decode cX3_multiplyAndAdd 38 = .ok (.iload 5, 2) := by decide +kernel
theorem dX3_multiplyAndAdd_40 : decode cX3_multiplyAndAdd 40 = .ok (.lload 6, 2) := by decide +kernel
theorem dX3_multiplyAndAdd_42 : decode cX3_multiplyAndAdd 42 = .ok (.l2i, 1) := by decide +kernel
theorem dX3_multiplyAndAdd_43 : decode cX3_multiplyAndAdd 43 = .ok (.iastore, 1) := by decide +kernel
theorem dX3_multiplyAndAdd_44 : decode cX3_multiplyAndAdd 44 = .ok (.lload 6, 2) := by decide +kernel
theorem dX3_multiplyAndAdd_46 : decode cX3_multiplyAndAdd 46 = .ok (.bipush 32, 2) := by decide +kernel
theorem dX3_multiplyAndAdd_48 : decode cX3_multiplyAndAdd 48 = .ok (.lushr, 1) := by decide +kernel
theorem dX3_multiplyAndAdd_49 : decode cX3_multiplyAndAdd 49 = .ok (.lstore_n 3, 1) := by decide +kernel
theorem dX3_multiplyAndAdd_50 : decode cX3_multiplyAndAdd 50 = .ok (.iinc 5 1, 3) := by decide +kernel
theorem dX3_multiplyAndAdd_53 : decode cX3_multiplyAndAdd 53 = .ok (.goto (-47), 3) := by decide +kernel
theorem dX3_multiplyAndAdd_56 : decode cX3_multiplyAndAdd 56 = .ok (.lload_n 3, 1) := by decide +kernel
theorem dX3_multiplyAndAdd_57 : decode cX3_multiplyAndAdd 57 = .ok (.lconst 0, 1) := by decide +kernel
theorem dX3_multiplyAndAdd_58 : decode cX3_multiplyAndAdd 58 = .ok (.lcmp, 1) := by decide +kernel
theorem dX3_multiplyAndAdd_59 : decode cX3_multiplyAndAdd 59 = .ok (.ifCond .eq 13, 3) := by decide +kernel
theorem dX3_multiplyAndAdd_62 : decode cX3_multiplyAndAdd 62 = .ok (.aload_n 0, 1) := by decide +kernel
theorem dX3_multiplyAndAdd_63 : decode cX3_multiplyAndAdd 63 = .ok (.aload_n 0, 1) := by decide +kernel
theorem dX3_multiplyAndAdd_64 : decode cX3_multiplyAndAdd 64 = .ok (.getfield 19, 3) := by decide +kernel
theorem dX3_multiplyAndAdd_67 : decode cX3_multiplyAndAdd 67 = .ok (.lload_n 3, 1) := by decide +kernel
theorem dX3_multiplyAndAdd_68 : decode cX3_multiplyAndAdd 68 = .ok (.l2i, 1) := by decide +kernel
theorem dX3_multiplyAndAdd_69 : decode cX3_multiplyAndAdd 69 = .ok (.invokevirtual 31, 3) := by decide +kernel
theorem dX3_multiplyAndAdd_72 : decode cX3_multiplyAndAdd 72 = .ok (.return_, 1) := by decide +kernel
theorem dX3_divide_0 : decode cX3_divide 0 = .ok (.iload_n 1, 1) := by decide +kernel
theorem dX3_divide_1 : decode cX3_divide 1 = .ok (.iconst 2, 1) := by decide +kernel
theorem dX3_divide_2 : decode cX3_divide 2 = .ok (.if_icmp .ge 5, 3) := by decide +kernel
theorem dX3_divide_5 : decode cX3_divide 5 = .ok (.iconst 0, 1) := by decide +kernel
theorem dX3_divide_6 : decode cX3_divide 6 = .ok (.ireturn, 1) := by decide +kernel
theorem dX3_divide_7 : decode cX3_divide 7 = .ok (.lconst 0, 1) := by decide +kernel
theorem dX3_divide_8 : decode cX3_divide 8 = .ok (.lstore_n 2, 1) := by decide +kernel
theorem dX3_divide_9 : decode cX3_divide 9 = .ok (.aload_n 0, 1) := by decide +kernel
theorem dX3_divide_10 : decode cX3_divide 10 = .ok (.getfield 19, 3) := by decide +kernel
theorem dX3_divide_13 : decode cX3_divide 13 = .ok (.iconst 1, 1) := by decide +kernel
theorem dX3_divide_14 : decode cX3_divide 14 = .ok (.isub, 1) := by decide +kernel
theorem dX3_divide_15 : decode cX3_divide 15 = .ok (.istore 4, 2) := by decide +kernel
theorem dX3_divide_17 : decode cX3_divide 17 = .ok (.iload 4, 2) := by decide +kernel
theorem dX3_divide_19 : decode cX3_divide 19 = .ok (.ifCond .lt 47, 3) := by decide +kernel
theorem dX3_divide_22 : decode cX3_divide 22 = .ok (.lload_n 2, 1) := by decide +kernel
theorem dX3_divide_23 : decode cX3_divide 23 = .ok (.bipush 32, 2) := by decide +kernel
theorem dX3_divide_25 : decode cX3_divide 25 = .ok (.lshl, 1) := by decide +kernel
theorem dX3_divide_26 : decode cX3_divide 26 = .ok (.aload_n 0, 1) := by decide +kernel
theorem dX3_divide_27 : decode cX3_divide 27 = .ok (.getfield 9, 3) := by decide +kernel
theorem dX3_divide_30 : decode cX3_divide 30 = .ok (.iload 4, 2) := by decide +kernel
theorem dX3_divide_32 : decode cX3_divide 32 = .ok (.iaload, 1) := by decide +kernel
theorem dX3_divide_33 : decode cX3_divide 33 = .ok (.i2l, 1) := by decide +kernel
theorem dX3_divide_34 : decode cX3_divide 34 = .ok (.ldc2_w 29, 3) := by decide +kernel
theorem dX3_divide_37 : decode cX3_divide 37 = .ok (.land, 1) := by decide +kernel
theorem dX3_divide_38 : decode cX3_divide 38 = .ok (.lor, 1) := by decide +kernel
theorem dX3_divide_39 : decode cX3_divide 39 = .ok (.lstore 5, 2) := by decide +kernel
theorem dX3_divide_41 : decode cX3_divide 41 = .ok (.aload_n 0, 1) := by decide +kernel
theorem dX3_divide_42 : decode cX3_divide 42 = .ok (.getfield 9, 3) := by decide +kernel
theorem dX3_divide_45 : decode cX3_divide 45 = .ok (.iload 4, 2) := by decide +kernel
theorem dX3_divide_47 : decode cX3_divide 47 = .ok (.lload 5, 2) := by decide +kernel
theorem dX3_divide_49 : decode cX3_divide 49 = .ok (.iload_n 1, 1) := by decide +kernel
theorem dX3_divide_50 : decode cX3_divide 50 = .ok (.i2l, 1) := by decide +kernel
theorem dX3_divide_51 : decode cX3_divide 51 = .ok (.ldiv, 1) := by decide +kernel
theorem dX3_divide_52 : decode cX3_divide 52 = .ok (.l2i, 1) := by decide +kernel
theorem dX3_divide_53 : decode cX3_divide 53 = .ok (.iastore, 1) := by decide +kernel
theorem dX3_divide_54 : decode cX3_divide 54 = .ok (.lload 5, 2) := by decide +kernel
theorem dX3_divide_56 : decode cX3_divide 56 = .ok (.iload_n 1, 1) := by decide +kernel
theorem dX3_divide_57 : decode cX3_divide 57 = .ok (.i2l, 1) := by decide +kernel
theorem dX3_divide_58 : decode cX3_divide 58 = .ok (.lrem, 1) := by decide +kernel
theorem dX3_divide_59 : decode cX3_divide 59 = .ok (.lstore_n 2, 1) := by decide +kernel
theorem dX3_divide_60 : decode cX3_divide 60 = .ok (.iinc 4 (-1), 3) := by decide +kernel
theorem dX3_divide_63 : decode cX3_divide 63 = .ok (.goto (-46), 3) := by decide +kernel
theorem dX3_divide_66 : decode cX3_divide 66 = .ok (.aload_n 0, 1) := by decide +kernel
theorem dX3_divide_67 : decode cX3_divide 67 = .ok (.getfield 19, 3) := by decide +kernel
theorem dX3_divide_70 : decode cX3_divide 70 = .ok (.ifCond .le 30, 3) := by decide +kernel
theorem dX3_divide_73 : decode cX3_divide 73 = .ok (.aload_n 0, 1) := by decide +kernel
theorem dX3_divide_74 : decode cX3_divide 74 = .ok (.getfield 9, 3) := by decide +kernel
theorem dX3_divide_77 : decode cX3_divide 77 = .ok (.aload_n 0, 1) := by decide +kernel
theorem dX3_divide_78 : decode cX3_divide 78 = .ok (.getfield 19, 3) := by decide +kernel
theorem dX3_divide_81 : decode cX3_divide 81 = .ok (.iconst 1, 1) := by decide +kernel
theorem dX3_divide_82 : decode cX3_divide 82 = .ok (.isub, 1) := by decide +kernel
theorem dX3_divide_83 : decode cX3_divide 83 = .ok (.iaload, 1) := by decide +kernel
theorem dX3_divide_84 : decode cX3_divide 84 = .ok (.ifCond .ne 16, 3) := by decide +kernel
theorem dX3_divide_87 : decode cX3_divide 87 = .ok (.aload_n 0, 1) := by decide +kernel
theorem dX3_divide_88 : decode cX3_divide 88 = .ok (.dup, 1) := by decide +kernel
theorem dX3_divide_89 : decode cX3_divide 89 = .ok (.getfield 19, 3) := by decide +kernel
theorem dX3_divide_92 : decode cX3_divide 92 = .ok (.iconst 1, 1) := by decide +kernel
theorem dX3_divide_93 : decode cX3_divide 93 = .ok (.isub, 1) := by decide +kernel
theorem dX3_divide_94 : decode cX3_divide 94 = .ok (.putfield 19, 3) := by decide +kernel
theorem dX3_divide_97 : decode cX3_divide 97 = .ok (.goto (-31), 3) := by decide +kernel
theorem dX3_divide_100 : decode cX3_divide 100 = .ok (.lload_n 2, 1) := by decide +kernel
theorem dX3_divide_101 : decode cX3_divide 101 = .ok (.l2i, 1) := by decide +kernel
theorem dX3_divide_102 : decode cX3_divide 102 = .ok (.ireturn, 1) := by decide +kernel
theorem dX3_byteCount_0 : decode cX3_byteCount 0 = .ok (.aload_n 0, 1) := by decide +kernel
theorem dX3_byteCount_1 : decode cX3_byteCount 1 = .ok (.getfield 19, 3) := by decide +kernel
theorem dX3_byteCount_4 : decode cX3_byteCount 4 = .ok (.ifCond .ne 5, 3) := by decide +kernel
theorem dX3_byteCount_7 : decode cX3_byteCount 7 = .ok (.iconst 0, 1) := by decide +kernel
theorem dX3_byteCount_8 : decode cX3_byteCount 8 = .ok (.ireturn, 1) := by decide +kernel
theorem dX3_byteCount_9 : decode cX3_byteCount 9 = .ok (.aload_n 0, 1) := by decide +kernel
theorem dX3_byteCount_10 : decode cX3_byteCount 10 = .ok (.getfield 9, 3) := by decide +kernel
theorem dX3_byteCount_13 : decode cX3_byteCount 13 = .ok (.aload_n 0, 1) := by decide +kernel
theorem dX3_byteCount_14 : decode cX3_byteCount 14 = .ok (.getfield 19, 3) := by decide +kernel
theorem dX3_byteCount_17 : decode cX3_byteCount 17 = .ok (.iconst 1, 1) := by decide +kernel
theorem dX3_byteCount_18 : decode cX3_byteCount 18 = .ok (.isub, 1) := by decide +kernel
theorem dX3_byteCount_19 : decode cX3_byteCount 19 = .ok (.iaload, 1) := by decide +kernel
theorem dX3_byteCount_20 : decode cX3_byteCount 20 = .ok (.istore_n 1, 1) := by decide +kernel
theorem dX3_byteCount_21 : decode cX3_byteCount 21 = .ok (.iload_n 1, 1) := by decide +kernel
theorem dX3_byteCount_22 : decode cX3_byteCount 22 = .ok (.bipush 24, 2) := by decide +kernel
theorem dX3_byteCount_24 : decode cX3_byteCount 24 = .ok (.iushr, 1) := by decide +kernel
theorem dX3_byteCount_25 : decode cX3_byteCount 25 = .ok (.ifCond .eq 7, 3) := by decide +kernel
theorem dX3_byteCount_28 : decode cX3_byteCount 28 = .ok (.iconst 4, 1) := by decide +kernel
theorem dX3_byteCount_29 : decode cX3_byteCount 29 = .ok (.goto 26, 3) := by decide +kernel
theorem dX3_byteCount_32 : decode cX3_byteCount 32 = .ok (.iload_n 1, 1) := by decide +kernel
theorem dX3_byteCount_33 : decode cX3_byteCount 33 = .ok (.bipush 16, 2) := by decide +kernel
theorem dX3_byteCount_35 : decode cX3_byteCount 35 = .ok (.iushr, 1) := by decide +kernel
theorem dX3_byteCount_36 : decode cX3_byteCount 36 = .ok (.ifCond .eq 7, 3) := by decide +kernel
theorem dX3_byteCount_39 : decode cX3_byteCount 39 = .ok (.iconst 3, 1) := by decide +kernel
theorem dX3_byteCount_40 : decode cX3_byteCount 40 = .ok (.goto 15, 3) := by decide +kernel
theorem dX3_byteCount_43 : decode cX3_byteCount 43 = .ok (.iload_n 1, 1) := by decide +kernel
theorem dX3_byteCount_44 : decode cX3_byteCount 44 = .ok (.bipush 8, 2) := by decide +kernel
theorem dX3_byteCount_46 : decode cX3_byteCount 46 = .ok (.iushr, 1) := by decide +kernel
theorem dX3_byteCount_47 : decode cX3_byteCount 47 = .ok (.ifCond .eq 7, 3) := by decide +kernel
theorem dX3_byteCount_50 : decode cX3_byteCount 50 = .ok (.iconst 2, 1) := by decide +kernel
theorem dX3_byteCount_51 : decode cX3_byteCount 51 = .ok (.goto 4, 3) := by decide +kernel
theorem dX3_byteCount_54 : decode cX3_byteCount 54 = .ok (.iconst 1, 1) := by decide +kernel
theorem dX3_byteCount_55 : decode cX3_byteCount 55 = .ok (.istore_n 2, 1) := by decide +kernel
theorem dX3_byteCount_56 : decode cX3_byteCount 56 = .ok (.iconst 4, 1) := by decide +kernel
theorem dX3_byteCount_57 : decode cX3_byteCount 57 = .ok (.aload_n 0, 1) := by decide +kernel
theorem dX3_byteCount_58 : decode cX3_byteCount 58 = .ok (.getfield 19, 3) := by decide +kernel
theorem dX3_byteCount_61 : decode cX3_byteCount 61 = .ok (.iconst 1, 1) := by decide +kernel
theorem dX3_byteCount_62 : decode cX3_byteCount 62 = .ok (.isub, 1) := by decide +kernel
theorem dX3_byteCount_63 : decode cX3_byteCount 63 = .ok (.imul, 1) := by decide +kernel
theorem dX3_byteCount_64 : decode cX3_byteCount 64 = .ok (.iload_n 2, 1) := by decide +kernel
theorem dX3_byteCount_65 : decode cX3_byteCount 65 = .ok (.iadd, 1) := by decide +kernel
theorem dX3_byteCount_66 : decode cX3_byteCount 66 = .ok (.ireturn, 1) := by decide +kernel
theorem dX4_init_0 : decode cX4_init 0 = .ok (.aload_n 0, 1) := by decide +kernel
theorem dX4_init_1 : decode cX4_init 1 = .ok (.invokespecial 3, 3) := by decide +kernel
theorem dX4_init_4 : decode cX4_init 4 = .ok (.aload_n 0, 1) := by decide +kernel
theorem dX4_init_5 : decode cX4_init 5 = .ok (.bipush 64, 2) := by decide +kernel
theorem dX4_init_7 : decode cX4_init 7 = .ok (.newarray .int, 2) := by decide +kernel
theorem dX4_init_9 : decode cX4_init 9 = .ok (.putfield 9, 3) := by decide +kernel
theorem dX4_init_12 : decode cX4_init 12 = .ok (.aload_n 0, 1) := by decide +kernel
theorem dX4_init_13 : decode cX4_init 13 = .ok (.bipush 10, 2) := by decide +kernel
theorem dX4_init_15 : decode cX4_init 15 = .ok (.putfield 15, 3) := by decide +kernel
theorem dX4_init_18 : decode cX4_init 18 = .ok (.return_, 1) := by decide +kernel
theorem dX4_has_0 : decode cX4_has 0 = .ok (.iload_n 1, 1) := by decide +kernel
theorem dX4_has_1 : decode cX4_has 1 = .ok (.ifCond .lt 15, 3) := by decide +kernel
theorem dX4_has_4 : decode cX4_has 4 = .ok (.iload_n 1, 1) := by decide +kernel
theorem dX4_has_5 : decode cX4_has 5 = .ok (.aload_n 0, 1) := by decide +kernel
theorem dX4_has_6 : decode cX4_has 6 = .ok (.getfield 19, 3) := by decide +kernel
theorem dX4_has_9 : decode cX4_has 9 = .ok (.if_icmp .ge 7, 3) := by decide +kernel
theorem dX4_has_12 : decode cX4_has 12 = .ok (.iconst 1, 1) := by decide +kernel
theorem dX4_has_13 : decode cX4_has 13 = .ok (.goto 4, 3) := by decide +kernel
theorem dX4_has_16 : decode cX4_has 16 = .ok (.iconst 0, 1) := by decide +kernel
theorem dX4_has_17 : decode cX4_has 17 = .ok (.ireturn, 1) := by decide +kernel
theorem dX4_isNumeral_0 : decode cX4_isNumeral 0 = .ok (.iload_n 1, 1) := by decide +kernel
theorem dX4_isNumeral_1 : decode cX4_isNumeral 1 = .ok (.ifCond .lt 15, 3) := by decide +kernel
