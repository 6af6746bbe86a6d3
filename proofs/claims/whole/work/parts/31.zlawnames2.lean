theorem inlX0 : ∀ w ∈ wsX00, w ∈ wsL_law := fun _ h => List.mem_append_left _ (List.mem_append_left _ (List.mem_append_left _ (List.mem_append_left _ (List.mem_append_left _ (List.mem_append_right _ h)))))
theorem inX0 : ∀ w ∈ wsX00, w ∈ lw_tbl := fun w h => wsL_law_in w (inlX0 w h)
theorem inlX1 : ∀ w ∈ wsX10, w ∈ wsL_law := fun _ h => List.mem_append_left _ (List.mem_append_left _ (List.mem_append_left _ (List.mem_append_left _ (List.mem_append_left _ (List.mem_append_left _ (List.mem_append_left _ (List.mem_append_left _ (List.mem_append_left _ (List.mem_append_left _ (List.mem_append_right _ h))))))))))
theorem inX1 : ∀ w ∈ wsX10, w ∈ lw_tbl := fun w h => wsL_law_in w (inlX1 w h)
theorem inlX2 : ∀ w ∈ wsX20, w ∈ wsL_law := fun _ h => List.mem_append_left _ (List.mem_append_left _ (List.mem_append_left _ (List.mem_append_left _ (List.mem_append_left _ (List.mem_append_left _ (List.mem_append_left _ (List.mem_append_left _ (List.mem_append_right _ h))))))))
theorem inX2 : ∀ w ∈ wsX20, w ∈ lw_tbl := fun w h => wsL_law_in w (inlX2 w h)
theorem inlX3 : ∀ w ∈ wsX30, w ∈ wsL_law := fun _ h => List.mem_append_left _ (List.mem_append_left _ (List.mem_append_left _ (List.mem_append_left _ (List.mem_append_left _ (List.mem_append_left _ (List.mem_append_right _ h))))))
theorem inX3 : ∀ w ∈ wsX30, w ∈ lw_tbl := fun w h => wsL_law_in w (inlX3 w h)
theorem inlX4 : ∀ w ∈ wsX40, w ∈ wsL_law := fun _ h => List.mem_append_left _ (List.mem_append_left _ (List.mem_append_left _ (List.mem_append_left _ (List.mem_append_left _ (List.mem_append_left _ (List.mem_append_left _ (List.mem_append_left _ (List.mem_append_left _ (List.mem_append_right _ h)))))))))
theorem inX4 : ∀ w ∈ wsX40, w ∈ lw_tbl := fun w h => wsL_law_in w (inlX4 w h)
theorem inlX5 : ∀ w ∈ wsX50, w ∈ wsL_law := fun _ h => List.mem_append_left _ (List.mem_append_left _ (List.mem_append_left _ (List.mem_append_left _ (List.mem_append_left _ (List.mem_append_left _ (List.mem_append_left _ (List.mem_append_right _ h)))))))
theorem inX5 : ∀ w ∈ wsX50, w ∈ lw_tbl := fun w h => wsL_law_in w (inlX5 w h)
theorem inX6 : ∀ w ∈ wsX60, w ∈ lw_tbl := by decide +kernel
theorem inlX7 : ∀ w ∈ wsX70, w ∈ wsL_law := fun _ h => List.mem_append_left _ (List.mem_append_left _ (List.mem_append_left _ (List.mem_append_left _ (List.mem_append_left _ (List.mem_append_left _ (List.mem_append_left _ (List.mem_append_left _ (List.mem_append_left _ (List.mem_append_left _ (List.mem_append_left _ (List.mem_append_left _ (List.mem_append_right _ h))))))))))))
theorem inX7 : ∀ w ∈ wsX70, w ∈ lw_tbl := fun w h => wsL_law_in w (inlX7 w h)
theorem inlX8 : ∀ w ∈ wsX80, w ∈ wsL_law := fun _ h => List.mem_append_left _ (List.mem_append_left _ (List.mem_append_left _ (List.mem_append_left _ (List.mem_append_left _ (List.mem_append_left _ (List.mem_append_left _ (List.mem_append_left _ (List.mem_append_left _ (List.mem_append_left _ (List.mem_append_left _ (List.mem_append_right _ h)))))))))))
theorem inX8 : ∀ w ∈ wsX80, w ∈ lw_tbl := fun w h => wsL_law_in w (inlX8 w h)
theorem inJ9 : ∀ w ∈ wsJ90, w ∈ lw_tbl := by decide +kernel
theorem inJ0 : ∀ w ∈ wsJ00, w ∈ lw_tbl := by decide +kernel
theorem inJ10 : ∀ w ∈ wsJ100, w ∈ lw_tbl := by decide +kernel
theorem inJ7 : ∀ w ∈ wsJ70, w ∈ lw_tbl := by decide +kernel
set_option maxRecDepth 20000 in
theorem ggL_type_X7_type : GoodIn wsL_type wsX7_type := goodIn_ca (goodIn_ca (goodIn_r _ [7, 8, 9, 10, 11, 12, 13, 14, 15, 16, 17, 18, 19, 20, 21, 22] (by decide +kernel) (by decide +kernel)) (goodIn_sub (fun _ h => List.mem_cons_of_mem _ (List.mem_append_left _ (List.mem_append_right _ h))) (by decide +kernel))) (goodIn_sub (fun _ h => List.mem_cons_of_mem _ (List.mem_append_right _ h)) (by decide +kernel))
set_option maxRecDepth 20000 in
theorem gL_type_X7_type : GoodIn wsL_type (wsV RL 7 RX7 yX7_type wsX7_type) := goodIn_app (goodIn_of _ (by decide +kernel)) ggL_type_X7_type
theorem dL_type_0 : decode cL_type 0 = .ok (.aload 4, 2) := by decide +kernel
theorem dL_type_2 : decode cL_type 2 = .ok (.iconst 0, 1) := by decide +kernel
theorem dL_type_3 : decode cL_type 3 = .ok (.aload_n 0, 1) := by decide +kernel
theorem dL_type_4 : decode cL_type 4 = .ok (.lload_n 1, 1) := by decide +kernel
theorem dL_type_5 : decode cL_type 5 = .ok (.iload_n 3, 1) := by decide +kernel
theorem dL_type_6 : decode cL_type 6 = .ok (.invokevirtual 7, 3) := by decide +kernel
theorem dL_type_9 : decode cL_type 9 = .ok (.i2l, 1) := by decide +kernel
theorem dL_type_10 : decode cL_type 10 = .ok (.lastore, 1) := by decide +kernel
theorem dL_type_11 : decode cL_type 11 = .ok (.goto 11, 3) := by decide +kernel
theorem dL_type_14 : decode cL_type 14 = .ok (.astore 5, 2) := by decide +kernel
theorem dL_type_16 : decode cL_type 16 = .ok (.iconst 1, 1) := by decide +kernel
theorem dL_type_17 : decode cL_type 17 = .ok (.ireturn, 1) := by decide +kernel
theorem dL_type_18 : decode cL_type 18 = .ok (.astore 5, 2) := by decide +kernel
theorem dL_type_20 : decode cL_type 20 = .ok (.iconst 2, 1) := by decide +kernel
theorem dL_type_21 : decode cL_type 21 = .ok (.ireturn, 1) := by decide +kernel
theorem dL_type_22 : decode cL_type 22 = .ok (.iconst 0, 1) := by decide +kernel
theorem dL_type_23 : decode cL_type 23 = .ok (.ireturn, 1) := by decide +kernel
set_option maxRecDepth 20000 in
theorem ggL_keep_X7_keep : GoodIn wsL_keep wsX7_keep := goodIn_ca (goodIn_r _ [6, 7, 8, 9, 10, 11, 12, 13, 14, 15, 16, 17, 18, 19] (by decide +kernel) (by decide +kernel)) (goodIn_sub (fun _ h => List.mem_cons_of_mem _ (List.mem_append_right _ h)) (by decide +kernel))
set_option maxRecDepth 20000 in
theorem gL_keep_X7_keep : GoodIn wsL_keep (wsV RL 17 RX7 yX7_keep wsX7_keep) := goodIn_app (goodIn_of _ (by decide +kernel)) ggL_keep_X7_keep
theorem dL_keep_0 : decode cL_keep 0 = .ok (.aload_n 0, 1) := by decide +kernel
theorem dL_keep_1 : decode cL_keep 1 = .ok (.iload_n 1, 1) := by decide +kernel
theorem dL_keep_2 : decode cL_keep 2 = .ok (.invokevirtual 17, 3) := by decide +kernel
theorem dL_keep_5 : decode cL_keep 5 = .ok (.goto 6, 3) := by decide +kernel
theorem dL_keep_8 : decode cL_keep 8 = .ok (.astore_n 2, 1) := by decide +kernel
theorem dL_keep_9 : decode cL_keep 9 = .ok (.iconst 1, 1) := by decide +kernel
theorem dL_keep_10 : decode cL_keep 10 = .ok (.ireturn, 1) := by decide +kernel
theorem dL_keep_11 : decode cL_keep 11 = .ok (.iconst 0, 1) := by decide +kernel
theorem dL_keep_12 : decode cL_keep 12 = .ok (.ireturn, 1) := by decide +kernel
set_option maxRecDepth 20000 in
theorem ggL_typed_X7_typed : GoodIn wsL_typed wsX7_typed := goodIn_ca (goodIn_r _ [6, 7, 8, 9, 10, 11, 12, 13, 14, 15, 16, 17, 18, 19] (by decide +kernel) (by decide +kernel)) (goodIn_sub (fun _ h => List.mem_cons_of_mem _ (List.mem_append_right _ h)) (by decide +kernel))
set_option maxRecDepth 20000 in
theorem gL_typed_X7_typed : GoodIn wsL_typed (wsV RL 21 RX7 yX7_typed wsX7_typed) := goodIn_app (goodIn_of _ (by decide +kernel)) ggL_typed_X7_typed
theorem dL_typed_0 : decode cL_typed 0 = .ok (.aload_n 2, 1) := by decide +kernel
theorem dL_typed_1 : decode cL_typed 1 = .ok (.iconst 0, 1) := by decide +kernel
theorem dL_typed_2 : decode cL_typed 2 = .ok (.aload_n 0, 1) := by decide +kernel
theorem dL_typed_3 : decode cL_typed 3 = .ok (.iload_n 1, 1) := by decide +kernel
theorem dL_typed_4 : decode cL_typed 4 = .ok (.invokevirtual 21, 3) := by decide +kernel
theorem dL_typed_7 : decode cL_typed 7 = .ok (.i2l, 1) := by decide +kernel
theorem dL_typed_8 : decode cL_typed 8 = .ok (.lastore, 1) := by decide +kernel
theorem dL_typed_9 : decode cL_typed 9 = .ok (.goto 6, 3) := by decide +kernel
theorem dL_typed_12 : decode cL_typed 12 = .ok (.astore_n 3, 1) := by decide +kernel
theorem dL_typed_13 : decode cL_typed 13 = .ok (.iconst 1, 1) := by decide +kernel
theorem dL_typed_14 : decode cL_typed 14 = .ok (.ireturn, 1) := by decide +kernel
theorem dL_typed_15 : decode cL_typed 15 = .ok (.iconst 0, 1) := by decide +kernel
theorem dL_typed_16 : decode cL_typed 16 = .ok (.ireturn, 1) := by decide +kernel
set_option maxRecDepth 20000 in
theorem ggL_key_X7_key : GoodIn wsL_key wsX7_key := goodIn_ca (goodIn_r _ [6, 7, 8, 9, 10, 11, 12, 13, 14, 15, 16, 17, 18, 19, 20, 21, 22, 23, 5, 24, 25, 26, 27, 28, 29, 30, 31, 32, 33, 34, 35, 36, 37, 38, 39, 40, 41, 42, 43, 44, 45, 46, 47, 48, 49, 50, 51, 52, 53, 54, 55, 56, 57, 58, 59, 60, 61, 62, 63, 64, 65, 66, 67, 68, 69, 70, 71, 72, 73, 74, 75, 76, 77, 78, 79, 80] rfl (by decide +kernel)) (goodIn_sub (fun _ h => List.mem_cons_of_mem _ (List.mem_append_right _ h)) (by decide +kernel))
set_option maxRecDepth 20000 in
theorem gL_key_X7_key : GoodIn wsL_key (wsV RL 27 RX7 yX7_key wsX7_key) := goodIn_app (goodIn_of _ (by decide +kernel)) ggL_key_X7_key
theorem dL_key_0 : decode cL_key 0 = .ok (.aload_n 1, 1) := by decide +kernel
theorem dL_key_1 : decode cL_key 1 = .ok (.iconst 0, 1) := by decide +kernel
theorem dL_key_2 : decode cL_key 2 = .ok (.aload_n 0, 1) := by decide +kernel
theorem dL_key_3 : decode cL_key 3 = .ok (.invokevirtual 27, 3) := by decide +kernel
theorem dL_key_6 : decode cL_key 6 = .ok (.i2l, 1) := by decide +kernel
theorem dL_key_7 : decode cL_key 7 = .ok (.lastore, 1) := by decide +kernel
theorem dL_key_8 : decode cL_key 8 = .ok (.goto 6, 3) := by decide +kernel
theorem dL_key_11 : decode cL_key 11 = .ok (.astore_n 2, 1) := by decide +kernel
theorem dL_key_12 : decode cL_key 12 = .ok (.iconst 1, 1) := by decide +kernel
theorem dL_key_13 : decode cL_key 13 = .ok (.ireturn, 1) := by decide +kernel
theorem dL_key_14 : decode cL_key 14 = .ok (.iconst 0, 1) := by decide +kernel
theorem dL_key_15 : decode cL_key 15 = .ok (.ireturn, 1) := by decide +kernel
set_option maxRecDepth 20000 in
theorem ggL_tweak_X7_tweak : GoodIn wsL_tweak wsX7_tweak := goodIn_ca (goodIn_r _ [6, 7, 8, 9, 10, 11, 12, 13, 14, 15, 16, 17, 18, 19, 20, 21, 22, 23, 24, 25, 26, 27] (by decide +kernel) (by decide +kernel)) (goodIn_sub (fun _ h => List.mem_cons_of_mem _ (List.mem_append_right _ h)) (by decide +kernel))
set_option maxRecDepth 20000 in
theorem gL_tweak_X7_tweak : GoodIn wsL_tweak (wsV RL 31 RX7 yX7_tweak wsX7_tweak) := goodIn_app (goodIn_of _ (by decide +kernel)) ggL_tweak_X7_tweak
theorem dL_tweak_0 : decode cL_tweak 0 = .ok (.aload_n 1, 1) := by decide +kernel
theorem dL_tweak_1 : decode cL_tweak 1 = .ok (.iconst 0, 1) := by decide +kernel
theorem dL_tweak_2 : decode cL_tweak 2 = .ok (.aload_n 0, 1) := by decide +kernel
theorem dL_tweak_3 : decode cL_tweak 3 = .ok (.invokevirtual 31, 3) := by decide +kernel
theorem dL_tweak_6 : decode cL_tweak 6 = .ok (.i2l, 1) := by decide +kernel
theorem dL_tweak_7 : decode cL_tweak 7 = .ok (.lastore, 1) := by decide +kernel
theorem dL_tweak_8 : decode cL_tweak 8 = .ok (.goto 6, 3) := by decide +kernel
theorem dL_tweak_11 : decode cL_tweak 11 = .ok (.astore_n 2, 1) := by decide +kernel
theorem dL_tweak_12 : decode cL_tweak 12 = .ok (.iconst 1, 1) := by decide +kernel
theorem dL_tweak_13 : decode cL_tweak 13 = .ok (.ireturn, 1) := by decide +kernel
theorem dL_tweak_14 : decode cL_tweak 14 = .ok (.iconst 0, 1) := by decide +kernel
theorem dL_tweak_15 : decode cL_tweak 15 = .ok (.ireturn, 1) := by decide +kernel
set_option maxRecDepth 20000 in
theorem ggL_block_X7_block : GoodIn wsL_block wsX7_block := goodIn_ca (goodIn_r _ [6, 7, 8, 9, 10, 11, 12, 13, 14, 15, 16, 17, 18, 19, 20, 21, 22, 23, 24, 25, 26, 27, 28, 29, 30, 31, 32, 33, 34, 35, 36, 37, 38, 39, 40, 41, 42, 43, 44, 45, 46, 47, 48, 49, 50, 51, 52, 53, 54, 55, 56, 57, 58, 59, 60, 61, 62, 63, 64, 65, 66, 67, 68, 69, 70, 71, 72, 73] rfl (by decide +kernel)) (goodIn_sub (fun _ h => List.mem_cons_of_mem _ (List.mem_append_right _ h)) (by decide +kernel))
set_option maxRecDepth 20000 in
theorem gL_block_X7_block : GoodIn wsL_block (wsV RL 34 RX7 yX7_block wsX7_block) := goodIn_app (goodIn_of _ (by decide +kernel)) ggL_block_X7_block
theorem dL_block_0 : decode cL_block 0 = .ok (.aload_n 0, 1) := by decide +kernel
theorem dL_block_1 : decode cL_block 1 = .ok (.invokevirtual 34, 3) := by decide +kernel
theorem dL_block_4 : decode cL_block 4 = .ok (.goto 6, 3) := by decide +kernel
theorem dL_block_7 : decode cL_block 7 = .ok (.astore_n 1, 1) := by decide +kernel
theorem dL_block_8 : decode cL_block 8 = .ok (.iconst 1, 1) := by decide +kernel
theorem dL_block_9 : decode cL_block 9 = .ok (.ireturn, 1) := by decide +kernel
theorem dL_block_10 : decode cL_block 10 = .ok (.iconst 0, 1) := by decide +kernel
theorem dL_block_11 : decode cL_block 11 = .ok (.ireturn, 1) := by decide +kernel
set_option maxRecDepth 20000 in
theorem ggL_radix_X7_radix : GoodIn wsL_radix wsX7_radix := goodIn_ca (goodIn_r _ [6, 7, 8, 9, 10, 11, 12, 13, 14, 15, 16, 17, 18, 19, 20, 21] (by decide +kernel) (by decide +kernel)) (goodIn_sub (fun _ h => List.mem_cons_of_mem _ (List.mem_append_right _ h)) (by decide +kernel))
set_option maxRecDepth 20000 in
theorem gL_radix_X7_radix : GoodIn wsL_radix (wsV RL 37 RX7 yX7_radix wsX7_radix) := goodIn_app (goodIn_of _ (by decide +kernel)) ggL_radix_X7_radix
theorem dL_radix_0 : decode cL_radix 0 = .ok (.aload_n 2, 1) := by decide +kernel
theorem dL_radix_1 : decode cL_radix 1 = .ok (.iconst 0, 1) := by decide +kernel
theorem dL_radix_2 : decode cL_radix 2 = .ok (.aload_n 0, 1) := by decide +kernel
theorem dL_radix_3 : decode cL_radix 3 = .ok (.iload_n 1, 1) := by decide +kernel
theorem dL_radix_4 : decode cL_radix 4 = .ok (.invokevirtual 37, 3) := by decide +kernel
theorem dL_radix_7 : decode cL_radix 7 = .ok (.i2l, 1) := by decide +kernel
theorem dL_radix_8 : decode cL_radix 8 = .ok (.lastore, 1) := by decide +kernel
theorem dL_radix_9 : decode cL_radix 9 = .ok (.goto 6, 3) := by decide +kernel
theorem dL_radix_12 : decode cL_radix 12 = .ok (.astore_n 3, 1) := by decide +kernel
theorem dL_radix_13 : decode cL_radix 13 = .ok (.iconst 1, 1) := by decide +kernel
theorem dL_radix_14 : decode cL_radix 14 = .ok (.ireturn, 1) := by decide +kernel
theorem dL_radix_15 : decode cL_radix 15 = .ok (.iconst 0, 1) := by decide +kernel
theorem dL_radix_16 : decode cL_radix 16 = .ok (.ireturn, 1) := by decide +kernel
set_option maxRecDepth 20000 in
theorem ggL_numeral_X7_numeral : GoodIn wsL_numeral wsX7_numeral := goodIn_ca (goodIn_ca (goodIn_r _ [7, 8, 9, 10, 11, 12, 13, 14, 15, 16, 17, 18, 19, 20, 21, 22, 23, 24, 25, 26, 27, 28, 29] (by decide +kernel) (by decide +kernel)) (goodIn_sub (fun _ h => List.mem_cons_of_mem _ (List.mem_append_left _ (List.mem_append_right _ h))) (by decide +kernel))) (goodIn_sub (fun _ h => List.mem_cons_of_mem _ (List.mem_append_right _ h)) (by decide +kernel))
set_option maxRecDepth 20000 in
theorem gL_numeral_X7_numeral : GoodIn wsL_numeral (wsV RL 40 RX7 yX7_numeral wsX7_numeral) := goodIn_app (goodIn_of _ (by decide +kernel)) ggL_numeral_X7_numeral
theorem dL_numeral_0 : decode cL_numeral 0 = .ok (.aload_n 2, 1) := by decide +kernel
theorem dL_numeral_1 : decode cL_numeral 1 = .ok (.iconst 0, 1) := by decide +kernel
theorem dL_numeral_2 : decode cL_numeral 2 = .ok (.aload_n 0, 1) := by decide +kernel
theorem dL_numeral_3 : decode cL_numeral 3 = .ok (.iload_n 1, 1) := by decide +kernel
theorem dL_numeral_4 : decode cL_numeral 4 = .ok (.invokevirtual 40, 3) := by decide +kernel
theorem dL_numeral_7 : decode cL_numeral 7 = .ok (.i2l, 1) := by decide +kernel
theorem dL_numeral_8 : decode cL_numeral 8 = .ok (.lastore, 1) := by decide +kernel
theorem dL_numeral_9 : decode cL_numeral 9 = .ok (.goto 9, 3) := by decide +kernel
theorem dL_numeral_12 : decode cL_numeral 12 = .ok (.astore_n 3, 1) := by decide +kernel
theorem dL_numeral_13 : decode cL_numeral 13 = .ok (.iconst 1, 1) := by decide +kernel
theorem dL_numeral_14 : decode cL_numeral 14 = .ok (.ireturn, 1) := by decide +kernel
theorem dL_numeral_15 : decode cL_numeral 15 = .ok (.astore_n 3, 1) := by decide +kernel
theorem dL_numeral_16 : decode cL_numeral 16 = .ok (.iconst 2, 1) := by decide +kernel
theorem dL_numeral_17 : decode cL_numeral 17 = .ok (.ireturn, 1) := by decide +kernel
theorem dL_numeral_18 : decode cL_numeral 18 = .ok (.iconst 0, 1) := by decide +kernel
theorem dL_numeral_19 : decode cL_numeral 19 = .ok (.ireturn, 1) := by decide +kernel
set_option maxRecDepth 20000 in
theorem ggL_cut_X7_cut : GoodIn wsL_cut wsX7_cut := goodIn_ca (goodIn_r _ [6, 7, 8, 9, 10, 11, 12, 13, 14, 15, 16, 17, 18, 19, 20] (by decide +kernel) (by decide +kernel)) (goodIn_sub (fun _ h => List.mem_cons_of_mem _ (List.mem_append_right _ h)) (by decide +kernel))
set_option maxRecDepth 20000 in
theorem gL_cut_X7_cut : GoodIn wsL_cut (wsV RL 43 RX7 yX7_cut wsX7_cut) := goodIn_app (goodIn_of _ (by decide +kernel)) ggL_cut_X7_cut
theorem dL_cut_0 : decode cL_cut 0 = .ok (.aload_n 0, 1) := by decide +kernel
theorem dL_cut_1 : decode cL_cut 1 = .ok (.iload_n 1, 1) := by decide +kernel
theorem dL_cut_2 : decode cL_cut 2 = .ok (.invokevirtual 43, 3) := by decide +kernel
theorem dL_cut_5 : decode cL_cut 5 = .ok (.goto 6, 3) := by decide +kernel
theorem dL_cut_8 : decode cL_cut 8 = .ok (.astore_n 2, 1) := by decide +kernel
theorem dL_cut_9 : decode cL_cut 9 = .ok (.iconst 1, 1) := by decide +kernel
theorem dL_cut_10 : decode cL_cut 10 = .ok (.ireturn, 1) := by decide +kernel
theorem dL_cut_11 : decode cL_cut 11 = .ok (.iconst 0, 1) := by decide +kernel
theorem dL_cut_12 : decode cL_cut 12 = .ok (.ireturn, 1) := by decide +kernel
set_option maxRecDepth 20000 in
theorem ggL_set_X7_set : GoodIn wsL_set wsX7_set := goodIn_ca (goodIn_ca (goodIn_r _ [7, 8, 9, 10, 11, 12, 13, 14, 15, 16, 17, 18, 19, 20, 21, 22, 23, 24, 25, 26, 27, 28, 29, 30, 31, 32, 33, 34] (by decide +kernel) (by decide +kernel)) (goodIn_sub (fun _ h => List.mem_cons_of_mem _ (List.mem_append_left _ (List.mem_append_right _ h))) (by decide +kernel))) (goodIn_sub (fun _ h => List.mem_cons_of_mem _ (List.mem_append_right _ h)) (by decide +kernel))
set_option maxRecDepth 20000 in
theorem gL_set_X7_set : GoodIn wsL_set (wsV RL 46 RX7 yX7_set wsX7_set) := goodIn_app (goodIn_of _ (by decide +kernel)) ggL_set_X7_set
theorem dL_set_0 : decode cL_set 0 = .ok (.aload_n 3, 1) := by decide +kernel
theorem dL_set_1 : decode cL_set 1 = .ok (.iconst 0, 1) := by decide +kernel
theorem dL_set_2 : decode cL_set 2 = .ok (.aload_n 0, 1) := by decide +kernel
theorem dL_set_3 : decode cL_set 3 = .ok (.iload_n 1, 1) := by decide +kernel
theorem dL_set_4 : decode cL_set 4 = .ok (.iload_n 2, 1) := by decide +kernel
theorem dL_set_5 : decode cL_set 5 = .ok (.invokevirtual 46, 3) := by decide +kernel
theorem dL_set_8 : decode cL_set 8 = .ok (.i2l, 1) := by decide +kernel
theorem dL_set_9 : decode cL_set 9 = .ok (.lastore, 1) := by decide +kernel
theorem dL_set_10 : decode cL_set 10 = .ok (.goto 11, 3) := by decide +kernel
theorem dL_set_13 : decode cL_set 13 = .ok (.astore 4, 2) := by decide +kernel
theorem dL_set_15 : decode cL_set 15 = .ok (.iconst 1, 1) := by decide +kernel
theorem dL_set_16 : decode cL_set 16 = .ok (.ireturn, 1) := by decide +kernel
theorem dL_set_17 : decode cL_set 17 = .ok (.astore 4, 2) := by decide +kernel
theorem dL_set_19 : decode cL_set 19 = .ok (.iconst 2, 1) := by decide +kernel
theorem dL_set_20 : decode cL_set 20 = .ok (.ireturn, 1) := by decide +kernel
theorem dL_set_21 : decode cL_set 21 = .ok (.iconst 0, 1) := by decide +kernel
theorem dL_set_22 : decode cL_set 22 = .ok (.ireturn, 1) := by decide +kernel
set_option maxRecDepth 20000 in
theorem ggL_at_X7_at : GoodIn wsL_at wsX7_at := goodIn_ca (goodIn_r _ [6, 7, 8, 9, 10, 11, 12, 13, 14, 15, 16, 17, 18, 19, 20, 21, 22, 23, 24, 25, 26] (by decide +kernel) (by decide +kernel)) (goodIn_sub (fun _ h => List.mem_cons_of_mem _ (List.mem_append_right _ h)) (by decide +kernel))
set_option maxRecDepth 20000 in
theorem gL_at_X7_at : GoodIn wsL_at (wsV RL 50 RX7 yX7_at wsX7_at) := goodIn_app (goodIn_of _ (by decide +kernel)) ggL_at_X7_at
theorem dL_at_0 : decode cL_at 0 = .ok (.aload_n 2, 1) := by decide +kernel
theorem dL_at_1 : decode cL_at 1 = .ok (.iconst 0, 1) := by decide +kernel
theorem dL_at_2 : decode cL_at 2 = .ok (.aload_n 0, 1) := by decide +kernel
theorem dL_at_3 : decode cL_at 3 = .ok (.iload_n 1, 1) := by decide +kernel
theorem dL_at_4 : decode cL_at 4 = .ok (.invokevirtual 50, 3) := by decide +kernel
theorem dL_at_7 : decode cL_at 7 = .ok (.i2l, 1) := by decide +kernel
theorem dL_at_8 : decode cL_at 8 = .ok (.lastore, 1) := by decide +kernel
theorem dL_at_9 : decode cL_at 9 = .ok (.goto 6, 3) := by decide +kernel
theorem dL_at_12 : decode cL_at 12 = .ok (.astore_n 3, 1) := by decide +kernel
theorem dL_at_13 : decode cL_at 13 = .ok (.iconst 1, 1) := by decide +kernel
theorem dL_at_14 : decode cL_at 14 = .ok (.ireturn, 1) := by decide +kernel
theorem dL_at_15 : decode cL_at 15 = .ok (.iconst 0, 1) := by decide +kernel
theorem dL_at_16 : decode cL_at 16 = .ok (.ireturn, 1) := by decide +kernel
set_option maxRecDepth 20000 in
theorem ggL_can_X7_can : GoodIn wsL_can wsX7_can := goodIn_ca (goodIn_r _ [6, 7, 8, 9, 10, 11, 5, 12, 13, 14, 15, 16, 17, 18, 19, 20, 21, 22, 23, 24, 25, 26, 27, 28, 29, 30, 31, 32, 33, 34, 35, 36, 37, 38, 39, 40, 41, 42, 43, 44, 45, 46, 47, 48, 49, 50, 51, 52, 53, 54, 55, 56, 57, 58, 59, 60, 61, 62, 63, 64, 65, 66, 67, 68, 69, 70, 71, 72, 73, 74, 75, 76, 77, 78, 79, 80, 81, 82, 83, 84, 85, 86, 87, 88, 89, 90] rfl (by decide +kernel)) (goodIn_sub (fun _ h => List.mem_cons_of_mem _ (List.mem_append_right _ h)) (by decide +kernel))
set_option maxRecDepth 20000 in
theorem gL_can_X7_can : GoodIn wsL_can (wsV RL 53 RX7 yX7_can wsX7_can) := goodIn_app (goodIn_of _ (by decide +kernel)) ggL_can_X7_can
theorem dL_can_0 : decode cL_can 0 = .ok (.aload_n 2, 1) := by decide +kernel
theorem dL_can_1 : decode cL_can 1 = .ok (.iconst 0, 1) := by decide +kernel
theorem dL_can_2 : decode cL_can 2 = .ok (.aload_n 0, 1) := by decide +kernel
theorem dL_can_3 : decode cL_can 3 = .ok (.iload_n 1, 1) := by decide +kernel
theorem dL_can_4 : decode cL_can 4 = .ok (.invokevirtual 53, 3) := by decide +kernel
theorem dL_can_7 : decode cL_can 7 = .ok (.ifCond .eq 7, 3) := by decide +kernel
theorem dL_can_10 : decode cL_can 10 = .ok (.lconst 1, 1) := by decide +kernel
theorem dL_can_11 : decode cL_can 11 = .ok (.goto 4, 3) := by decide +kernel
theorem dL_can_14 : decode cL_can 14 = .ok (.lconst 0, 1) := by decide +kernel
theorem dL_can_15 : decode cL_can 15 = .ok (.lastore, 1) := by decide +kernel
theorem dL_can_16 : decode cL_can 16 = .ok (.goto 6, 3) := by decide +kernel
theorem dL_can_19 : decode cL_can 19 = .ok (.astore_n 3, 1) := by decide +kernel
theorem dL_can_20 : decode cL_can 20 = .ok (.iconst 1, 1) := by decide +kernel
theorem dL_can_21 : decode cL_can 21 = .ok (.ireturn, 1) := by decide +kernel
theorem dL_can_22 : decode cL_can 22 = .ok (.iconst 0, 1) := by decide +kernel
theorem dL_can_23 : decode cL_can 23 = .ok (.ireturn, 1) := by decide +kernel
set_option maxRecDepth 20000 in
theorem ggL_turn_X7_turn : GoodIn wsL_turn wsX7_turn := goodIn_ca (goodIn_ca (goodIn_r _ [7, 8, 9, 10, 11, 12, 13, 14, 6, 15, 16, 17, 18, 19, 20, 21, 22, 23, 24, 25, 26, 27, 28, 29, 30, 31, 32, 33, 34, 35, 36, 37, 38, 39, 40, 41, 42, 43, 44, 45, 46, 47, 48, 49, 50, 51, 52, 53, 54, 55, 56, 57, 58, 59, 60, 61, 62, 63, 64, 65, 66, 67, 68, 69, 70, 71, 72, 73, 74, 75, 76, 77, 78, 79, 80, 81, 82, 83, 84, 85, 86, 87, 88, 89, 90, 91, 92, 93, 94, 95, 96, 97, 98, 99, 100, 101, 102, 103, 104, 105, 106, 107, 108, 109, 110, 111, 112, 113, 114, 115, 116, 117, 118, 119, 120, 121, 122, 123, 124, 125, 126, 127, 128, 129, 130, 131, 132, 133, 134, 135, 136, 137, 138, 139, 140, 141, 142, 143, 144, 145, 146, 147, 148, 149, 150, 151, 152, 153, 154, 155, 156, 157, 158, 159, 160, 161, 162, 163, 164, 165, 166, 167, 168, 169, 170, 171, 172, 173, 174, 175, 176, 177, 178, 179, 180, 181, 182, 183, 184, 185, 186, 187, 188, 189, 190, 191, 192, 193, 194, 195, 196, 197, 198, 199, 200, 201, 202, 203, 204, 205, 206, 207, 208, 209, 210, 211, 212, 213, 214, 215, 216, 217, 218, 219, 220, 221, 222, 223, 224, 225, 226, 227, 228, 229, 230, 231, 232, 233, 234, 235, 236, 237, 238, 239, 240, 241, 242, 243, 244, 245, 246, 247, 248, 249, 250, 251, 252] rfl (by decide +kernel)) (goodIn_sub (fun _ h => List.mem_cons_of_mem _ (List.mem_append_left _ (List.mem_append_right _ h))) (by decide +kernel))) (goodIn_sub (fun _ h => List.mem_cons_of_mem _ (List.mem_append_right _ h)) (by decide +kernel))
set_option maxRecDepth 20000 in
theorem gL_turn_X7_turn : GoodIn wsL_turn (wsV RL 57 RX7 yX7_turn wsX7_turn) := goodIn_app (goodIn_of _ (by decide +kernel)) ggL_turn_X7_turn
theorem dL_turn_0 : decode cL_turn 0 = .ok (.aload_n 0, 1) := by decide +kernel
theorem dL_turn_1 : decode cL_turn 1 = .ok (.iload_n 1, 1) := by decide +kernel
theorem dL_turn_2 : decode cL_turn 2 = .ok (.iload_n 2, 1) := by decide +kernel
theorem dL_turn_3 : decode cL_turn 3 = .ok (.invokevirtual 57, 3) := by decide +kernel
theorem dL_turn_6 : decode cL_turn 6 = .ok (.goto 9, 3) := by decide +kernel
theorem dL_turn_9 : decode cL_turn 9 = .ok (.astore_n 3, 1) := by decide +kernel
theorem dL_turn_10 : decode cL_turn 10 = .ok (.iconst 1, 1) := by decide +kernel
theorem dL_turn_11 : decode cL_turn 11 = .ok (.ireturn, 1) := by decide +kernel
theorem dL_turn_12 : decode cL_turn 12 = .ok (.astore_n 3, 1) := by decide +kernel
theorem dL_turn_13 : decode cL_turn 13 = .ok (.iconst 2, 1) := by decide +kernel
theorem dL_turn_14 : decode cL_turn 14 = .ok (.ireturn, 1) := by decide +kernel
theorem dL_turn_15 : decode cL_turn 15 = .ok (.iconst 0, 1) := by decide +kernel
theorem dL_turn_16 : decode cL_turn 16 = .ok (.ireturn, 1) := by decide +kernel
set_option maxRecDepth 20000 in
theorem ggL_count_X7_count : GoodIn wsL_count wsX7_count := goodIn_ca (goodIn_r _ [6, 7, 8, 9, 10, 11, 12, 13, 14, 15, 16, 17, 18, 19, 20, 21, 22, 23, 24, 25] (by decide +kernel) (by decide +kernel)) (goodIn_sub (fun _ h => List.mem_cons_of_mem _ (List.mem_append_right _ h)) (by decide +kernel))
set_option maxRecDepth 20000 in
theorem gL_count_X7_count : GoodIn wsL_count (wsV RL 63 RX7 yX7_count wsX7_count) := goodIn_app (goodIn_of _ (by decide +kernel)) ggL_count_X7_count
theorem dL_count_0 : decode cL_count 0 = .ok (.aload_n 2, 1) := by decide +kernel
theorem dL_count_1 : decode cL_count 1 = .ok (.iconst 0, 1) := by decide +kernel
theorem dL_count_2 : decode cL_count 2 = .ok (.aload_n 0, 1) := by decide +kernel
theorem dL_count_3 : decode cL_count 3 = .ok (.iload_n 1, 1) := by decide +kernel
theorem dL_count_4 : decode cL_count 4 = .ok (.invokevirtual 63, 3) := by decide +kernel
theorem dL_count_7 : decode cL_count 7 = .ok (.i2l, 1) := by decide +kernel
theorem dL_count_8 : decode cL_count 8 = .ok (.lastore, 1) := by decide +kernel
theorem dL_count_9 : decode cL_count 9 = .ok (.goto 6, 3) := by decide +kernel
theorem dL_count_12 : decode cL_count 12 = .ok (.astore_n 3, 1) := by decide +kernel
theorem dL_count_13 : decode cL_count 13 = .ok (.iconst 1, 1) := by decide +kernel
theorem dL_count_14 : decode cL_count 14 = .ok (.ireturn, 1) := by decide +kernel
theorem dL_count_15 : decode cL_count 15 = .ok (.iconst 0, 1) := by decide +kernel
theorem dL_count_16 : decode cL_count 16 = .ok (.ireturn, 1) := by decide +kernel
set_option maxRecDepth 20000 in
theorem ggL_law_X7_init : GoodIn wsL_law wsX7_init := goodIn_r _ [10, 11, 12, 13, 14, 15, 16, 17, 18, 19, 20, 21, 22, 23, 24, 25, 26, 27, 28, 29, 30, 31, 32, 33, 34, 35, 36, 37, 38, 39, 40, 41, 42, 43, 44, 45, 46, 47, 48, 49, 50, 51, 52, 53, 54, 55, 56, 57, 58, 59, 60, 61, 62, 63, 64, 65, 66, 67, 68, 69, 70, 71, 72, 73, 74, 75, 2, 76, 77, 78, 79, 80, 81, 82, 83, 84, 85, 86, 87, 88, 89, 90, 91, 92, 93, 94, 95, 96, 97, 98, 99, 100, 101, 102, 103, 104, 105, 106, 595, 596, 564, 565, 566, 567, 568, 569, 570, 571, 597, 598, 599, 600, 601, 602, 603, 604, 605, 606, 607, 608, 609, 610, 611, 612, 613, 614, 615, 616] rfl (by decide +kernel)
set_option maxRecDepth 20000 in
theorem gL_law_X7_init : GoodIn wsL_law (wsX7_init) := ggL_law_X7_init
set_option maxRecDepth 20000 in
theorem ggL_law_X8_init : GoodIn wsL_law wsX8_init := goodIn_r _ [109, 110, 12, 13, 36, 111, 112, 113, 114, 115, 116, 117, 118, 119, 120, 121, 122, 123, 124, 125, 126, 127, 128, 5, 129, 130, 131, 132, 572, 573, 574, 575, 576, 577, 578, 579, 580, 581, 582, 583, 584, 585, 586, 587, 588, 589, 590, 591, 592, 593, 594] (by decide +kernel) (by decide +kernel)
set_option maxRecDepth 20000 in
theorem gL_law_X8_init : GoodIn wsL_law (wsX8_init) := ggL_law_X8_init
set_option maxRecDepth 20000 in
theorem ggL_law_L_type : GoodIn wsL_law wsL_type := goodIn_ca (goodIn_ca (goodIn_r _ [136, 137, 138, 139, 140, 141, 2, 142, 143, 144, 145, 146, 17, 564, 565, 566, 567, 568, 569, 570, 571, 595, 596] (by decide +kernel) (by decide +kernel)) (goodIn_sub (fun _ h => List.mem_append_left _ (List.mem_append_left _ (List.mem_append_left _ (List.mem_append_right _ h)))) (by decide +kernel))) (goodIn_sub (fun _ h => List.mem_append_left _ (List.mem_append_left _ (List.mem_append_right _ h))) (by decide +kernel))
set_option maxRecDepth 20000 in
theorem gL_law_L_type : GoodIn wsL_law (va_wsS RL 72 yL_type wsL_type) := goodIn_app (goodIn_of _ (by decide +kernel)) ggL_law_L_type
set_option maxRecDepth 20000 in
theorem ggL_law_X8_type : GoodIn wsL_law wsX8_type := goodIn_r _ [150, 151, 152, 153, 111, 154, 155, 156, 5, 157, 158, 159, 160, 161, 572, 573, 574, 575, 576, 577, 578, 579, 580, 581, 582, 583, 584, 585, 586, 587, 588, 589, 590, 591, 592, 593, 594] (by decide +kernel) (by decide +kernel)
set_option maxRecDepth 20000 in
theorem gL_law_X8_type : GoodIn wsL_law (wsV RL 77 RX8 yX8_type wsX8_type) := goodIn_app (goodIn_of _ (by decide +kernel)) ggL_law_X8_type
set_option maxRecDepth 20000 in
theorem ggL_law_X8_thrown : GoodIn wsL_law wsX8_thrown := goodIn_r _ [165, 151, 572, 573, 574, 575, 576, 577, 578, 579, 580, 581, 582, 583, 584, 585, 586, 587, 588, 589, 590, 591, 592, 593, 594] (by decide +kernel) (by decide +kernel)
set_option maxRecDepth 20000 in
theorem gL_law_X8_thrown : GoodIn wsL_law (wsV RL 78 RX8 yX8_thrown wsX8_thrown) := goodIn_app (goodIn_of _ (by decide +kernel)) ggL_law_X8_thrown
set_option maxRecDepth 20000 in
theorem ggL_law_L_keep : GoodIn wsL_law wsL_keep := goodIn_ca (goodIn_r _ [168, 137, 169, 170, 171, 2, 172, 143, 144, 17, 564, 565, 566, 567, 568, 569, 570, 571, 595, 596] (by decide +kernel) (by decide +kernel)) (goodIn_sub (fun _ h => List.mem_append_left _ (List.mem_append_left _ (List.mem_append_left _ (List.mem_append_right _ h)))) (by decide +kernel))
set_option maxRecDepth 20000 in
theorem gL_law_L_keep : GoodIn wsL_law (va_wsS RL 81 yL_keep wsL_keep) := goodIn_app (goodIn_of _ (by decide +kernel)) ggL_law_L_keep
set_option maxRecDepth 20000 in
theorem ggL_law_X8_keep : GoodIn wsL_law wsX8_keep := goodIn_r _ [176, 151, 153, 155, 156, 5, 157, 158, 159, 160, 161, 572, 573, 574, 575, 576, 577, 578, 579, 580, 581, 582, 583, 584, 585, 586, 587, 588, 589, 590, 591, 592, 593, 594] (by decide +kernel) (by decide +kernel)
set_option maxRecDepth 20000 in
theorem gL_law_X8_keep : GoodIn wsL_law (wsV RL 84 RX8 yX8_keep wsX8_keep) := goodIn_app (goodIn_of _ (by decide +kernel)) ggL_law_X8_keep
set_option maxRecDepth 20000 in
theorem ggL_law_L_typed : GoodIn wsL_law wsL_typed := goodIn_ca (goodIn_r _ [179, 180, 181, 182, 183, 2, 184, 185, 186, 17, 564, 565, 566, 567, 568, 569, 570, 571, 595, 596] (by decide +kernel) (by decide +kernel)) (goodIn_sub (fun _ h => List.mem_append_left _ (List.mem_append_right _ h)) (by decide +kernel))
set_option maxRecDepth 20000 in
theorem gL_law_L_typed : GoodIn wsL_law (va_wsS RL 85 yL_typed wsL_typed) := goodIn_app (goodIn_of _ (by decide +kernel)) ggL_law_L_typed
set_option maxRecDepth 20000 in
theorem ggL_law_X8_typed : GoodIn wsL_law wsX8_typed := goodIn_r _ [190, 151, 153, 111, 155, 156, 5, 157, 158, 159, 160, 161, 572, 573, 574, 575, 576, 577, 578, 579, 580, 581, 582, 583, 584, 585, 586, 587, 588, 589, 590, 591, 592, 593, 594] (by decide +kernel) (by decide +kernel)
set_option maxRecDepth 20000 in
theorem gL_law_X8_typed : GoodIn wsL_law (wsV RL 88 RX8 yX8_typed wsX8_typed) := goodIn_app (goodIn_of _ (by decide +kernel)) ggL_law_X8_typed
set_option maxRecDepth 20000 in
theorem ggL_law_L_key : GoodIn wsL_law wsL_key := goodIn_ca (goodIn_r _ [193, 137, 194, 195, 196, 2, 197, 143, 144, 17, 18, 27, 77, 78, 198, 199, 200, 16, 201, 41, 202, 73, 74, 75, 76, 31, 79, 80, 81, 82, 83, 59, 84, 85, 64, 86, 87, 88, 89, 90, 91, 92, 93, 94, 95, 96, 97, 98, 99, 100, 101, 102, 103, 104, 105, 106, 564, 565, 566, 567, 568, 569, 570, 571, 595, 596, 600, 601, 602, 603, 604, 605, 606, 607, 608, 609, 610, 611, 614, 615, 616] rfl (by decide +kernel)) (goodIn_sub (fun _ h => List.mem_append_left _ (List.mem_append_left _ (List.mem_append_left _ (List.mem_append_right _ h)))) (by decide +kernel))
set_option maxRecDepth 20000 in
theorem gL_law_L_key : GoodIn wsL_law (va_wsS RL 89 yL_key wsL_key) := goodIn_app (goodIn_of _ (by decide +kernel)) ggL_law_L_key
set_option maxRecDepth 20000 in
theorem ggL_law_X8_key : GoodIn wsL_law wsX8_key := goodIn_r _ [206, 151, 153, 112, 113, 111, 158, 159, 160, 5, 161, 572, 573, 574, 575, 576, 577, 578, 579, 580, 581, 582, 583, 584, 585, 586, 587, 588, 589, 590, 591, 592, 593, 594] (by decide +kernel) (by decide +kernel)
set_option maxRecDepth 20000 in
theorem gL_law_X8_key : GoodIn wsL_law (wsV RL 92 RX8 yX8_key wsX8_key) := goodIn_app (goodIn_of _ (by decide +kernel)) ggL_law_X8_key
set_option maxRecDepth 20000 in
theorem ggL_law_L_tweak : GoodIn wsL_law wsL_tweak := goodIn_ca (goodIn_r _ [209, 137, 210, 211, 212, 2, 213, 143, 144, 17, 19, 198, 199, 200, 16, 201, 41, 202, 564, 565, 566, 567, 568, 569, 570, 571, 595, 596] (by decide +kernel) (by decide +kernel)) (goodIn_sub (fun _ h => List.mem_append_left _ (List.mem_append_left _ (List.mem_append_left _ (List.mem_append_right _ h)))) (by decide +kernel))
set_option maxRecDepth 20000 in
theorem gL_law_L_tweak : GoodIn wsL_law (va_wsS RL 93 yL_tweak wsL_tweak) := goodIn_app (goodIn_of _ (by decide +kernel)) ggL_law_L_tweak
set_option maxRecDepth 20000 in
theorem ggL_law_X8_tweak : GoodIn wsL_law wsX8_tweak := goodIn_r _ [217, 151, 153, 218, 114, 111, 158, 159, 160, 5, 161, 572, 573, 574, 575, 576, 577, 578, 579, 580, 581, 582, 583, 584, 585, 586, 587, 588, 589, 590, 591, 592, 593, 594] (by decide +kernel) (by decide +kernel)
set_option maxRecDepth 20000 in
theorem gL_law_X8_tweak : GoodIn wsL_law (wsV RL 95 RX8 yX8_tweak wsX8_tweak) := goodIn_app (goodIn_of _ (by decide +kernel)) ggL_law_X8_tweak
set_option maxRecDepth 20000 in
theorem ggL_law_L_block : GoodIn wsL_law wsL_block := goodIn_ca (goodIn_r _ [221, 137, 222, 223, 224, 2, 225, 143, 144, 17, 37, 27, 77, 78, 226, 87, 88, 16, 89, 41, 227, 228, 229, 59, 230, 64, 85, 65, 231, 232, 233, 234, 235, 236, 98, 99, 100, 101, 237, 238, 239, 102, 103, 104, 105, 106, 95, 96, 97, 564, 565, 566, 567, 568, 569, 570, 571, 595, 596, 600, 601, 602, 603, 604, 605, 606, 607, 608, 609, 610, 611, 614, 615, 616] rfl (by decide +kernel)) (goodIn_sub (fun _ h => List.mem_append_left _ (List.mem_append_left _ (List.mem_append_left _ (List.mem_append_right _ h)))) (by decide +kernel))
set_option maxRecDepth 20000 in
theorem gL_law_L_block : GoodIn wsL_law (va_wsS RL 96 yL_block wsL_block) := goodIn_app (goodIn_of _ (by decide +kernel)) ggL_law_L_block
set_option maxRecDepth 20000 in
theorem ggL_law_X8_block : GoodIn wsL_law wsX8_block := goodIn_r _ [243, 151, 153, 119, 111, 158, 159, 160, 5, 161, 244, 245, 246, 247, 112, 248, 118, 113, 117, 130, 131, 132, 249, 250, 251, 252, 120, 253, 254, 255, 256, 572, 573, 574, 575, 576, 577, 578, 579, 580, 581, 582, 583, 584, 585, 586, 587, 588, 589, 590, 591, 592, 593, 594] (by decide +kernel) (by decide +kernel)
set_option maxRecDepth 20000 in
theorem gL_law_X8_block : GoodIn wsL_law (wsV RL 99 RX8 yX8_block wsX8_block) := goodIn_app (goodIn_of _ (by decide +kernel)) ggL_law_X8_block
set_option maxRecDepth 20000 in
theorem ggL_law_L_radix : GoodIn wsL_law wsL_radix := goodIn_ca (goodIn_r _ [259, 137, 260, 261, 262, 2, 263, 143, 144, 264, 23, 564, 565, 566, 567, 568, 569, 570, 571, 597, 598, 599] (by decide +kernel) (by decide +kernel)) (goodIn_sub (fun _ h => List.mem_append_left _ (List.mem_append_left _ (List.mem_append_left _ (List.mem_append_right _ h)))) (by decide +kernel))
set_option maxRecDepth 20000 in
theorem gL_law_L_radix : GoodIn wsL_law (va_wsS RL 100 yL_radix wsL_radix) := goodIn_app (goodIn_of _ (by decide +kernel)) ggL_law_L_radix
set_option maxRecDepth 20000 in
theorem ggL_law_X8_radix : GoodIn wsL_law wsX8_radix := goodIn_r _ [268, 151, 269, 270, 271, 115, 155, 156, 5, 157, 158, 159, 160, 161, 572, 573, 574, 575, 576, 577, 578, 579, 580, 581, 582, 583, 584, 585, 586, 587, 588, 589, 590, 591, 592, 593, 594] (by decide +kernel) (by decide +kernel)
set_option maxRecDepth 20000 in
theorem gL_law_X8_radix : GoodIn wsL_law (wsV RL 102 RX8 yX8_radix wsX8_radix) := goodIn_app (goodIn_of _ (by decide +kernel)) ggL_law_X8_radix
set_option maxRecDepth 20000 in
theorem ggL_law_L_numeral : GoodIn wsL_law wsL_numeral := goodIn_ca (goodIn_ca (goodIn_r _ [274, 137, 138, 275, 276, 277, 2, 278, 143, 144, 145, 146, 23, 279, 280, 281, 22, 282, 46, 564, 565, 566, 567, 568, 569, 570, 571, 597, 598, 599] (by decide +kernel) (by decide +kernel)) (goodIn_sub (fun _ h => List.mem_append_left _ (List.mem_append_left _ (List.mem_append_left _ (List.mem_append_right _ h)))) (by decide +kernel))) (goodIn_sub (fun _ h => List.mem_append_left _ (List.mem_append_left _ (List.mem_append_right _ h))) (by decide +kernel))
set_option maxRecDepth 20000 in
theorem gL_law_L_numeral : GoodIn wsL_law (va_wsS RL 103 yL_numeral wsL_numeral) := goodIn_app (goodIn_of _ (by decide +kernel)) ggL_law_L_numeral
set_option maxRecDepth 20000 in
theorem ggL_law_X8_numeral : GoodIn wsL_law wsX8_numeral := goodIn_r _ [286, 151, 115, 271, 116, 155, 156, 5, 157, 158, 159, 160, 161, 572, 573, 574, 575, 576, 577, 578, 579, 580, 581, 582, 583, 584, 585, 586, 587, 588, 589, 590, 591, 592, 593, 594] (by decide +kernel) (by decide +kernel)
set_option maxRecDepth 20000 in
theorem gL_law_X8_numeral : GoodIn wsL_law (wsV RL 105 RX8 yX8_numeral wsX8_numeral) := goodIn_app (goodIn_of _ (by decide +kernel)) ggL_law_X8_numeral
set_option maxRecDepth 20000 in
theorem ggL_law_L_cut : GoodIn wsL_law wsL_cut := goodIn_ca (goodIn_r _ [289, 137, 290, 291, 292, 2, 293, 143, 144, 23, 564, 565, 566, 567, 568, 569, 570, 571, 597, 598, 599] (by decide +kernel) (by decide +kernel)) (goodIn_sub (fun _ h => List.mem_append_left _ (List.mem_append_left _ (List.mem_append_left _ (List.mem_append_right _ h)))) (by decide +kernel))
set_option maxRecDepth 20000 in
theorem gL_law_L_cut : GoodIn wsL_law (va_wsS RL 106 yL_cut wsL_cut) := goodIn_app (goodIn_of _ (by decide +kernel)) ggL_law_L_cut
set_option maxRecDepth 20000 in
theorem ggL_law_X8_cut : GoodIn wsL_law wsX8_cut := goodIn_r _ [297, 151, 271, 155, 156, 5, 157, 158, 159, 160, 161, 572, 573, 574, 575, 576, 577, 578, 579, 580, 581, 582, 583, 584, 585, 586, 587, 588, 589, 590, 591, 592, 593, 594] (by decide +kernel) (by decide +kernel)
set_option maxRecDepth 20000 in
theorem gL_law_X8_cut : GoodIn wsL_law (wsV RL 108 RX8 yX8_cut wsX8_cut) := goodIn_app (goodIn_of _ (by decide +kernel)) ggL_law_X8_cut
set_option maxRecDepth 20000 in
theorem ggL_law_L_set : GoodIn wsL_law wsL_set := goodIn_ca (goodIn_ca (goodIn_r _ [300, 180, 137, 301, 302, 303, 2, 304, 185, 186, 143, 144, 23, 305, 306, 307, 22, 308, 309, 279, 280, 281, 282, 46, 564, 565, 566, 567, 568, 569, 570, 571, 597, 598, 599] (by decide +kernel) (by decide +kernel)) (goodIn_sub (fun _ h => List.mem_append_left _ (List.mem_append_right _ h)) (by decide +kernel))) (goodIn_sub (fun _ h => List.mem_append_left _ (List.mem_append_left _ (List.mem_append_left _ (List.mem_append_right _ h)))) (by decide +kernel))
set_option maxRecDepth 20000 in
theorem gL_law_L_set : GoodIn wsL_law (va_wsS RL 109 yL_set wsL_set) := goodIn_app (goodIn_of _ (by decide +kernel)) ggL_law_L_set
set_option maxRecDepth 20000 in
theorem ggL_law_X8_set : GoodIn wsL_law wsX8_set := goodIn_r _ [313, 151, 271, 115, 116, 155, 156, 5, 157, 158, 159, 160, 161, 572, 573, 574, 575, 576, 577, 578, 579, 580, 581, 582, 583, 584, 585, 586, 587, 588, 589, 590, 591, 592, 593, 594] (by decide +kernel) (by decide +kernel)
set_option maxRecDepth 20000 in
theorem gL_law_X8_set : GoodIn wsL_law (wsV RL 112 RX8 yX8_set wsX8_set) := goodIn_app (goodIn_of _ (by decide +kernel)) ggL_law_X8_set
set_option maxRecDepth 20000 in
theorem ggL_law_L_at : GoodIn wsL_law wsL_at := goodIn_ca (goodIn_r _ [316, 180, 317, 318, 319, 2, 320, 185, 186, 23, 305, 306, 307, 22, 308, 309, 564, 565, 566, 567, 568, 569, 570, 571, 597, 598, 599] (by decide +kernel) (by decide +kernel)) (goodIn_sub (fun _ h => List.mem_append_left _ (List.mem_append_right _ h)) (by decide +kernel))
set_option maxRecDepth 20000 in
theorem gL_law_L_at : GoodIn wsL_law (va_wsS RL 113 yL_at wsL_at) := goodIn_app (goodIn_of _ (by decide +kernel)) ggL_law_L_at
set_option maxRecDepth 20000 in
theorem ggL_law_X8_at : GoodIn wsL_law wsX8_at := goodIn_r _ [324, 151, 271, 116, 155, 156, 5, 157, 158, 159, 160, 161, 572, 573, 574, 575, 576, 577, 578, 579, 580, 581, 582, 583, 584, 585, 586, 587, 588, 589, 590, 591, 592, 593, 594] (by decide +kernel) (by decide +kernel)
set_option maxRecDepth 20000 in
theorem gL_law_X8_at : GoodIn wsL_law (wsV RL 115 RX8 yX8_at wsX8_at) := goodIn_app (goodIn_of _ (by decide +kernel)) ggL_law_X8_at
set_option maxRecDepth 20000 in
theorem ggL_law_L_can : GoodIn wsL_law wsL_can := goodIn_ca (goodIn_r _ [327, 137, 328, 329, 330, 2, 331, 143, 144, 332, 333, 334, 335, 23, 19, 35, 336, 337, 338, 22, 339, 309, 340, 46, 341, 342, 343, 344, 27, 31, 345, 346, 347, 348, 26, 349, 350, 351, 30, 352, 353, 354, 355, 356, 357, 358, 359, 360, 361, 362, 363, 34, 364, 72, 365, 366, 367, 368, 369, 370, 371, 372, 373, 374, 375, 376, 377, 378, 379, 380, 381, 382, 383, 384, 385, 386, 564, 565, 566, 567, 568, 569, 570, 571, 597, 598, 599, 595, 596, 612, 613] rfl (by decide +kernel)) (goodIn_sub (fun _ h => List.mem_append_left _ (List.mem_append_left _ (List.mem_append_left _ (List.mem_append_right _ h)))) (by decide +kernel))
set_option maxRecDepth 20000 in
theorem gL_law_L_can : GoodIn wsL_law (va_wsS RL 116 yL_can wsL_can) := goodIn_app (goodIn_of _ (by decide +kernel)) ggL_law_L_can
set_option maxRecDepth 20000 in
theorem ggL_law_X8_can : GoodIn wsL_law wsX8_can := goodIn_r _ [390, 151, 155, 156, 5, 157, 158, 159, 160, 161, 391, 392, 393, 394, 271, 395, 115, 218, 396, 397, 398, 399, 123, 124, 400, 401, 402, 403, 154, 572, 573, 574, 575, 576, 577, 578, 579, 580, 581, 582, 583, 584, 585, 586, 587, 588, 589, 590, 591, 592, 593, 594] (by decide +kernel) (by decide +kernel)
set_option maxRecDepth 20000 in
theorem gL_law_X8_can : GoodIn wsL_law (wsV RL 118 RX8 yX8_can wsX8_can) := goodIn_app (goodIn_of _ (by decide +kernel)) ggL_law_X8_can
set_option maxRecDepth 20000 in
theorem ggL_law_L_turn : GoodIn wsL_law wsL_turn := goodIn_ca (goodIn_ca (goodIn_r _ [406, 137, 407, 408, 409, 410, 2, 411, 143, 144, 412, 413, 332, 333, 334, 335, 23, 19, 35, 336, 337, 338, 22, 339, 309, 340, 46, 341, 342, 343, 344, 27, 31, 345, 346, 347, 348, 26, 349, 350, 351, 30, 352, 353, 354, 355, 356, 357, 358, 359, 360, 361, 362, 363, 34, 364, 72, 365, 366, 367, 368, 369, 370, 371, 372, 373, 374, 375, 376, 377, 378, 379, 380, 381, 382, 383, 384, 385, 386, 414, 415, 416, 417, 418, 419, 420, 421, 422, 423, 424, 425, 426, 427, 428, 429, 430, 431, 432, 433, 434, 435, 436, 437, 438, 439, 49, 50, 440, 441, 442, 78, 443, 444, 445, 446, 87, 88, 16, 89, 41, 447, 228, 229, 59, 230, 64, 85, 65, 231, 232, 233, 234, 235, 236, 98, 99, 100, 101, 237, 238, 239, 102, 103, 104, 105, 106, 95, 96, 97, 448, 449, 450, 451, 452, 453, 454, 455, 456, 457, 458, 459, 460, 461, 462, 463, 464, 465, 45, 466, 467, 468, 469, 470, 471, 472, 473, 51, 52, 474, 475, 476, 477, 478, 479, 480, 481, 482, 483, 484, 485, 486, 487, 488, 489, 490, 491, 492, 493, 494, 68, 495, 80, 496, 497, 91, 92, 93, 94, 498, 499, 500, 501, 502, 503, 504, 505, 506, 507, 508, 509, 280, 281, 282, 564, 565, 566, 567, 568, 569, 570, 571, 597, 598, 599, 595, 596, 612, 613, 600, 601, 602, 603, 604, 605, 606, 607, 608, 609, 610, 611, 614, 615, 616] rfl (by decide +kernel)) (goodIn_sub (fun _ h => List.mem_append_left _ (List.mem_append_left _ (List.mem_append_left _ (List.mem_append_right _ h)))) (by decide +kernel))) (goodIn_sub (fun _ h => List.mem_append_right _ h) (by decide +kernel))
set_option maxRecDepth 20000 in
theorem gL_law_L_turn : GoodIn wsL_law (va_wsS RL 119 yL_turn wsL_turn) := goodIn_app (goodIn_of _ (by decide +kernel)) ggL_law_L_turn
set_option maxRecDepth 20000 in
theorem ggL_law_X8_turn : GoodIn wsL_law wsX8_turn := goodIn_r _ [513, 151, 155, 156, 5, 157, 158, 159, 160, 161, 391, 392, 393, 394, 271, 395, 115, 218, 396, 397, 398, 399, 123, 124, 400, 401, 402, 403, 154, 514, 515, 516, 517, 122, 121, 244, 245, 246, 247, 112, 248, 118, 113, 117, 130, 131, 132, 518, 519, 520, 521, 522, 523, 116, 524, 525, 526, 527, 125, 114, 119, 126, 528, 529, 530, 531, 249, 250, 251, 252, 120, 253, 254, 255, 256, 532, 533, 534, 535, 536, 537, 538, 539, 540, 541, 542, 543, 544, 545, 546, 547, 548, 549, 550, 551, 572, 573, 574, 575, 576, 577, 578, 579, 580, 581, 582, 583, 584, 585, 586, 587, 588, 589, 590, 591, 592, 593, 594] rfl (by decide +kernel)
set_option maxRecDepth 20000 in
theorem gL_law_X8_turn : GoodIn wsL_law (wsV RL 122 RX8 yX8_turn wsX8_turn) := goodIn_app (goodIn_of _ (by decide +kernel)) ggL_law_X8_turn
set_option maxRecDepth 20000 in
theorem ggL_law_L_count : GoodIn wsL_law wsL_count := goodIn_ca (goodIn_r _ [554, 180, 555, 556, 557, 2, 558, 185, 186, 23, 18, 19, 17, 564, 565, 566, 567, 568, 569, 570, 571, 597, 598, 599, 595, 596] (by decide +kernel) (by decide +kernel)) (goodIn_sub (fun _ h => List.mem_append_left _ (List.mem_append_right _ h)) (by decide +kernel))
set_option maxRecDepth 20000 in
theorem gL_law_L_count : GoodIn wsL_law (va_wsS RL 123 yL_count wsL_count) := goodIn_app (goodIn_of _ (by decide +kernel)) ggL_law_L_count
set_option maxRecDepth 20000 in
theorem ggL_law_X8_count : GoodIn wsL_law wsX8_count := goodIn_r _ [562, 151, 563, 271, 115, 112, 218, 153, 155, 156, 5, 157, 158, 159, 160, 161, 572, 573, 574, 575, 576, 577, 578, 579, 580, 581, 582, 583, 584, 585, 586, 587, 588, 589, 590, 591, 592, 593, 594] (by decide +kernel) (by decide +kernel)
set_option maxRecDepth 20000 in
theorem gL_law_X8_count : GoodIn wsL_law (wsV RL 125 RX8 yX8_count wsX8_count) := goodIn_app (goodIn_of _ (by decide +kernel)) ggL_law_X8_count
theorem dL_law_0 : decode cL_law 0 = .ok (.new 8, 3) := by decide +kernel
theorem dL_law_3 : decode cL_law 3 = .ok (.dup, 1) := by decide +kernel
theorem dL_law_4 : decode cL_law 4 = .ok (.invokespecial 66, 3) := by decide +kernel
theorem dL_law_7 : decode cL_law 7 = .ok (.astore_n 1, 1) := by decide +kernel
theorem dL_law_8 : decode cL_law 8 = .ok (.new 67, 3) := by decide +kernel
theorem dL_law_11 : decode cL_law 11 = .ok (.dup, 1) := by decide +kernel
theorem dL_law_12 : decode cL_law 12 = .ok (.invokespecial 69, 3) := by decide +kernel
theorem dL_law_15 : decode cL_law 15 = .ok (.astore_n 2, 1) := by decide +kernel
theorem dL_law_16 : decode cL_law 16 = .ok (.iconst 1, 1) := by decide +kernel
theorem dL_law_17 : decode cL_law 17 = .ok (.newarray .long, 2) := by decide +kernel
theorem dL_law_19 : decode cL_law 19 = .ok (.astore_n 3, 1) := by decide +kernel
theorem dL_law_20 : decode cL_law 20 = .ok (.iconst 0, 1) := by decide +kernel
theorem dL_law_21 : decode cL_law 21 = .ok (.istore 4, 2) := by decide +kernel
theorem dL_law_23 : decode cL_law 23 = .ok (.iload 4, 2) := by decide +kernel
theorem dL_law_25 : decode cL_law 25 = .ok (.aload_n 0, 1) := by decide +kernel
theorem dL_law_26 : decode cL_law 26 = .ok (.arraylength, 1) := by decide +kernel
theorem dL_law_27 : decode cL_law 27 = .ok (.iconst 4, 1) := by decide +kernel
theorem dL_law_28 : decode cL_law 28 = .ok (.isub, 1) := by decide +kernel
theorem dL_law_29 : decode cL_law 29 = .ok (.if_icmp .gt 844, 3) := by decide +kernel
theorem dL_law_32 : decode cL_law 32 = .ok (.aload_n 0, 1) := by decide +kernel
theorem dL_law_33 : decode cL_law 33 = .ok (.iload 4, 2) := by decide +kernel
theorem dL_law_35 : decode cL_law 35 = .ok (.iaload, 1) := by decide +kernel
theorem dL_law_36 : decode cL_law 36 = .ok (.bipush 15, 2) := by decide +kernel
theorem dL_law_38 : decode cL_law 38 = .ok (.iand, 1) := by decide +kernel
theorem dL_law_39 : decode cL_law 39 = .ok (.tableswitch 828 0 13 #[69, 169, 205, 261, 305, 349, 373, 429, 485, 521, 589, 645, 708, 772], 69) := by decide +kernel
theorem dL_law_108 : decode cL_law 108 = .ok (.aload_n 1, 1) := by decide +kernel
theorem dL_law_109 : decode cL_law 109 = .ok (.aload_n 0, 1) := by decide +kernel
theorem dL_law_110 : decode cL_law 110 = .ok (.iload 4, 2) := by decide +kernel
theorem dL_law_112 : decode cL_law 112 = .ok (.iconst 1, 1) := by decide +kernel
theorem dL_law_113 : decode cL_law 113 = .ok (.iadd, 1) := by decide +kernel
theorem dL_law_114 : decode cL_law 114 = .ok (.iaload, 1) := by decide +kernel
theorem dL_law_115 : decode cL_law 115 = .ok (.i2l, 1) := by decide +kernel
theorem dL_law_116 : decode cL_law 116 = .ok (.bipush 32, 2) := by decide +kernel
theorem dL_law_118 : decode cL_law 118 = .ok (.lshl, 1) := by decide +kernel
theorem dL_law_119 : decode cL_law 119 = .ok (.aload_n 0, 1) := by decide +kernel
theorem dL_law_120 : decode cL_law 120 = .ok (.iload 4, 2) := by decide +kernel
theorem dL_law_122 : decode cL_law 122 = .ok (.iconst 2, 1) := by decide +kernel
theorem dL_law_123 : decode cL_law 123 = .ok (.iadd, 1) := by decide +kernel
theorem dL_law_124 : decode cL_law 124 = .ok (.iaload, 1) := by decide +kernel
theorem dL_law_125 : decode cL_law 125 = .ok (.i2l, 1) := by decide +kernel
theorem dL_law_126 : decode cL_law 126 = .ok (.ldc2_w 70, 3) := by decide +kernel
theorem dL_law_129 : decode cL_law 129 = .ok (.land, 1) := by decide +kernel
theorem dL_law_130 : decode cL_law 130 = .ok (.lor, 1) := by decide +kernel
theorem dL_law_131 : decode cL_law 131 = .ok (.aload_n 0, 1) := by decide +kernel
theorem dL_law_132 : decode cL_law 132 = .ok (.iload 4, 2) := by decide +kernel
theorem dL_law_134 : decode cL_law 134 = .ok (.iconst 3, 1) := by decide +kernel
theorem dL_law_135 : decode cL_law 135 = .ok (.iadd, 1) := by decide +kernel
theorem dL_law_136 : decode cL_law 136 = .ok (.iaload, 1) := by decide +kernel
theorem dL_law_137 : decode cL_law 137 = .ok (.aload_n 3, 1) := by decide +kernel
theorem dL_law_138 : decode cL_law 138 = .ok (.invokestatic 72, 3) := by decide +kernel
theorem dL_law_141 : decode cL_law 141 = .ok (.istore 5, 2) := by decide +kernel
theorem dL_law_143 : decode cL_law 143 = .ok (.aload_n 2, 1) := by decide +kernel
