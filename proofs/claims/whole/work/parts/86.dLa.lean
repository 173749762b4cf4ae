set_option maxRecDepth 20000 in
theorem gL_silo_X5_silo : GoodIn wsL_silo (wsV RL 7 RX5 yX5_silo wsX5_silo) := goodIn_app (goodIn_of _ (by decide +kernel)) ggL_silo_X5_silo
theorem dL_silo_0 : decode cL_silo 0 = .ok (.aload_n 2, 1) := by decide +kernel
theorem dL_silo_1 : decode cL_silo 1 = .ok (.iconst 0, 1) := by decide +kernel
theorem dL_silo_2 : decode cL_silo 2 = .ok (.aload_n 0, 1) := by decide +kernel
theorem dL_silo_3 : decode cL_silo 3 = .ok (.iload_n 1, 1) := by decide +kernel
theorem dL_silo_4 : decode cL_silo 4 = .ok (.invokevirtual 7, 3) := by decide +kernel
theorem dL_silo_7 : decode cL_silo 7 = .ok (.i2l, 1) := by decide +kernel
theorem dL_silo_8 : decode cL_silo 8 = .ok (.lastore, 1) := by decide +kernel
theorem dL_silo_9 : decode cL_silo 9 = .ok (.goto 9, 3) := by decide +kernel
theorem dL_silo_12 : decode cL_silo 12 = .ok (.astore_n 3, 1) := by decide +kernel
theorem dL_silo_13 : decode cL_silo 13 = .ok (.iconst 1, 1) := by decide +kernel
theorem dL_silo_14 : decode cL_silo 14 = .ok (.ireturn, 1) := by decide +kernel
theorem dL_silo_15 : decode cL_silo 15 = .ok (.astore_n 3, 1) := by decide +kernel
theorem dL_silo_16 : decode cL_silo 16 = .ok (.iconst 2, 1) := by decide +kernel
theorem dL_silo_17 : decode cL_silo 17 = .ok (.ireturn, 1) := by decide +kernel
theorem dL_silo_18 : decode cL_silo 18 = .ok (.iconst 0, 1) := by decide +kernel
theorem dL_silo_19 : decode cL_silo 19 = .ok (.ireturn, 1) := by decide +kernel
set_option maxRecDepth 20000 in
theorem ggL_terms_X5_terms : GoodIn wsL_terms wsX5_terms := goodIn_ca (goodIn_r _ [6, 7, 8, 9, 10, 11, 5, 12, 13, 14, 15, 16, 17, 18, 19, 20, 21, 22, 23, 24, 25] (by decide +kernel) (by decide +kernel)) (goodIn_sub (fun _ h => List.mem_cons_of_mem _ (List.mem_append_right _ h)) (by decide +kernel))
set_option maxRecDepth 20000 in
theorem gL_terms_X5_terms : GoodIn wsL_terms (wsV RL 17 RX5 yX5_terms wsX5_terms) := goodIn_app (goodIn_of _ (by decide +kernel)) ggL_terms_X5_terms
theorem dL_terms_0 : decode cL_terms 0 = .ok (.aload_n 0, 1) := by decide +kernel
theorem dL_terms_1 : decode cL_terms 1 = .ok (.iload_n 1, 1) := by decide +kernel
theorem dL_terms_2 : decode cL_terms 2 = .ok (.iload_n 2, 1) := by decide +kernel
theorem dL_terms_3 : decode cL_terms 3 = .ok (.iload_n 3, 1) := by decide +kernel
theorem dL_terms_4 : decode cL_terms 4 = .ok (.invokevirtual 17, 3) := by decide +kernel
theorem dL_terms_7 : decode cL_terms 7 = .ok (.goto 7, 3) := by decide +kernel
theorem dL_terms_10 : decode cL_terms 10 = .ok (.astore 4, 2) := by decide +kernel
theorem dL_terms_12 : decode cL_terms 12 = .ok (.iconst 1, 1) := by decide +kernel
theorem dL_terms_13 : decode cL_terms 13 = .ok (.ireturn, 1) := by decide +kernel
theorem dL_terms_14 : decode cL_terms 14 = .ok (.iconst 0, 1) := by decide +kernel
theorem dL_terms_15 : decode cL_terms 15 = .ok (.ireturn, 1) := by decide +kernel
set_option maxRecDepth 20000 in
theorem ggL_deliver_X5_deliver : GoodIn wsL_deliver wsX5_deliver := goodIn_ca (goodIn_ca (goodIn_r _ [7, 8, 9, 10, 11, 12, 13, 14, 15, 16, 17, 18, 19, 20, 6, 21, 22, 23, 24, 25, 26, 27, 28, 29, 30, 31, 32, 33, 34, 35, 36, 37, 38, 39, 40, 41, 42, 43, 44, 45, 46, 47, 48, 49, 50, 51, 52, 53, 54, 55, 56, 57, 58, 59, 60, 61, 62, 63, 64, 65, 66, 67, 68, 69, 70, 71, 72, 73, 74, 75, 76, 77, 78, 79, 80, 81, 82, 83, 84, 85, 86, 87, 88, 89, 90, 91, 92, 93, 94, 95, 96, 97, 98, 99, 100, 101, 102, 103, 104, 105, 106, 107, 108, 109, 110, 111, 112, 113, 114, 115, 116, 117, 118, 119, 120, 121, 122, 123, 124, 125, 126, 127, 128, 129, 130, 131, 132, 133, 134, 135, 136, 137, 138, 139, 140, 141, 142, 143, 144, 145, 146, 147, 148, 149, 150, 151, 152, 153, 154, 155, 156, 157, 158, 159, 160, 161, 162, 163, 164, 165, 166, 167, 168, 169, 170, 171, 172, 173, 174, 175, 176, 177, 178, 179, 180, 181, 182, 183, 184, 185, 186, 187, 188, 189, 190, 191, 192, 193, 194, 195, 196, 197, 198, 199, 200, 201, 202, 203, 204, 205, 206, 207, 208, 209, 210, 211, 212, 213, 214, 215, 216, 217, 218, 219, 220, 221] (by decide +kernel) (by decide +kernel)) (goodIn_sub (fun _ h => List.mem_cons_of_mem _ (List.mem_append_left _ (List.mem_append_right _ h))) (by decide +kernel))) (goodIn_sub (fun _ h => List.mem_cons_of_mem _ (List.mem_append_right _ h)) (by decide +kernel))
set_option maxRecDepth 20000 in
theorem gL_deliver_X5_deliver : GoodIn wsL_deliver (wsV RL 21 RX5 yX5_deliver wsX5_deliver) := goodIn_app (goodIn_of _ (by decide +kernel)) ggL_deliver_X5_deliver
theorem dL_deliver_0 : decode cL_deliver 0 = .ok (.aload 5, 2) := by decide +kernel
theorem dL_deliver_2 : decode cL_deliver 2 = .ok (.iconst 0, 1) := by decide +kernel
theorem dL_deliver_3 : decode cL_deliver 3 = .ok (.aload_n 0, 1) := by decide +kernel
theorem dL_deliver_4 : decode cL_deliver 4 = .ok (.iload_n 1, 1) := by decide +kernel
theorem dL_deliver_5 : decode cL_deliver 5 = .ok (.iload_n 2, 1) := by decide +kernel
theorem dL_deliver_6 : decode cL_deliver 6 = .ok (.iload_n 3, 1) := by decide +kernel
theorem dL_deliver_7 : decode cL_deliver 7 = .ok (.iload 4, 2) := by decide +kernel
theorem dL_deliver_9 : decode cL_deliver 9 = .ok (.invokevirtual 21, 3) := by decide +kernel
theorem dL_deliver_12 : decode cL_deliver 12 = .ok (.i2l, 1) := by decide +kernel
theorem dL_deliver_13 : decode cL_deliver 13 = .ok (.lastore, 1) := by decide +kernel
theorem dL_deliver_14 : decode cL_deliver 14 = .ok (.goto 11, 3) := by decide +kernel
theorem dL_deliver_17 : decode cL_deliver 17 = .ok (.astore 6, 2) := by decide +kernel
theorem dL_deliver_19 : decode cL_deliver 19 = .ok (.iconst 1, 1) := by decide +kernel
theorem dL_deliver_20 : decode cL_deliver 20 = .ok (.ireturn, 1) := by decide +kernel
theorem dL_deliver_21 : decode cL_deliver 21 = .ok (.astore 6, 2) := by decide +kernel
theorem dL_deliver_23 : decode cL_deliver 23 = .ok (.iconst 2, 1) := by decide +kernel
theorem dL_deliver_24 : decode cL_deliver 24 = .ok (.ireturn, 1) := by decide +kernel
theorem dL_deliver_25 : decode cL_deliver 25 = .ok (.iconst 0, 1) := by decide +kernel
theorem dL_deliver_26 : decode cL_deliver 26 = .ok (.ireturn, 1) := by decide +kernel
set_option maxRecDepth 20000 in
theorem ggL_split_X5_split : GoodIn wsL_split wsX5_split := goodIn_ca (goodIn_ca (goodIn_ca (goodIn_r _ [8, 9, 10, 11, 12, 13, 14, 15, 16, 7, 17, 18, 19, 20, 21, 22, 23, 24, 25, 26, 27, 28, 29, 30, 31, 32, 33, 34, 35, 36, 37, 38, 39, 40, 41, 42, 43, 44, 45, 46, 47, 48, 49, 50, 51, 52, 53, 54, 55, 56, 57, 58, 59, 60, 61, 62, 63, 64, 65, 66, 67, 68, 69, 70, 71, 72, 73, 74, 75, 76, 77, 78, 79, 80, 81, 82, 83, 84, 85, 86, 87, 88, 89, 90, 91, 92, 93, 94, 95, 96, 97, 98, 99, 100, 101, 102, 103, 104, 105, 106, 107, 108, 109, 110, 111, 112, 113, 114, 115, 116, 117, 118, 119, 120, 121, 122, 123, 124, 125, 126, 127, 128, 129, 130, 131, 132, 133, 134, 135, 136, 137, 138, 139, 140, 141, 142, 143, 144, 145, 146, 147, 148, 149, 150, 151, 152, 153, 154, 155, 156, 157, 158, 159, 160, 161, 162, 163, 164, 165, 166, 167, 168, 169, 170, 171, 172, 173, 174, 175, 176, 177, 178] (by decide +kernel) (by decide +kernel)) (goodIn_sub (fun _ h => List.mem_cons_of_mem _ (List.mem_append_left _ (List.mem_append_left _ (List.mem_append_right _ h)))) (by decide +kernel))) (goodIn_sub (fun _ h => List.mem_cons_of_mem _ (List.mem_append_left _ (List.mem_append_right _ h))) (by decide +kernel))) (goodIn_sub (fun _ h => List.mem_cons_of_mem _ (List.mem_append_right _ h)) (by decide +kernel))
set_option maxRecDepth 20000 in
theorem gL_split_X5_split : GoodIn wsL_split (wsV RL 25 RX5 yX5_split wsX5_split) := goodIn_app (goodIn_of _ (by decide +kernel)) ggL_split_X5_split
theorem dL_split_0 : decode cL_split 0 = .ok (.aload_n 3, 1) := by decide +kernel
theorem dL_split_1 : decode cL_split 1 = .ok (.iconst 0, 1) := by decide +kernel
theorem dL_split_2 : decode cL_split 2 = .ok (.aload_n 0, 1) := by decide +kernel
theorem dL_split_3 : decode cL_split 3 = .ok (.iload_n 1, 1) := by decide +kernel
theorem dL_split_4 : decode cL_split 4 = .ok (.iload_n 2, 1) := by decide +kernel
theorem dL_split_5 : decode cL_split 5 = .ok (.invokevirtual 25, 3) := by decide +kernel
theorem dL_split_8 : decode cL_split 8 = .ok (.i2l, 1) := by decide +kernel
theorem dL_split_9 : decode cL_split 9 = .ok (.lastore, 1) := by decide +kernel
theorem dL_split_10 : decode cL_split 10 = .ok (.goto 15, 3) := by decide +kernel
theorem dL_split_13 : decode cL_split 13 = .ok (.astore 4, 2) := by decide +kernel
theorem dL_split_15 : decode cL_split 15 = .ok (.iconst 1, 1) := by decide +kernel
theorem dL_split_16 : decode cL_split 16 = .ok (.ireturn, 1) := by decide +kernel
theorem dL_split_17 : decode cL_split 17 = .ok (.astore 4, 2) := by decide +kernel
theorem dL_split_19 : decode cL_split 19 = .ok (.iconst 2, 1) := by decide +kernel
theorem dL_split_20 : decode cL_split 20 = .ok (.ireturn, 1) := by decide +kernel
theorem dL_split_21 : decode cL_split 21 = .ok (.astore 4, 2) := by decide +kernel
theorem dL_split_23 : decode cL_split 23 = .ok (.iconst 3, 1) := by decide +kernel
theorem dL_split_24 : decode cL_split 24 = .ok (.ireturn, 1) := by decide +kernel
theorem dL_split_25 : decode cL_split 25 = .ok (.iconst 0, 1) := by decide +kernel
theorem dL_split_26 : decode cL_split 26 = .ok (.ireturn, 1) := by decide +kernel
set_option maxRecDepth 20000 in
theorem ggL_sell_X5_sell : GoodIn wsL_sell wsX5_sell := goodIn_ca (goodIn_ca (goodIn_ca (goodIn_r _ [8, 9, 10, 11, 12, 7, 13, 14, 15, 16, 17, 18, 19, 20, 21, 22, 23, 24, 25, 26, 27, 28, 29, 30, 31, 32, 33, 34, 35, 36, 37, 38, 39, 40, 41, 42, 43, 44, 45, 46, 47, 48, 49, 50, 51, 52, 53, 54, 55, 56, 57, 58, 59, 60, 61, 62, 63, 64, 65, 66, 67, 68, 69, 70, 71, 72, 73, 74, 75, 76, 77, 78, 79, 80, 81, 82, 83, 84, 85, 86, 87, 88, 89, 90, 91, 92, 93, 94, 95, 96, 97, 98, 99, 100, 101, 102, 103, 104, 105, 106, 107, 108, 109, 110, 111, 112, 113, 114, 115, 116, 117, 118, 119, 120] (by decide +kernel) (by decide +kernel)) (goodIn_sub (fun _ h => List.mem_cons_of_mem _ (List.mem_append_left _ (List.mem_append_left _ (List.mem_append_right _ h)))) (by decide +kernel))) (goodIn_sub (fun _ h => List.mem_cons_of_mem _ (List.mem_append_left _ (List.mem_append_right _ h))) (by decide +kernel))) (goodIn_sub (fun _ h => List.mem_cons_of_mem _ (List.mem_append_right _ h)) (by decide +kernel))
set_option maxRecDepth 20000 in
theorem gL_sell_X5_sell : GoodIn wsL_sell (wsV RL 31 RX5 yX5_sell wsX5_sell) := goodIn_app (goodIn_of _ (by decide +kernel)) ggL_sell_X5_sell
theorem dL_sell_0 : decode cL_sell 0 = .ok (.aload 4, 2) := by decide +kernel
theorem dL_sell_2 : decode cL_sell 2 = .ok (.iconst 0, 1) := by decide +kernel
theorem dL_sell_3 : decode cL_sell 3 = .ok (.aload_n 0, 1) := by decide +kernel
theorem dL_sell_4 : decode cL_sell 4 = .ok (.iload_n 1, 1) := by decide +kernel
theorem dL_sell_5 : decode cL_sell 5 = .ok (.iload_n 2, 1) := by decide +kernel
theorem dL_sell_6 : decode cL_sell 6 = .ok (.iload_n 3, 1) := by decide +kernel
theorem dL_sell_7 : decode cL_sell 7 = .ok (.invokevirtual 31, 3) := by decide +kernel
theorem dL_sell_10 : decode cL_sell 10 = .ok (.i2l, 1) := by decide +kernel
theorem dL_sell_11 : decode cL_sell 11 = .ok (.lastore, 1) := by decide +kernel
theorem dL_sell_12 : decode cL_sell 12 = .ok (.goto 15, 3) := by decide +kernel
theorem dL_sell_15 : decode cL_sell 15 = .ok (.astore 5, 2) := by decide +kernel
theorem dL_sell_17 : decode cL_sell 17 = .ok (.iconst 1, 1) := by decide +kernel
theorem dL_sell_18 : decode cL_sell 18 = .ok (.ireturn, 1) := by decide +kernel
theorem dL_sell_19 : decode cL_sell 19 = .ok (.astore 5, 2) := by decide +kernel
theorem dL_sell_21 : decode cL_sell 21 = .ok (.iconst 2, 1) := by decide +kernel
theorem dL_sell_22 : decode cL_sell 22 = .ok (.ireturn, 1) := by decide +kernel
theorem dL_sell_23 : decode cL_sell 23 = .ok (.astore 5, 2) := by decide +kernel
theorem dL_sell_25 : decode cL_sell 25 = .ok (.iconst 3, 1) := by decide +kernel
theorem dL_sell_26 : decode cL_sell 26 = .ok (.ireturn, 1) := by decide +kernel
theorem dL_sell_27 : decode cL_sell 27 = .ok (.iconst 0, 1) := by decide +kernel
theorem dL_sell_28 : decode cL_sell 28 = .ok (.ireturn, 1) := by decide +kernel
set_option maxRecDepth 20000 in
theorem ggL_pledge_X5_pledge : GoodIn wsL_pledge wsX5_pledge := goodIn_ca (goodIn_ca (goodIn_ca (goodIn_r _ [8, 9, 10, 11, 12, 13, 14, 15, 16, 7, 17, 18, 19, 20, 21, 22, 23, 24, 25, 26, 27, 28, 29, 30, 31, 32, 33, 34, 35, 36, 37, 38, 39, 40, 41, 42, 43, 44, 45, 46, 47, 48, 49, 50, 51, 52, 53, 54, 55, 56, 57, 58, 59, 60, 61, 62, 63, 64, 65, 66, 67, 68, 69, 70, 71, 72, 73, 74, 75, 76, 77, 78, 79, 80, 81, 82, 83, 84, 85, 86, 87, 88, 89, 90, 91, 92, 93, 94, 95, 96, 97, 98, 99, 100, 101, 102] (by decide +kernel) (by decide +kernel)) (goodIn_sub (fun _ h => List.mem_cons_of_mem _ (List.mem_append_left _ (List.mem_append_left _ (List.mem_append_right _ h)))) (by decide +kernel))) (goodIn_sub (fun _ h => List.mem_cons_of_mem _ (List.mem_append_left _ (List.mem_append_right _ h))) (by decide +kernel))) (goodIn_sub (fun _ h => List.mem_cons_of_mem _ (List.mem_append_right _ h)) (by decide +kernel))
set_option maxRecDepth 20000 in
theorem gL_pledge_X5_pledge : GoodIn wsL_pledge (wsV RL 35 RX5 yX5_pledge wsX5_pledge) := goodIn_app (goodIn_of _ (by decide +kernel)) ggL_pledge_X5_pledge
theorem dL_pledge_0 : decode cL_pledge 0 = .ok (.aload 5, 2) := by decide +kernel
theorem dL_pledge_2 : decode cL_pledge 2 = .ok (.iconst 0, 1) := by decide +kernel
theorem dL_pledge_3 : decode cL_pledge 3 = .ok (.aload_n 0, 1) := by decide +kernel
theorem dL_pledge_4 : decode cL_pledge 4 = .ok (.iload_n 1, 1) := by decide +kernel
theorem dL_pledge_5 : decode cL_pledge 5 = .ok (.iload_n 2, 1) := by decide +kernel
theorem dL_pledge_6 : decode cL_pledge 6 = .ok (.iload_n 3, 1) := by decide +kernel
theorem dL_pledge_7 : decode cL_pledge 7 = .ok (.iload 4, 2) := by decide +kernel
theorem dL_pledge_9 : decode cL_pledge 9 = .ok (.invokevirtual 35, 3) := by decide +kernel
theorem dL_pledge_12 : decode cL_pledge 12 = .ok (.i2l, 1) := by decide +kernel
theorem dL_pledge_13 : decode cL_pledge 13 = .ok (.lastore, 1) := by decide +kernel
theorem dL_pledge_14 : decode cL_pledge 14 = .ok (.goto 15, 3) := by decide +kernel
theorem dL_pledge_17 : decode cL_pledge 17 = .ok (.astore 6, 2) := by decide +kernel
theorem dL_pledge_19 : decode cL_pledge 19 = .ok (.iconst 1, 1) := by decide +kernel
theorem dL_pledge_20 : decode cL_pledge 20 = .ok (.ireturn, 1) := by decide +kernel
theorem dL_pledge_21 : decode cL_pledge 21 = .ok (.astore 6, 2) := by decide +kernel
theorem dL_pledge_23 : decode cL_pledge 23 = .ok (.iconst 2, 1) := by decide +kernel
theorem dL_pledge_24 : decode cL_pledge 24 = .ok (.ireturn, 1) := by decide +kernel
theorem dL_pledge_25 : decode cL_pledge 25 = .ok (.astore 6, 2) := by decide +kernel
theorem dL_pledge_27 : decode cL_pledge 27 = .ok (.iconst 3, 1) := by decide +kernel
theorem dL_pledge_28 : decode cL_pledge 28 = .ok (.ireturn, 1) := by decide +kernel
theorem dL_pledge_29 : decode cL_pledge 29 = .ok (.iconst 0, 1) := by decide +kernel
theorem dL_pledge_30 : decode cL_pledge 30 = .ok (.ireturn, 1) := by decide +kernel
set_option maxRecDepth 20000 in
theorem ggL_redeem_X5_redeem : GoodIn wsL_redeem wsX5_redeem := goodIn_ca (goodIn_ca (goodIn_r _ [7, 8, 9, 10, 11, 12, 13, 14, 6, 15, 16, 17, 18, 19, 20, 21, 22, 23, 24, 25, 26, 27, 28, 29, 30, 31, 32, 33, 34, 35, 36, 37, 38, 39, 40, 41, 42, 43, 44, 45, 46, 47, 48, 49, 50, 51, 52, 53, 54, 55, 56, 57, 58, 59, 60, 61, 62, 63, 64, 65, 66, 67, 68, 69, 70, 71, 72, 73, 74, 75, 76, 77, 78, 79, 80, 81, 82, 83, 84, 85, 86, 87, 88, 89, 90, 91] (by decide +kernel) (by decide +kernel)) (goodIn_sub (fun _ h => List.mem_cons_of_mem _ (List.mem_append_left _ (List.mem_append_right _ h))) (by decide +kernel))) (goodIn_sub (fun _ h => List.mem_cons_of_mem _ (List.mem_append_right _ h)) (by decide +kernel))
set_option maxRecDepth 20000 in
theorem gL_redeem_X5_redeem : GoodIn wsL_redeem (wsV RL 38 RX5 yX5_redeem wsX5_redeem) := goodIn_app (goodIn_of _ (by decide +kernel)) ggL_redeem_X5_redeem
theorem dL_redeem_0 : decode cL_redeem 0 = .ok (.aload_n 2, 1) := by decide +kernel
theorem dL_redeem_1 : decode cL_redeem 1 = .ok (.iconst 0, 1) := by decide +kernel
theorem dL_redeem_2 : decode cL_redeem 2 = .ok (.aload_n 0, 1) := by decide +kernel
theorem dL_redeem_3 : decode cL_redeem 3 = .ok (.iload_n 1, 1) := by decide +kernel
theorem dL_redeem_4 : decode cL_redeem 4 = .ok (.invokevirtual 38, 3) := by decide +kernel
theorem dL_redeem_7 : decode cL_redeem 7 = .ok (.i2l, 1) := by decide +kernel
theorem dL_redeem_8 : decode cL_redeem 8 = .ok (.lastore, 1) := by decide +kernel
theorem dL_redeem_9 : decode cL_redeem 9 = .ok (.goto 9, 3) := by decide +kernel
theorem dL_redeem_12 : decode cL_redeem 12 = .ok (.astore_n 3, 1) := by decide +kernel
theorem dL_redeem_13 : decode cL_redeem 13 = .ok (.iconst 1, 1) := by decide +kernel
theorem dL_redeem_14 : decode cL_redeem 14 = .ok (.ireturn, 1) := by decide +kernel
theorem dL_redeem_15 : decode cL_redeem 15 = .ok (.astore_n 3, 1) := by decide +kernel
theorem dL_redeem_16 : decode cL_redeem 16 = .ok (.iconst 2, 1) := by decide +kernel
theorem dL_redeem_17 : decode cL_redeem 17 = .ok (.ireturn, 1) := by decide +kernel
theorem dL_redeem_18 : decode cL_redeem 18 = .ok (.iconst 0, 1) := by decide +kernel
theorem dL_redeem_19 : decode cL_redeem 19 = .ok (.ireturn, 1) := by decide +kernel
set_option maxRecDepth 20000 in
theorem ggL_takeOut_X5_takeOut : GoodIn wsL_takeOut wsX5_takeOut := goodIn_ca (goodIn_ca (goodIn_r _ [7, 8, 9, 10, 11, 12, 13, 6, 14, 15, 16, 17, 18, 19, 20, 21, 22, 23, 24, 25, 26, 27, 28, 29, 30, 31, 32, 33, 34, 35, 36, 37, 38, 39, 40, 41, 42, 43, 44, 45, 46, 47, 48, 49, 50, 51, 52, 53, 54, 55, 56, 57, 58, 59, 60, 61, 62, 63, 64, 65, 66, 67, 68, 69, 70, 71, 72, 73, 74, 75, 76, 77, 78, 79, 80, 81, 82, 83, 84, 85, 86, 87, 88, 89, 90, 91, 92, 93, 94, 95, 96, 97, 98, 99, 100, 101] (by decide +kernel) (by decide +kernel)) (goodIn_sub (fun _ h => List.mem_cons_of_mem _ (List.mem_append_left _ (List.mem_append_right _ h))) (by decide +kernel))) (goodIn_sub (fun _ h => List.mem_cons_of_mem _ (List.mem_append_right _ h)) (by decide +kernel))
set_option maxRecDepth 20000 in
theorem gL_takeOut_X5_takeOut : GoodIn wsL_takeOut (wsV RL 41 RX5 yX5_takeOut wsX5_takeOut) := goodIn_app (goodIn_of _ (by decide +kernel)) ggL_takeOut_X5_takeOut
theorem dL_takeOut_0 : decode cL_takeOut 0 = .ok (.aload_n 2, 1) := by decide +kernel
theorem dL_takeOut_1 : decode cL_takeOut 1 = .ok (.iconst 0, 1) := by decide +kernel
theorem dL_takeOut_2 : decode cL_takeOut 2 = .ok (.aload_n 0, 1) := by decide +kernel
theorem dL_takeOut_3 : decode cL_takeOut 3 = .ok (.iload_n 1, 1) := by decide +kernel
theorem dL_takeOut_4 : decode cL_takeOut 4 = .ok (.invokevirtual 41, 3) := by decide +kernel
theorem dL_takeOut_7 : decode cL_takeOut 7 = .ok (.i2l, 1) := by decide +kernel
theorem dL_takeOut_8 : decode cL_takeOut 8 = .ok (.lastore, 1) := by decide +kernel
theorem dL_takeOut_9 : decode cL_takeOut 9 = .ok (.goto 9, 3) := by decide +kernel
theorem dL_takeOut_12 : decode cL_takeOut 12 = .ok (.astore_n 3, 1) := by decide +kernel
theorem dL_takeOut_13 : decode cL_takeOut 13 = .ok (.iconst 1, 1) := by decide +kernel
theorem dL_takeOut_14 : decode cL_takeOut 14 = .ok (.ireturn, 1) := by decide +kernel
theorem dL_takeOut_15 : decode cL_takeOut 15 = .ok (.astore_n 3, 1) := by decide +kernel
theorem dL_takeOut_16 : decode cL_takeOut 16 = .ok (.iconst 2, 1) := by decide +kernel
theorem dL_takeOut_17 : decode cL_takeOut 17 = .ok (.ireturn, 1) := by decide +kernel
theorem dL_takeOut_18 : decode cL_takeOut 18 = .ok (.iconst 0, 1) := by decide +kernel
theorem dL_takeOut_19 : decode cL_takeOut 19 = .ok (.ireturn, 1) := by decide +kernel
set_option maxRecDepth 20000 in
theorem ggL_reweigh_X5_reweigh : GoodIn wsL_reweigh wsX5_reweigh := goodIn_ca (goodIn_ca (goodIn_ca (goodIn_r _ [8, 9, 10, 11, 12, 13, 14, 15, 16, 17, 18, 19, 7, 20, 21, 22, 23, 24, 25, 26, 27, 28, 29, 30, 31, 32, 33, 34, 35, 36, 37, 38, 39, 40, 41, 42, 43, 44, 45, 46, 47, 48, 49, 50, 51, 52, 53, 54, 55, 56, 57, 58, 59, 60, 61, 62, 63, 64, 65, 66, 67, 68, 69, 70, 71, 72, 73, 74, 75, 76, 77, 78, 79, 80, 81, 82, 83, 84, 85, 86, 87, 88, 89, 90, 91, 92, 93, 94, 95, 96, 97, 98, 99, 100, 101, 102, 103, 104, 105, 106, 107, 108, 109, 110, 111, 112, 113, 114, 115, 116, 117, 118, 119, 120, 121, 122, 123, 124, 125, 126, 127, 128, 129, 130, 131, 132, 133, 134, 135, 136, 137, 138, 139, 140, 141, 142, 143, 144, 145, 146, 147, 148, 149, 150, 151, 152, 153, 154, 155, 156, 157, 158, 159, 160, 161, 162, 163, 164, 165, 166, 167, 168, 169, 170, 171, 172, 173, 174, 175, 176, 177, 178, 179, 180, 181, 182, 183, 184, 185, 186, 187, 188, 189, 190, 191, 192, 193, 194, 195, 196, 197, 198, 199, 200, 201, 202, 203, 204, 205, 206, 207, 208, 209, 210, 211, 212, 213, 214, 215, 216, 217, 218, 219, 220, 221, 222, 223, 224, 225, 226, 227, 228, 229, 230, 231, 232, 233, 234, 235, 236, 237, 238, 239, 240, 241, 242, 243, 244, 245, 246, 247, 248, 249, 250, 251, 252, 253, 254, 255, 256, 257, 258] (by decide +kernel) (by decide +kernel)) (goodIn_sub (fun _ h => List.mem_cons_of_mem _ (List.mem_append_left _ (List.mem_append_left _ (List.mem_append_right _ h)))) (by decide +kernel))) (goodIn_sub (fun _ h => List.mem_cons_of_mem _ (List.mem_append_left _ (List.mem_append_right _ h))) (by decide +kernel))) (goodIn_sub (fun _ h => List.mem_cons_of_mem _ (List.mem_append_right _ h)) (by decide +kernel))
set_option maxRecDepth 20000 in
theorem gL_reweigh_X5_reweigh : GoodIn wsL_reweigh (wsV RL 44 RX5 yX5_reweigh wsX5_reweigh) := goodIn_app (goodIn_of _ (by decide +kernel)) ggL_reweigh_X5_reweigh
theorem dL_reweigh_0 : decode cL_reweigh 0 = .ok (.aload_n 3, 1) := by decide +kernel
theorem dL_reweigh_1 : decode cL_reweigh 1 = .ok (.iconst 0, 1) := by decide +kernel
theorem dL_reweigh_2 : decode cL_reweigh 2 = .ok (.aload_n 0, 1) := by decide +kernel
theorem dL_reweigh_3 : decode cL_reweigh 3 = .ok (.iload_n 1, 1) := by decide +kernel
theorem dL_reweigh_4 : decode cL_reweigh 4 = .ok (.iload_n 2, 1) := by decide +kernel
theorem dL_reweigh_5 : decode cL_reweigh 5 = .ok (.invokevirtual 44, 3) := by decide +kernel
theorem dL_reweigh_8 : decode cL_reweigh 8 = .ok (.i2l, 1) := by decide +kernel
theorem dL_reweigh_9 : decode cL_reweigh 9 = .ok (.lastore, 1) := by decide +kernel
theorem dL_reweigh_10 : decode cL_reweigh 10 = .ok (.goto 15, 3) := by decide +kernel
theorem dL_reweigh_13 : decode cL_reweigh 13 = .ok (.astore 4, 2) := by decide +kernel
theorem dL_reweigh_15 : decode cL_reweigh 15 = .ok (.iconst 1, 1) := by decide +kernel
theorem dL_reweigh_16 : decode cL_reweigh 16 = .ok (.ireturn, 1) := by decide +kernel
theorem dL_reweigh_17 : decode cL_reweigh 17 = .ok (.astore 4, 2) := by decide +kernel
theorem dL_reweigh_19 : decode cL_reweigh 19 = .ok (.iconst 2, 1) := by decide +kernel
theorem dL_reweigh_20 : decode cL_reweigh 20 = .ok (.ireturn, 1) := by decide +kernel
theorem dL_reweigh_21 : decode cL_reweigh 21 = .ok (.astore 4, 2) := by decide +kernel
theorem dL_reweigh_23 : decode cL_reweigh 23 = .ok (.iconst 3, 1) := by decide +kernel
theorem dL_reweigh_24 : decode cL_reweigh 24 = .ok (.ireturn, 1) := by decide +kernel
theorem dL_reweigh_25 : decode cL_reweigh 25 = .ok (.iconst 0, 1) := by decide +kernel
theorem dL_reweigh_26 : decode cL_reweigh 26 = .ok (.ireturn, 1) := by decide +kernel
set_option maxRecDepth 20000 in
theorem ggL_contract_X5_contract : GoodIn wsL_contract wsX5_contract := goodIn_ca (goodIn_ca (goodIn_r _ [7, 8, 9, 10, 11, 12, 13, 14, 15, 16, 17, 18, 19, 20, 21, 22, 6, 23, 24, 25, 26, 27, 28, 29, 30, 31, 32, 33, 34, 35, 36, 37, 38, 39, 40, 41, 42, 43, 44, 45, 46, 47, 48, 49, 50, 51, 52, 53, 54, 55, 56, 57, 58, 59, 60, 61, 62, 63, 64, 65, 66, 67, 68, 69, 70, 71, 72, 73, 74, 75, 76, 77, 78, 79, 80, 81, 82, 83, 84, 85, 86, 87, 88, 89, 90, 91, 92, 93, 94, 95, 96, 97, 98, 99, 100, 101, 102, 103, 104, 105, 106, 107, 108, 109, 110, 111, 112, 113, 114, 115, 116, 117, 118, 119] (by decide +kernel) (by decide +kernel)) (goodIn_sub (fun _ h => List.mem_cons_of_mem _ (List.mem_append_left _ (List.mem_append_right _ h))) (by decide +kernel))) (goodIn_sub (fun _ h => List.mem_cons_of_mem _ (List.mem_append_right _ h)) (by decide +kernel))
set_option maxRecDepth 20000 in
theorem gL_contract_X5_contract : GoodIn wsL_contract (wsV RL 47 RX5 yX5_contract wsX5_contract) := goodIn_app (goodIn_of _ (by decide +kernel)) ggL_contract_X5_contract
theorem dL_contract_0 : decode cL_contract 0 = .ok (.aload 8, 2) := by decide +kernel
theorem dL_contract_2 : decode cL_contract 2 = .ok (.iconst 0, 1) := by decide +kernel
theorem dL_contract_3 : decode cL_contract 3 = .ok (.aload_n 0, 1) := by decide +kernel
theorem dL_contract_4 : decode cL_contract 4 = .ok (.iload_n 1, 1) := by decide +kernel
theorem dL_contract_5 : decode cL_contract 5 = .ok (.iload_n 2, 1) := by decide +kernel
theorem dL_contract_6 : decode cL_contract 6 = .ok (.iload_n 3, 1) := by decide +kernel
theorem dL_contract_7 : decode cL_contract 7 = .ok (.iload 4, 2) := by decide +kernel
theorem dL_contract_9 : decode cL_contract 9 = .ok (.iload 5, 2) := by decide +kernel
theorem dL_contract_11 : decode cL_contract 11 = .ok (.iload 6, 2) := by decide +kernel
theorem dL_contract_13 : decode cL_contract 13 = .ok (.iload 7, 2) := by decide +kernel
theorem dL_contract_15 : decode cL_contract 15 = .ok (.invokevirtual 47, 3) := by decide +kernel
theorem dL_contract_18 : decode cL_contract 18 = .ok (.i2l, 1) := by decide +kernel
theorem dL_contract_19 : decode cL_contract 19 = .ok (.lastore, 1) := by decide +kernel
theorem dL_contract_20 : decode cL_contract 20 = .ok (.goto 11, 3) := by decide +kernel
theorem dL_contract_23 : decode cL_contract 23 = .ok (.astore 9, 2) := by decide +kernel
theorem dL_contract_25 : decode cL_contract 25 = .ok (.iconst 1, 1) := by decide +kernel
theorem dL_contract_26 : decode cL_contract 26 = .ok (.ireturn, 1) := by decide +kernel
theorem dL_contract_27 : decode cL_contract 27 = .ok (.astore 9, 2) := by decide +kernel
theorem dL_contract_29 : decode cL_contract 29 = .ok (.iconst 2, 1) := by decide +kernel
theorem dL_contract_30 : decode cL_contract 30 = .ok (.ireturn, 1) := by decide +kernel
theorem dL_contract_31 : decode cL_contract 31 = .ok (.iconst 0, 1) := by decide +kernel
theorem dL_contract_32 : decode cL_contract 32 = .ok (.ireturn, 1) := by decide +kernel
set_option maxRecDepth 20000 in
theorem ggL_pass_X5_pass : GoodIn wsL_pass wsX5_pass := goodIn_ca (goodIn_r _ [6, 7, 8, 9, 5, 10, 11, 12, 13, 14, 15, 16, 17, 18, 19, 20, 21, 22, 23, 24, 25, 26, 27, 28, 29, 30, 31, 32, 33, 34, 35, 36, 37, 38, 39, 40, 41, 42, 43, 44, 45, 46, 47, 48, 49, 50, 51, 52, 53, 54, 55, 56, 57, 58, 59, 60, 61, 62, 63, 64, 65, 66, 67, 68, 69, 70, 71, 72, 73, 74, 75, 76, 77, 78, 79, 80, 81, 82, 83, 84, 85, 86, 87, 88, 89, 90, 91, 92, 93, 94, 95, 96, 97, 98, 99, 100, 101, 102, 103, 104, 105, 106, 107, 108, 109, 110, 111, 112, 113, 114, 115, 116, 117, 118, 119, 120, 121, 122, 123, 124, 125, 126, 127, 128, 129, 130, 131, 132, 133, 134, 135, 136, 137, 138, 139, 140, 141, 142, 143, 144, 145, 146, 147, 148, 149, 150, 151, 152, 153, 154, 155, 156, 157, 158, 159, 160, 161, 162, 163, 164, 165, 166, 167, 168, 169, 170, 171, 172, 173, 174, 175, 176, 177, 178, 179, 180, 181, 182, 183, 184, 185, 186, 187, 188, 189, 190, 191, 192, 193, 194, 195, 196, 197, 198, 199, 200, 201, 202, 203, 204, 205, 206, 207, 208, 209, 210, 211, 212, 213, 214, 215, 216, 217, 218, 219, 220, 221, 222, 223, 224, 225, 226, 227, 228, 229, 230, 231, 232, 233, 234, 235, 236, 237, 238, 239, 240, 241, 242, 243, 244, 245, 246, 247, 248, 249, 250, 251, 252, 253, 254, 255, 256, 257, 258, 259, 260, 261, 262, 263, 264, 265, 266, 267, 268, 269, 270, 271, 272, 273, 274, 275, 276, 277, 278, 279, 280, 281, 282, 283, 284] (by decide +kernel) (by decide +kernel)) (goodIn_sub (fun _ h => List.mem_cons_of_mem _ (List.mem_append_right _ h)) (by decide +kernel))
set_option maxRecDepth 20000 in
theorem gL_pass_X5_pass : GoodIn wsL_pass (wsV RL 51 RX5 yX5_pass wsX5_pass) := goodIn_app (goodIn_of _ (by decide +kernel)) ggL_pass_X5_pass
theorem dL_pass_0 : decode cL_pass 0 = .ok (.aload_n 2, 1) := by decide +kernel
theorem dL_pass_1 : decode cL_pass 1 = .ok (.iconst 0, 1) := by decide +kernel
theorem dL_pass_2 : decode cL_pass 2 = .ok (.aload_n 0, 1) := by decide +kernel
theorem dL_pass_3 : decode cL_pass 3 = .ok (.iload_n 1, 1) := by decide +kernel
theorem dL_pass_4 : decode cL_pass 4 = .ok (.invokevirtual 51, 3) := by decide +kernel
theorem dL_pass_7 : decode cL_pass 7 = .ok (.i2l, 1) := by decide +kernel
theorem dL_pass_8 : decode cL_pass 8 = .ok (.lastore, 1) := by decide +kernel
theorem dL_pass_9 : decode cL_pass 9 = .ok (.goto 6, 3) := by decide +kernel
theorem dL_pass_12 : decode cL_pass 12 = .ok (.astore_n 3, 1) := by decide +kernel
theorem dL_pass_13 : decode cL_pass 13 = .ok (.iconst 1, 1) := by decide +kernel
theorem dL_pass_14 : decode cL_pass 14 = .ok (.ireturn, 1) := by decide +kernel
theorem dL_pass_15 : decode cL_pass 15 = .ok (.iconst 0, 1) := by decide +kernel
theorem dL_pass_16 : decode cL_pass 16 = .ok (.ireturn, 1) := by decide +kernel
set_option maxRecDepth 20000 in
theorem ggL_receipt_X5_receipt : GoodIn wsL_receipt wsX5_receipt := goodIn_ca (goodIn_ca (goodIn_r _ [7, 8, 9, 10, 11, 12, 13, 14, 15, 16, 17, 18, 19, 20, 21, 22, 6, 23, 24, 25, 26, 27, 28, 29, 30, 31, 32, 33, 34, 35, 36, 37, 38, 39, 40, 41, 42, 43, 44, 45, 46, 47, 48, 49, 50, 51, 52, 53, 54, 55, 56, 57, 58, 59, 60, 61, 62, 63, 64, 65, 66, 67, 68, 69, 70, 71, 72, 73, 74, 75, 76, 77, 78, 79, 80, 81, 82, 83, 84, 85, 86, 87, 88, 89, 90, 91, 92, 93, 94, 95, 96, 97, 98, 99, 100, 101, 102, 103, 104, 105, 106, 107] (by decide +kernel) (by decide +kernel)) (goodIn_sub (fun _ h => List.mem_cons_of_mem _ (List.mem_append_left _ (List.mem_append_right _ h))) (by decide +kernel))) (goodIn_sub (fun _ h => List.mem_cons_of_mem _ (List.mem_append_right _ h)) (by decide +kernel))
set_option maxRecDepth 20000 in
theorem gL_receipt_X5_receipt : GoodIn wsL_receipt (wsV RL 54 RX5 yX5_receipt wsX5_receipt) := goodIn_app (goodIn_of _ (by decide +kernel)) ggL_receipt_X5_receipt
theorem dL_receipt_0 : decode cL_receipt 0 = .ok (.aload_n 3, 1) := by decide +kernel
theorem dL_receipt_1 : decode cL_receipt 1 = .ok (.iconst 0, 1) := by decide +kernel
theorem dL_receipt_2 : decode cL_receipt 2 = .ok (.aload_n 0, 1) := by decide +kernel
theorem dL_receipt_3 : decode cL_receipt 3 = .ok (.iload_n 1, 1) := by decide +kernel
theorem dL_receipt_4 : decode cL_receipt 4 = .ok (.iload_n 2, 1) := by decide +kernel
theorem dL_receipt_5 : decode cL_receipt 5 = .ok (.invokevirtual 54, 3) := by decide +kernel
theorem dL_receipt_8 : decode cL_receipt 8 = .ok (.i2l, 1) := by decide +kernel
theorem dL_receipt_9 : decode cL_receipt 9 = .ok (.lastore, 1) := by decide +kernel
theorem dL_receipt_10 : decode cL_receipt 10 = .ok (.goto 11, 3) := by decide +kernel
theorem dL_receipt_13 : decode cL_receipt 13 = .ok (.astore 4, 2) := by decide +kernel
theorem dL_receipt_15 : decode cL_receipt 15 = .ok (.iconst 1, 1) := by decide +kernel
theorem dL_receipt_16 : decode cL_receipt 16 = .ok (.ireturn, 1) := by decide +kernel
theorem dL_receipt_17 : decode cL_receipt 17 = .ok (.astore 4, 2) := by decide +kernel
theorem dL_receipt_19 : decode cL_receipt 19 = .ok (.iconst 2, 1) := by decide +kernel
theorem dL_receipt_20 : decode cL_receipt 20 = .ok (.ireturn, 1) := by decide +kernel
theorem dL_receipt_21 : decode cL_receipt 21 = .ok (.iconst 0, 1) := by decide +kernel
theorem dL_receipt_22 : decode cL_receipt 22 = .ok (.ireturn, 1) := by decide +kernel
set_option maxRecDepth 20000 in
theorem ggL_delivery_X5_delivery : GoodIn wsL_delivery wsX5_delivery := goodIn_ca (goodIn_ca (goodIn_r _ [7, 8, 9, 10, 11, 12, 13, 14, 15, 16, 17, 6, 18, 19, 20, 21, 22, 23, 24, 25, 26, 27, 28, 29, 30, 31, 32, 33, 34, 35, 36, 37, 38, 39, 40, 41, 42, 43, 44, 45, 46, 47, 48, 49, 50, 51, 52, 53, 54, 55, 56, 57, 58, 59, 60, 61, 62, 63, 64, 65, 66, 67, 68, 69, 70, 71, 72] (by decide +kernel) (by decide +kernel)) (goodIn_sub (fun _ h => List.mem_cons_of_mem _ (List.mem_append_left _ (List.mem_append_right _ h))) (by decide +kernel))) (goodIn_sub (fun _ h => List.mem_cons_of_mem _ (List.mem_append_right _ h)) (by decide +kernel))
set_option maxRecDepth 20000 in
theorem gL_delivery_X5_delivery : GoodIn wsL_delivery (wsV RL 57 RX5 yX5_delivery wsX5_delivery) := goodIn_app (goodIn_of _ (by decide +kernel)) ggL_delivery_X5_delivery
theorem dL_delivery_0 : decode cL_delivery 0 = .ok (.aload_n 3, 1) := by decide +kernel
theorem dL_delivery_1 : decode cL_delivery 1 = .ok (.iconst 0, 1) := by decide +kernel
theorem dL_delivery_2 : decode cL_delivery 2 = .ok (.aload_n 0, 1) := by decide +kernel
theorem dL_delivery_3 : decode cL_delivery 3 = .ok (.iload_n 1, 1) := by decide +kernel
theorem dL_delivery_4 : decode cL_delivery 4 = .ok (.iload_n 2, 1) := by decide +kernel
theorem dL_delivery_5 : decode cL_delivery 5 = .ok (.invokevirtual 57, 3) := by decide +kernel
theorem dL_delivery_8 : decode cL_delivery 8 = .ok (.i2l, 1) := by decide +kernel
theorem dL_delivery_9 : decode cL_delivery 9 = .ok (.lastore, 1) := by decide +kernel
theorem dL_delivery_10 : decode cL_delivery 10 = .ok (.goto 11, 3) := by decide +kernel
theorem dL_delivery_13 : decode cL_delivery 13 = .ok (.astore 4, 2) := by decide +kernel
theorem dL_delivery_15 : decode cL_delivery 15 = .ok (.iconst 1, 1) := by decide +kernel
theorem dL_delivery_16 : decode cL_delivery 16 = .ok (.ireturn, 1) := by decide +kernel
theorem dL_delivery_17 : decode cL_delivery 17 = .ok (.astore 4, 2) := by decide +kernel
theorem dL_delivery_19 : decode cL_delivery 19 = .ok (.iconst 2, 1) := by decide +kernel
theorem dL_delivery_20 : decode cL_delivery 20 = .ok (.ireturn, 1) := by decide +kernel
theorem dL_delivery_21 : decode cL_delivery 21 = .ok (.iconst 0, 1) := by decide +kernel
theorem dL_delivery_22 : decode cL_delivery 22 = .ok (.ireturn, 1) := by decide +kernel
set_option maxRecDepth 20000 in
theorem ggL_ofContract_X5_ofContract : GoodIn wsL_ofContract wsX5_ofContract := goodIn_ca (goodIn_ca (goodIn_r _ [7, 8, 9, 10, 11, 12, 13, 14, 15, 16, 6, 17, 18, 19, 20, 21, 22, 23, 24, 25, 26, 27, 28, 29, 30, 31, 32, 33, 34, 35, 36, 37, 38, 39, 40, 41, 42, 43, 44, 45, 46, 47, 48, 49, 50, 51, 52, 53, 54, 55, 56, 57, 58, 59, 60, 61, 62, 63, 64, 65, 66, 67, 68, 69] (by decide +kernel) (by decide +kernel)) (goodIn_sub (fun _ h => List.mem_cons_of_mem _ (List.mem_append_left _ (List.mem_append_right _ h))) (by decide +kernel))) (goodIn_sub (fun _ h => List.mem_cons_of_mem _ (List.mem_append_right _ h)) (by decide +kernel))
set_option maxRecDepth 20000 in
theorem gL_ofContract_X5_ofContract : GoodIn wsL_ofContract (wsV RL 60 RX5 yX5_ofContract wsX5_ofContract) := goodIn_app (goodIn_of _ (by decide +kernel)) ggL_ofContract_X5_ofContract
theorem dL_ofContract_0 : decode cL_ofContract 0 = .ok (.aload_n 3, 1) := by decide +kernel
theorem dL_ofContract_1 : decode cL_ofContract 1 = .ok (.iconst 0, 1) := by decide +kernel
theorem dL_ofContract_2 : decode cL_ofContract 2 = .ok (.aload_n 0, 1) := by decide +kernel
theorem dL_ofContract_3 : decode cL_ofContract 3 = .ok (.iload_n 1, 1) := by decide +kernel
theorem dL_ofContract_4 : decode cL_ofContract 4 = .ok (.iload_n 2, 1) := by decide +kernel
theorem dL_ofContract_5 : decode cL_ofContract 5 = .ok (.invokevirtual 60, 3) := by decide +kernel
theorem dL_ofContract_8 : decode cL_ofContract 8 = .ok (.i2l, 1) := by decide +kernel
theorem dL_ofContract_9 : decode cL_ofContract 9 = .ok (.lastore, 1) := by decide +kernel
theorem dL_ofContract_10 : decode cL_ofContract 10 = .ok (.goto 11, 3) := by decide +kernel
theorem dL_ofContract_13 : decode cL_ofContract 13 = .ok (.astore 4, 2) := by decide +kernel
theorem dL_ofContract_15 : decode cL_ofContract 15 = .ok (.iconst 1, 1) := by decide +kernel
theorem dL_ofContract_16 : decode cL_ofContract 16 = .ok (.ireturn, 1) := by decide +kernel
theorem dL_ofContract_17 : decode cL_ofContract 17 = .ok (.astore 4, 2) := by decide +kernel
theorem dL_ofContract_19 : decode cL_ofContract 19 = .ok (.iconst 2, 1) := by decide +kernel
theorem dL_ofContract_20 : decode cL_ofContract 20 = .ok (.ireturn, 1) := by decide +kernel
theorem dL_ofContract_21 : decode cL_ofContract 21 = .ok (.iconst 0, 1) := by decide +kernel
theorem dL_ofContract_22 : decode cL_ofContract 22 = .ok (.ireturn, 1) := by decide +kernel
set_option maxRecDepth 20000 in
theorem ggL_ofSilo_X5_ofSilo : GoodIn wsL_ofSilo wsX5_ofSilo := goodIn_ca (goodIn_ca (goodIn_r _ [7, 8, 9, 10, 11, 12, 13, 14, 15, 16, 6, 17, 18, 19, 20, 21, 22, 23, 24, 25, 26, 27, 28, 29, 30, 31, 32, 33, 34, 35, 36, 37, 38, 39, 40, 41, 42, 43, 44, 45, 46, 47, 48, 49, 50, 51, 52, 53, 54, 55, 56, 57, 58, 59, 60, 61, 62, 63, 64, 65, 66, 67, 68, 69, 70] (by decide +kernel) (by decide +kernel)) (goodIn_sub (fun _ h => List.mem_cons_of_mem _ (List.mem_append_left _ (List.mem_append_right _ h))) (by decide +kernel))) (goodIn_sub (fun _ h => List.mem_cons_of_mem _ (List.mem_append_right _ h)) (by decide +kernel))
set_option maxRecDepth 20000 in
theorem gL_ofSilo_X5_ofSilo : GoodIn wsL_ofSilo (wsV RL 63 RX5 yX5_ofSilo wsX5_ofSilo) := goodIn_app (goodIn_of _ (by decide +kernel)) ggL_ofSilo_X5_ofSilo
theorem dL_ofSilo_0 : decode cL_ofSilo 0 = .ok (.aload_n 3, 1) := by decide +kernel
theorem dL_ofSilo_1 : decode cL_ofSilo 1 = .ok (.iconst 0, 1) := by decide +kernel
theorem dL_ofSilo_2 : decode cL_ofSilo 2 = .ok (.aload_n 0, 1) := by decide +kernel
theorem dL_ofSilo_3 : decode cL_ofSilo 3 = .ok (.iload_n 1, 1) := by decide +kernel
theorem dL_ofSilo_4 : decode cL_ofSilo 4 = .ok (.iload_n 2, 1) := by decide +kernel
theorem dL_ofSilo_5 : decode cL_ofSilo 5 = .ok (.invokevirtual 63, 3) := by decide +kernel
theorem dL_ofSilo_8 : decode cL_ofSilo 8 = .ok (.i2l, 1) := by decide +kernel
theorem dL_ofSilo_9 : decode cL_ofSilo 9 = .ok (.lastore, 1) := by decide +kernel
theorem dL_ofSilo_10 : decode cL_ofSilo 10 = .ok (.goto 11, 3) := by decide +kernel
theorem dL_ofSilo_13 : decode cL_ofSilo 13 = .ok (.astore 4, 2) := by decide +kernel
theorem dL_ofSilo_15 : decode cL_ofSilo 15 = .ok (.iconst 1, 1) := by decide +kernel
theorem dL_ofSilo_16 : decode cL_ofSilo 16 = .ok (.ireturn, 1) := by decide +kernel
theorem dL_ofSilo_17 : decode cL_ofSilo 17 = .ok (.astore 4, 2) := by decide +kernel
theorem dL_ofSilo_19 : decode cL_ofSilo 19 = .ok (.iconst 2, 1) := by decide +kernel
theorem dL_ofSilo_20 : decode cL_ofSilo 20 = .ok (.ireturn, 1) := by decide +kernel
theorem dL_ofSilo_21 : decode cL_ofSilo 21 = .ok (.iconst 0, 1) := by decide +kernel
theorem dL_ofSilo_22 : decode cL_ofSilo 22 = .ok (.ireturn, 1) := by decide +kernel
set_option maxRecDepth 20000 in
theorem ggL_contentAnew_X5_contentAnew : GoodIn wsL_contentAnew wsX5_contentAnew := goodIn_ca (goodIn_r _ [6, 7, 8, 9, 10, 11, 12, 5, 13, 14, 15, 16, 17, 18, 19, 20, 21, 22, 23, 24, 25, 26, 27, 28, 29, 30, 31, 32, 33, 34, 35, 36, 37, 38, 39, 40, 41, 42, 43, 44, 45, 46, 47, 48, 49, 50, 51, 52, 53, 54, 55, 56, 57, 58, 59, 60, 61, 62, 63, 64, 65, 66, 67, 68, 69, 70, 71, 72, 73, 74, 75, 76, 77, 78] (by decide +kernel) (by decide +kernel)) (goodIn_sub (fun _ h => List.mem_cons_of_mem _ (List.mem_append_right _ h)) (by decide +kernel))
set_option maxRecDepth 20000 in
theorem gL_contentAnew_X5_contentAnew : GoodIn wsL_contentAnew (wsV RL 66 RX5 yX5_contentAnew wsX5_contentAnew) := goodIn_app (goodIn_of _ (by decide +kernel)) ggL_contentAnew_X5_contentAnew
theorem dL_contentAnew_0 : decode cL_contentAnew 0 = .ok (.aload_n 2, 1) := by decide +kernel
theorem dL_contentAnew_1 : decode cL_contentAnew 1 = .ok (.iconst 0, 1) := by decide +kernel
theorem dL_contentAnew_2 : decode cL_contentAnew 2 = .ok (.aload_n 0, 1) := by decide +kernel
theorem dL_contentAnew_3 : decode cL_contentAnew 3 = .ok (.iload_n 1, 1) := by decide +kernel
theorem dL_contentAnew_4 : decode cL_contentAnew 4 = .ok (.invokevirtual 66, 3) := by decide +kernel
theorem dL_contentAnew_7 : decode cL_contentAnew 7 = .ok (.i2l, 1) := by decide +kernel
theorem dL_contentAnew_8 : decode cL_contentAnew 8 = .ok (.lastore, 1) := by decide +kernel
theorem dL_contentAnew_9 : decode cL_contentAnew 9 = .ok (.goto 6, 3) := by decide +kernel
theorem dL_contentAnew_12 : decode cL_contentAnew 12 = .ok (.astore_n 3, 1) := by decide +kernel
theorem dL_contentAnew_13 : decode cL_contentAnew 13 = .ok (.iconst 1, 1) := by decide +kernel
theorem dL_contentAnew_14 : decode cL_contentAnew 14 = .ok (.ireturn, 1) := by decide +kernel
theorem dL_contentAnew_15 : decode cL_contentAnew 15 = .ok (.iconst 0, 1) := by decide +kernel
theorem dL_contentAnew_16 : decode cL_contentAnew 16 = .ok (.ireturn, 1) := by decide +kernel
set_option maxRecDepth 20000 in
theorem ggL_account_X5_account : GoodIn wsL_account wsX5_account := goodIn_ca (goodIn_r _ [6, 7, 8, 9, 10, 11, 12, 13, 14, 15, 16, 17, 18, 19, 20] (by decide +kernel) (by decide +kernel)) (goodIn_sub (fun _ h => List.mem_cons_of_mem _ (List.mem_append_right _ h)) (by decide +kernel))
set_option maxRecDepth 20000 in
theorem gL_account_X5_account : GoodIn wsL_account (wsV RL 69 RX5 yX5_account wsX5_account) := goodIn_app (goodIn_of _ (by decide +kernel)) ggL_account_X5_account
theorem dL_account_0 : decode cL_account 0 = .ok (.aload_n 2, 1) := by decide +kernel
theorem dL_account_1 : decode cL_account 1 = .ok (.iconst 0, 1) := by decide +kernel
theorem dL_account_2 : decode cL_account 2 = .ok (.aload_n 0, 1) := by decide +kernel
theorem dL_account_3 : decode cL_account 3 = .ok (.iload_n 1, 1) := by decide +kernel
theorem dL_account_4 : decode cL_account 4 = .ok (.invokevirtual 69, 3) := by decide +kernel
theorem dL_account_7 : decode cL_account 7 = .ok (.lastore, 1) := by decide +kernel
theorem dL_account_8 : decode cL_account 8 = .ok (.goto 6, 3) := by decide +kernel
theorem dL_account_11 : decode cL_account 11 = .ok (.astore_n 3, 1) := by decide +kernel
theorem dL_account_12 : decode cL_account 12 = .ok (.iconst 1, 1) := by decide +kernel
theorem dL_account_13 : decode cL_account 13 = .ok (.ireturn, 1) := by decide +kernel
theorem dL_account_14 : decode cL_account 14 = .ok (.iconst 0, 1) := by decide +kernel
theorem dL_account_15 : decode cL_account 15 = .ok (.ireturn, 1) := by decide +kernel
set_option maxRecDepth 20000 in
theorem ggL_owes_X5_owes : GoodIn wsL_owes wsX5_owes := goodIn_ca (goodIn_r _ [6, 7, 8, 9, 10, 11, 12, 13, 14, 15, 16, 17, 18, 19, 20] (by decide +kernel) (by decide +kernel)) (goodIn_sub (fun _ h => List.mem_cons_of_mem _ (List.mem_append_right _ h)) (by decide +kernel))
set_option maxRecDepth 20000 in
theorem gL_owes_X5_owes : GoodIn wsL_owes (wsV RL 73 RX5 yX5_owes wsX5_owes) := goodIn_app (goodIn_of _ (by decide +kernel)) ggL_owes_X5_owes
theorem dL_owes_0 : decode cL_owes 0 = .ok (.aload_n 2, 1) := by decide +kernel
theorem dL_owes_1 : decode cL_owes 1 = .ok (.iconst 0, 1) := by decide +kernel
theorem dL_owes_2 : decode cL_owes 2 = .ok (.aload_n 0, 1) := by decide +kernel
theorem dL_owes_3 : decode cL_owes 3 = .ok (.iload_n 1, 1) := by decide +kernel
theorem dL_owes_4 : decode cL_owes 4 = .ok (.invokevirtual 73, 3) := by decide +kernel
theorem dL_owes_7 : decode cL_owes 7 = .ok (.i2l, 1) := by decide +kernel
theorem dL_owes_8 : decode cL_owes 8 = .ok (.lastore, 1) := by decide +kernel
theorem dL_owes_9 : decode cL_owes 9 = .ok (.goto 6, 3) := by decide +kernel
theorem dL_owes_12 : decode cL_owes 12 = .ok (.astore_n 3, 1) := by decide +kernel
theorem dL_owes_13 : decode cL_owes 13 = .ok (.iconst 1, 1) := by decide +kernel
theorem dL_owes_14 : decode cL_owes 14 = .ok (.ireturn, 1) := by decide +kernel
theorem dL_owes_15 : decode cL_owes 15 = .ok (.iconst 0, 1) := by decide +kernel
theorem dL_owes_16 : decode cL_owes 16 = .ok (.ireturn, 1) := by decide +kernel
set_option maxRecDepth 20000 in
theorem ggL_holds_X5_holds : GoodIn wsL_holds wsX5_holds := goodIn_ca (goodIn_ca (goodIn_r _ [7, 8, 9, 10, 11, 12, 13, 14, 6, 15, 16, 17, 18, 19, 20, 21, 22, 23, 24, 25, 26, 27, 28, 29, 30, 31, 32, 33, 34, 35, 36, 37, 38, 39, 40, 41, 42, 43, 44, 45, 46, 47, 48, 49, 50, 51, 52, 53, 54, 55, 56, 57, 58, 59, 60, 61, 62, 63, 64, 65, 66, 67, 68, 69, 70, 71, 72, 73, 74, 75, 76, 77, 78, 79, 80, 81, 82, 83, 84, 85, 86, 87, 88, 89, 90, 91, 92, 93, 94, 95, 96, 97] (by decide +kernel) (by decide +kernel)) (goodIn_sub (fun _ h => List.mem_cons_of_mem _ (List.mem_append_left _ (List.mem_append_right _ h))) (by decide +kernel))) (goodIn_sub (fun _ h => List.mem_cons_of_mem _ (List.mem_append_right _ h)) (by decide +kernel))
set_option maxRecDepth 20000 in
theorem gL_holds_X5_holds : GoodIn wsL_holds (wsV RL 76 RX5 yX5_holds wsX5_holds) := goodIn_app (goodIn_of _ (by decide +kernel)) ggL_holds_X5_holds
theorem dL_holds_0 : decode cL_holds 0 = .ok (.aload 4, 2) := by decide +kernel
theorem dL_holds_2 : decode cL_holds 2 = .ok (.iconst 0, 1) := by decide +kernel
theorem dL_holds_3 : decode cL_holds 3 = .ok (.aload_n 0, 1) := by decide +kernel
theorem dL_holds_4 : decode cL_holds 4 = .ok (.iload_n 1, 1) := by decide +kernel
theorem dL_holds_5 : decode cL_holds 5 = .ok (.iload_n 2, 1) := by decide +kernel
theorem dL_holds_6 : decode cL_holds 6 = .ok (.iload_n 3, 1) := by decide +kernel
theorem dL_holds_7 : decode cL_holds 7 = .ok (.invokevirtual 76, 3) := by decide +kernel
theorem dL_holds_10 : decode cL_holds 10 = .ok (.i2l, 1) := by decide +kernel
theorem dL_holds_11 : decode cL_holds 11 = .ok (.lastore, 1) := by decide +kernel
theorem dL_holds_12 : decode cL_holds 12 = .ok (.goto 11, 3) := by decide +kernel
theorem dL_holds_15 : decode cL_holds 15 = .ok (.astore 5, 2) := by decide +kernel
theorem dL_holds_17 : decode cL_holds 17 = .ok (.iconst 1, 1) := by decide +kernel
theorem dL_holds_18 : decode cL_holds 18 = .ok (.ireturn, 1) := by decide +kernel
theorem dL_holds_19 : decode cL_holds 19 = .ok (.astore 5, 2) := by decide +kernel
theorem dL_holds_21 : decode cL_holds 21 = .ok (.iconst 2, 1) := by decide +kernel
theorem dL_holds_22 : decode cL_holds 22 = .ok (.ireturn, 1) := by decide +kernel
theorem dL_holds_23 : decode cL_holds 23 = .ok (.iconst 0, 1) := by decide +kernel
theorem dL_holds_24 : decode cL_holds 24 = .ok (.ireturn, 1) := by decide +kernel
set_option maxRecDepth 20000 in
theorem ggL_ownerOn_X5_ownerOn : GoodIn wsL_ownerOn wsX5_ownerOn := goodIn_ca (goodIn_ca (goodIn_r _ [7, 8, 9, 10, 11, 12, 13, 14, 15, 6, 16, 17, 18, 19, 20, 21, 22, 23, 24, 25, 26, 27, 28, 29, 30, 31, 32, 33, 34, 35, 36, 37, 38, 39, 40, 41, 42, 43, 44, 45, 46, 47, 48, 49, 50, 51, 52, 53, 54, 55, 56, 57, 58, 59, 60, 61, 62, 63, 64, 65, 66, 67, 68, 69, 70, 71, 72, 73, 74] (by decide +kernel) (by decide +kernel)) (goodIn_sub (fun _ h => List.mem_cons_of_mem _ (List.mem_append_left _ (List.mem_append_right _ h))) (by decide +kernel))) (goodIn_sub (fun _ h => List.mem_cons_of_mem _ (List.mem_append_right _ h)) (by decide +kernel))
set_option maxRecDepth 20000 in
theorem gL_ownerOn_X5_ownerOn : GoodIn wsL_ownerOn (wsV RL 79 RX5 yX5_ownerOn wsX5_ownerOn) := goodIn_app (goodIn_of _ (by decide +kernel)) ggL_ownerOn_X5_ownerOn
theorem dL_ownerOn_0 : decode cL_ownerOn 0 = .ok (.aload_n 3, 1) := by decide +kernel
theorem dL_ownerOn_1 : decode cL_ownerOn 1 = .ok (.iconst 0, 1) := by decide +kernel
theorem dL_ownerOn_2 : decode cL_ownerOn 2 = .ok (.aload_n 0, 1) := by decide +kernel
theorem dL_ownerOn_3 : decode cL_ownerOn 3 = .ok (.iload_n 1, 1) := by decide +kernel
theorem dL_ownerOn_4 : decode cL_ownerOn 4 = .ok (.iload_n 2, 1) := by decide +kernel
theorem dL_ownerOn_5 : decode cL_ownerOn 5 = .ok (.invokevirtual 79, 3) := by decide +kernel
theorem dL_ownerOn_8 : decode cL_ownerOn 8 = .ok (.i2l, 1) := by decide +kernel
theorem dL_ownerOn_9 : decode cL_ownerOn 9 = .ok (.lastore, 1) := by decide +kernel
theorem dL_ownerOn_10 : decode cL_ownerOn 10 = .ok (.goto 11, 3) := by decide +kernel
theorem dL_ownerOn_13 : decode cL_ownerOn 13 = .ok (.astore 4, 2) := by decide +kernel
theorem dL_ownerOn_15 : decode cL_ownerOn 15 = .ok (.iconst 1, 1) := by decide +kernel
theorem dL_ownerOn_16 : decode cL_ownerOn 16 = .ok (.ireturn, 1) := by decide +kernel
theorem dL_ownerOn_17 : decode cL_ownerOn 17 = .ok (.astore 4, 2) := by decide +kernel
theorem dL_ownerOn_19 : decode cL_ownerOn 19 = .ok (.iconst 2, 1) := by decide +kernel
theorem dL_ownerOn_20 : decode cL_ownerOn 20 = .ok (.ireturn, 1) := by decide +kernel
theorem dL_ownerOn_21 : decode cL_ownerOn 21 = .ok (.iconst 0, 1) := by decide +kernel
theorem dL_ownerOn_22 : decode cL_ownerOn 22 = .ok (.ireturn, 1) := by decide +kernel
set_option maxRecDepth 20000 in
theorem ggL_law_X5_init : GoodIn wsL_law wsX5_init := goodIn_r _ [9, 10, 11, 12, 13, 14, 15, 16, 17, 18, 19, 6, 20, 21, 22, 23, 24, 25, 26, 27, 28, 29, 30, 31, 32, 33, 34, 35, 36, 37, 38, 39, 40, 41, 42, 785, 786, 787, 728, 729, 730, 731, 732, 733, 734, 735, 736, 737, 738] (by decide +kernel) (by decide +kernel)
set_option maxRecDepth 20000 in
theorem gL_law_X5_init : GoodIn wsL_law (wsX5_init) := ggL_law_X5_init
set_option maxRecDepth 20000 in
theorem ggL_law_X6_init : GoodIn wsL_law wsX6_init := goodIn_r _ [45, 46, 11, 12, 47, 48, 6, 49, 21, 50, 51, 52, 53, 54, 55, 56, 57, 58, 59, 60, 61, 62, 63, 64, 65, 66, 67, 68, 69, 70, 71, 72, 73, 74, 75, 76, 77, 78, 79, 80, 81, 82, 83, 84, 85, 739, 740, 741, 742, 743, 744, 745, 746, 747, 748, 749, 750, 751, 752, 753, 754, 755, 756, 757, 758, 759, 760, 761, 762, 763, 764, 765, 766, 767, 768, 769, 770, 771, 772, 773, 774, 775, 776, 777, 778, 779, 780, 781, 782, 783, 784] (by decide +kernel) (by decide +kernel)
set_option maxRecDepth 20000 in
theorem gL_law_X6_init : GoodIn wsL_law (wsX6_init) := ggL_law_X6_init
set_option maxRecDepth 20000 in
theorem ggL_law_L_silo : GoodIn wsL_law wsL_silo := goodIn_ca (goodIn_ca (goodIn_r _ [89, 90, 91, 92, 93, 94, 2, 95, 96, 97, 98, 16, 99, 100, 101, 102, 103, 104, 105, 106, 107, 108, 109, 15, 110, 111, 112, 113, 114, 115, 11, 12, 116, 117, 118, 119, 120, 121, 122, 123, 124, 125, 32, 126, 127, 128, 129, 130, 131, 132, 133, 134, 135, 136, 137, 31, 138, 139, 140, 141, 142, 143, 144, 145, 146, 147, 148, 149, 150, 151, 152, 153, 154, 155, 156, 157, 158, 159, 160, 161, 162, 163, 164, 165, 166, 167, 168, 169, 170, 171, 728, 729, 730, 731, 732, 733, 734, 735, 736, 737, 738, 788, 789, 790, 791, 792, 793, 785, 786, 787] (by decide +kernel) (by decide +kernel)) (goodIn_sub (fun _ h => List.mem_append_left _ (List.mem_append_left _ (List.mem_append_right _ h))) (by decide +kernel))) (goodIn_sub (fun _ h => List.mem_append_left _ (List.mem_append_right _ h)) (by decide +kernel))
set_option maxRecDepth 20000 in
theorem gL_law_L_silo : GoodIn wsL_law (va_wsS RL 86 yL_silo wsL_silo) := goodIn_app (goodIn_of _ (by decide +kernel)) ggL_law_L_silo
set_option maxRecDepth 20000 in
theorem ggL_law_X6_silo : GoodIn wsL_law wsX6_silo := goodIn_r _ [175, 176, 177, 51, 178, 179, 5, 180, 181, 182, 183, 184, 185, 739, 740, 741, 742, 743, 744, 745, 746, 747, 748, 749, 750, 751, 752, 753, 754, 755, 756, 757, 758, 759, 760, 761, 762, 763, 764, 765, 766, 767, 768, 769, 770, 771, 772, 773, 774, 775, 776, 777, 778, 779, 780, 781, 782, 783, 784] (by decide +kernel) (by decide +kernel)
set_option maxRecDepth 20000 in
theorem gL_law_X6_silo : GoodIn wsL_law (wsV RL 91 RX6 yX6_silo wsX6_silo) := goodIn_app (goodIn_of _ (by decide +kernel)) ggL_law_X6_silo
set_option maxRecDepth 20000 in
theorem ggL_law_X6_thrown : GoodIn wsL_law wsX6_thrown := goodIn_r _ [189, 185, 739, 740, 741, 742, 743, 744, 745, 746, 747, 748, 749, 750, 751, 752, 753, 754, 755, 756, 757, 758, 759, 760, 761, 762, 763, 764, 765, 766, 767, 768, 769, 770, 771, 772, 773, 774, 775, 776, 777, 778, 779, 780, 781, 782, 783, 784] (by decide +kernel) (by decide +kernel)
set_option maxRecDepth 20000 in
theorem gL_law_X6_thrown : GoodIn wsL_law (wsV RL 92 RX6 yX6_thrown wsX6_thrown) := goodIn_app (goodIn_of _ (by decide +kernel)) ggL_law_X6_thrown
set_option maxRecDepth 20000 in
theorem ggL_law_L_terms : GoodIn wsL_law wsL_terms := goodIn_ca (goodIn_r _ [192, 90, 193, 194, 195, 2, 196, 23, 24, 25, 102, 103, 104, 105, 106, 728, 729, 730, 731, 732, 733, 734, 735, 736, 737, 738] (by decide +kernel) (by decide +kernel)) (goodIn_sub (fun _ h => List.mem_append_left _ (List.mem_append_right _ h)) (by decide +kernel))
set_option maxRecDepth 20000 in
theorem gL_law_L_terms : GoodIn wsL_law (va_wsS RL 96 yL_terms wsL_terms) := goodIn_app (goodIn_of _ (by decide +kernel)) ggL_law_L_terms
set_option maxRecDepth 20000 in
theorem ggL_law_X6_terms : GoodIn wsL_law wsX6_terms := goodIn_r _ [200, 201, 47, 48, 178, 179, 5, 180, 181, 182, 183, 184, 185, 739, 740, 741, 742, 743, 744, 745, 746, 747, 748, 749, 750, 751, 752, 753, 754, 755, 756, 757, 758, 759, 760, 761, 762, 763, 764, 765, 766, 767, 768, 769, 770, 771, 772, 773, 774, 775, 776, 777, 778, 779, 780, 781, 782, 783, 784] (by decide +kernel) (by decide +kernel)
set_option maxRecDepth 20000 in
theorem gL_law_X6_terms : GoodIn wsL_law (wsV RL 99 RX6 yX6_terms wsX6_terms) := goodIn_app (goodIn_of _ (by decide +kernel)) ggL_law_X6_terms
set_option maxRecDepth 20000 in
theorem ggL_law_L_deliver : GoodIn wsL_law wsL_deliver := goodIn_ca (goodIn_ca (goodIn_r _ [204, 90, 91, 205, 206, 207, 2, 208, 96, 97, 209, 17, 210, 211, 212, 213, 214, 215, 216, 102, 103, 104, 105, 106, 217, 218, 219, 220, 221, 222, 223, 224, 225, 226, 16, 227, 107, 108, 109, 15, 110, 111, 228, 229, 230, 231, 232, 233, 234, 235, 236, 237, 238, 239, 240, 241, 242, 243, 32, 244, 245, 246, 101, 247, 248, 118, 119, 249, 250, 251, 252, 117, 253, 254, 255, 256, 257, 258, 259, 260, 18, 261, 262, 263, 264, 11, 12, 265, 266, 267, 268, 269, 120, 121, 122, 123, 124, 125, 126, 127, 128, 129, 130, 131, 132, 133, 134, 135, 136, 137, 31, 138, 139, 140, 141, 142, 143, 144, 145, 146, 147, 148, 149, 150, 151, 152, 153, 154, 155, 156, 157, 158, 159, 160, 161, 162, 163, 164, 165, 166, 167, 168, 169, 170, 171, 270, 271, 272, 273, 274, 275, 276, 277, 278, 279, 280, 281, 282, 283, 284, 285, 286, 287, 26, 288, 289, 290, 291, 292, 293, 294, 295, 296, 297, 298, 299, 300, 301, 302, 303, 304, 305, 306, 728, 729, 730, 731, 732, 733, 734, 735, 736, 737, 738, 794, 795, 796, 797, 798, 799, 800, 788, 789, 790, 791, 792, 793, 785, 786, 787, 801, 802, 803, 804, 805, 806, 807, 808, 809, 810, 811, 812] (by decide +kernel) (by decide +kernel)) (goodIn_sub (fun _ h => List.mem_append_left _ (List.mem_append_left _ (List.mem_append_right _ h))) (by decide +kernel))) (goodIn_sub (fun _ h => List.mem_append_left _ (List.mem_append_right _ h)) (by decide +kernel))
set_option maxRecDepth 20000 in
theorem gL_law_L_deliver : GoodIn wsL_law (va_wsS RL 100 yL_deliver wsL_deliver) := goodIn_app (goodIn_of _ (by decide +kernel)) ggL_law_L_deliver
set_option maxRecDepth 20000 in
theorem ggL_law_X6_deliver : GoodIn wsL_law wsX6_deliver := goodIn_r _ [310, 311, 312, 313, 56, 57, 58, 59, 60, 61, 52, 53, 54, 314, 315, 5, 316, 178, 179, 180, 317, 318, 319, 320, 321, 322, 323, 324, 325, 326, 327, 177, 51, 328, 329, 330, 331, 181, 182, 183, 184, 185, 332, 333, 334, 335, 62, 64, 65, 66, 336, 337, 338, 339, 63, 69, 70, 340, 71, 341, 72, 739, 740, 741, 742, 743, 744, 745, 746, 747, 748, 749, 750, 751, 752, 753, 754, 755, 756, 757, 758, 759, 760, 761, 762, 763, 764, 765, 766, 767, 768, 769, 770, 771, 772, 773, 774, 775, 776, 777, 778, 779, 780, 781, 782, 783, 784] (by decide +kernel) (by decide +kernel)
set_option maxRecDepth 20000 in
theorem gL_law_X6_deliver : GoodIn wsL_law (wsV RL 103 RX6 yX6_deliver wsX6_deliver) := goodIn_app (goodIn_of _ (by decide +kernel)) ggL_law_X6_deliver
set_option maxRecDepth 20000 in
theorem ggL_law_L_split : GoodIn wsL_law wsL_split := goodIn_ca (goodIn_ca (goodIn_ca (goodIn_r _ [344, 345, 90, 91, 346, 347, 348, 2, 349, 96, 97, 209, 288, 277, 350, 351, 352, 353, 354, 355, 18, 356, 107, 108, 109, 15, 110, 111, 228, 229, 230, 231, 232, 233, 234, 235, 236, 237, 238, 239, 240, 241, 242, 243, 32, 102, 103, 104, 105, 106, 357, 358, 359, 284, 360, 303, 257, 258, 259, 260, 361, 362, 363, 364, 365, 366, 367, 368, 369, 370, 302, 371, 278, 279, 280, 281, 282, 283, 285, 286, 287, 26, 289, 290, 291, 292, 11, 12, 293, 294, 295, 296, 297, 298, 299, 300, 301, 304, 305, 306, 120, 121, 122, 123, 124, 125, 126, 127, 128, 129, 130, 131, 132, 133, 134, 135, 136, 137, 31, 138, 139, 140, 141, 142, 143, 144, 145, 146, 147, 148, 149, 150, 151, 152, 153, 154, 155, 156, 157, 158, 159, 160, 161, 162, 163, 164, 165, 166, 167, 168, 169, 170, 171, 801, 802, 803, 804, 805, 806, 807, 808, 809, 728, 729, 730, 731, 732, 733, 734, 735, 736, 737, 738, 785, 786, 787, 810, 811, 812] (by decide +kernel) (by decide +kernel)) (goodIn_sub (fun _ h => List.mem_append_left _ (List.mem_append_left _ (List.mem_append_right _ h))) (by decide +kernel))) (goodIn_sub (fun _ h => List.mem_append_right _ h) (by decide +kernel))) (goodIn_sub (fun _ h => List.mem_append_left _ (List.mem_append_right _ h)) (by decide +kernel))
set_option maxRecDepth 20000 in
theorem gL_law_L_split : GoodIn wsL_law (va_wsS RL 104 yL_split wsL_split) := goodIn_app (goodIn_of _ (by decide +kernel)) ggL_law_L_split
set_option maxRecDepth 20000 in
theorem ggL_law_X6_split : GoodIn wsL_law wsX6_split := goodIn_r _ [375, 311, 62, 66, 313, 376, 377, 378, 5, 379, 178, 179, 180, 181, 182, 183, 184, 185, 380, 381, 382, 383, 63, 64, 65, 69, 332, 333, 334, 335, 336, 337, 338, 339, 70, 340, 71, 341, 72, 739, 740, 741, 742, 743, 744, 745, 746, 747, 748, 749, 750, 751, 752, 753, 754, 755, 756, 757, 758, 759, 760, 761, 762, 763, 764, 765, 766, 767, 768, 769, 770, 771, 772, 773, 774, 775, 776, 777, 778, 779, 780, 781, 782, 783, 784] (by decide +kernel) (by decide +kernel)
set_option maxRecDepth 20000 in
theorem gL_law_X6_split : GoodIn wsL_law (wsV RL 107 RX6 yX6_split wsX6_split) := goodIn_app (goodIn_of _ (by decide +kernel)) ggL_law_X6_split
set_option maxRecDepth 20000 in
theorem ggL_law_L_sell : GoodIn wsL_law wsL_sell := goodIn_ca (goodIn_ca (goodIn_ca (goodIn_r _ [386, 345, 90, 91, 387, 388, 389, 2, 390, 391, 350, 351, 352, 353, 354, 355, 18, 356, 107, 108, 109, 15, 110, 111, 228, 229, 230, 231, 232, 233, 234, 235, 236, 237, 238, 239, 240, 241, 242, 243, 32, 102, 103, 104, 105, 106, 392, 393, 394, 96, 97, 395, 396, 397, 284, 398, 399, 357, 358, 359, 360, 303, 367, 368, 369, 370, 302, 371, 400, 401, 402, 403, 20, 404, 405, 406, 407, 366, 408, 409, 26, 27, 410, 285, 286, 287, 289, 290, 291, 292, 11, 12, 293, 294, 295, 728, 729, 730, 731, 732, 733, 734, 735, 736, 737, 738, 785, 786, 787, 801, 802, 803, 804, 805, 806, 807, 808, 809, 810, 811, 812] (by decide +kernel) (by decide +kernel)) (goodIn_sub (fun _ h => List.mem_append_right _ h) (by decide +kernel))) (goodIn_sub (fun _ h => List.mem_append_left _ (List.mem_append_right _ h)) (by decide +kernel))) (goodIn_sub (fun _ h => List.mem_append_left _ (List.mem_append_left _ (List.mem_append_right _ h))) (by decide +kernel))
set_option maxRecDepth 20000 in
theorem gL_law_L_sell : GoodIn wsL_law (va_wsS RL 108 yL_sell wsL_sell) := goodIn_app (goodIn_of _ (by decide +kernel)) ggL_law_L_sell
set_option maxRecDepth 20000 in
theorem ggL_law_X6_sell : GoodIn wsL_law wsX6_sell := goodIn_r _ [414, 415, 62, 66, 63, 376, 377, 378, 5, 379, 313, 178, 179, 180, 314, 315, 316, 181, 182, 183, 184, 185, 416, 417, 418, 419, 49, 336, 337, 338, 339, 69, 70, 340, 71, 341, 72, 739, 740, 741, 742, 743, 744, 745, 746, 747, 748, 749, 750, 751, 752, 753, 754, 755, 756, 757, 758, 759, 760, 761, 762, 763, 764, 765, 766, 767, 768, 769, 770, 771, 772, 773, 774, 775, 776, 777, 778, 779, 780, 781, 782, 783, 784] (by decide +kernel) (by decide +kernel)
set_option maxRecDepth 20000 in
theorem gL_law_X6_sell : GoodIn wsL_law (wsV RL 111 RX6 yX6_sell wsX6_sell) := goodIn_app (goodIn_of _ (by decide +kernel)) ggL_law_X6_sell
set_option maxRecDepth 20000 in
theorem ggL_law_L_pledge : GoodIn wsL_law wsL_pledge := goodIn_ca (goodIn_ca (goodIn_ca (goodIn_r _ [422, 345, 90, 91, 423, 424, 425, 2, 426, 391, 427, 428, 26, 429, 350, 351, 352, 353, 354, 355, 18, 356, 107, 108, 109, 15, 110, 111, 228, 229, 230, 231, 232, 233, 234, 235, 236, 237, 238, 239, 240, 241, 242, 243, 32, 102, 103, 104, 105, 106, 392, 393, 394, 96, 97, 395, 396, 397, 284, 398, 399, 357, 358, 359, 360, 303, 367, 368, 369, 370, 302, 371, 400, 401, 402, 403, 20, 801, 802, 803, 804, 805, 806, 807, 808, 809, 728, 729, 730, 731, 732, 733, 734, 735, 736, 737, 738, 785, 786, 787, 810, 811, 812] (by decide +kernel) (by decide +kernel)) (goodIn_sub (fun _ h => List.mem_append_right _ h) (by decide +kernel))) (goodIn_sub (fun _ h => List.mem_append_left _ (List.mem_append_right _ h)) (by decide +kernel))) (goodIn_sub (fun _ h => List.mem_append_left _ (List.mem_append_left _ (List.mem_append_right _ h))) (by decide +kernel))
set_option maxRecDepth 20000 in
theorem gL_law_L_pledge : GoodIn wsL_law (va_wsS RL 112 yL_pledge wsL_pledge) := goodIn_app (goodIn_of _ (by decide +kernel)) ggL_law_L_pledge
set_option maxRecDepth 20000 in
theorem ggL_law_X6_pledge : GoodIn wsL_law wsX6_pledge := goodIn_r _ [433, 415, 62, 66, 63, 67, 68, 341, 376, 377, 378, 5, 379, 313, 178, 179, 180, 314, 315, 316, 181, 182, 183, 184, 185, 416, 417, 418, 419, 49, 739, 740, 741, 742, 743, 744, 745, 746, 747, 748, 749, 750, 751, 752, 753, 754, 755, 756, 757, 758, 759, 760, 761, 762, 763, 764, 765, 766, 767, 768, 769, 770, 771, 772, 773, 774, 775, 776, 777, 778, 779, 780, 781, 782, 783, 784] (by decide +kernel) (by decide +kernel)
set_option maxRecDepth 20000 in
theorem gL_law_X6_pledge : GoodIn wsL_law (wsV RL 114 RX6 yX6_pledge wsX6_pledge) := goodIn_app (goodIn_of _ (by decide +kernel)) ggL_law_X6_pledge
set_option maxRecDepth 20000 in
theorem ggL_law_L_redeem : GoodIn wsL_law wsL_redeem := goodIn_ca (goodIn_ca (goodIn_r _ [436, 345, 91, 437, 438, 439, 2, 440, 96, 97, 428, 427, 350, 351, 352, 353, 354, 355, 18, 356, 107, 108, 109, 15, 110, 111, 228, 229, 230, 231, 232, 233, 234, 235, 236, 237, 238, 239, 240, 241, 242, 243, 32, 357, 358, 359, 284, 360, 303, 367, 368, 369, 370, 302, 371, 400, 401, 402, 403, 20, 441, 442, 443, 444, 304, 305, 801, 802, 803, 804, 805, 806, 807, 808, 809, 728, 729, 730, 731, 732, 733, 734, 735, 736, 737, 738, 785, 786, 787, 810, 811, 812] (by decide +kernel) (by decide +kernel)) (goodIn_sub (fun _ h => List.mem_append_left _ (List.mem_append_left _ (List.mem_append_right _ h))) (by decide +kernel))) (goodIn_sub (fun _ h => List.mem_append_right _ h) (by decide +kernel))
set_option maxRecDepth 20000 in
theorem gL_law_L_redeem : GoodIn wsL_law (va_wsS RL 115 yL_redeem wsL_redeem) := goodIn_app (goodIn_of _ (by decide +kernel)) ggL_law_L_redeem
set_option maxRecDepth 20000 in
theorem ggL_law_X6_redeem : GoodIn wsL_law wsX6_redeem := goodIn_r _ [448, 66, 63, 67, 376, 377, 378, 5, 379, 313, 178, 179, 180, 181, 182, 183, 184, 185, 416, 417, 418, 419, 49, 739, 740, 741, 742, 743, 744, 745, 746, 747, 748, 749, 750, 751, 752, 753, 754, 755, 756, 757, 758, 759, 760, 761, 762, 763, 764, 765, 766, 767, 768, 769, 770, 771, 772, 773, 774, 775, 776, 777, 778, 779, 780, 781, 782, 783, 784] (by decide +kernel) (by decide +kernel)
set_option maxRecDepth 20000 in
theorem gL_law_X6_redeem : GoodIn wsL_law (wsV RL 117 RX6 yX6_redeem wsX6_redeem) := goodIn_app (goodIn_of _ (by decide +kernel)) ggL_law_X6_redeem
set_option maxRecDepth 20000 in
theorem ggL_law_L_takeOut : GoodIn wsL_law wsL_takeOut := goodIn_ca (goodIn_ca (goodIn_r _ [451, 345, 91, 452, 453, 454, 2, 455, 96, 97, 288, 350, 351, 352, 353, 354, 355, 18, 356, 107, 108, 109, 15, 110, 111, 228, 229, 230, 231, 232, 233, 234, 235, 236, 237, 238, 239, 240, 241, 242, 243, 32, 395, 396, 397, 284, 398, 399, 357, 358, 359, 360, 303, 456, 457, 458, 459, 365, 274, 275, 441, 442, 443, 444, 304, 305, 801, 802, 803, 804, 805, 806, 807, 808, 809, 728, 729, 730, 731, 732, 733, 734, 735, 736, 737, 738, 785, 786, 787, 794, 795, 796, 797, 798, 799, 800, 788, 789, 790, 791, 792, 793] (by decide +kernel) (by decide +kernel)) (goodIn_sub (fun _ h => List.mem_append_left _ (List.mem_append_left _ (List.mem_append_right _ h))) (by decide +kernel))) (goodIn_sub (fun _ h => List.mem_append_right _ h) (by decide +kernel))
set_option maxRecDepth 20000 in
theorem gL_law_L_takeOut : GoodIn wsL_law (va_wsS RL 118 yL_takeOut wsL_takeOut) := goodIn_app (goodIn_of _ (by decide +kernel)) ggL_law_L_takeOut
set_option maxRecDepth 20000 in
theorem ggL_law_X6_takeOut : GoodIn wsL_law wsX6_takeOut := goodIn_r _ [463, 62, 66, 376, 377, 378, 5, 379, 313, 178, 179, 180, 181, 182, 183, 184, 185, 464, 465, 466, 467, 52, 64, 739, 740, 741, 742, 743, 744, 745, 746, 747, 748, 749, 750, 751, 752, 753, 754, 755, 756, 757, 758, 759, 760, 761, 762, 763, 764, 765, 766, 767, 768, 769, 770, 771, 772, 773, 774, 775, 776, 777, 778, 779, 780, 781, 782, 783, 784] (by decide +kernel) (by decide +kernel)
set_option maxRecDepth 20000 in
theorem gL_law_X6_takeOut : GoodIn wsL_law (wsV RL 120 RX6 yX6_takeOut wsX6_takeOut) := goodIn_app (goodIn_of _ (by decide +kernel)) ggL_law_X6_takeOut
set_option maxRecDepth 20000 in
theorem ggL_law_L_reweigh : GoodIn wsL_law wsL_reweigh := goodIn_ca (goodIn_ca (goodIn_ca (goodIn_r _ [470, 345, 90, 91, 471, 472, 473, 2, 474, 96, 97, 213, 214, 274, 475, 476, 276, 477, 478, 479, 480, 354, 355, 17, 481, 107, 108, 109, 15, 110, 111, 228, 229, 230, 231, 232, 233, 234, 235, 236, 237, 238, 239, 240, 241, 242, 243, 32, 102, 103, 104, 105, 106, 220, 221, 222, 244, 245, 246, 101, 247, 248, 118, 119, 257, 258, 259, 260, 18, 482, 483, 484, 485, 22, 270, 271, 272, 273, 275, 277, 278, 279, 280, 281, 282, 283, 284, 285, 286, 287, 26, 288, 289, 290, 291, 292, 11, 12, 293, 294, 295, 296, 297, 298, 299, 300, 301, 302, 303, 304, 305, 306, 120, 121, 122, 123, 124, 125, 126, 127, 128, 129, 130, 131, 132, 133, 134, 135, 136, 137, 31, 138, 139, 140, 141, 142, 143, 144, 145, 146, 147, 148, 149, 150, 151, 152, 153, 154, 155, 156, 157, 158, 159, 160, 161, 162, 163, 164, 165, 166, 167, 168, 169, 170, 171, 486, 487, 488, 489, 356, 365, 490, 491, 492, 493, 494, 367, 368, 369, 370, 371, 495, 496, 497, 498, 366, 24, 499, 500, 501, 502, 400, 401, 402, 403, 20, 456, 457, 458, 459, 395, 396, 397, 398, 399, 441, 442, 443, 444, 794, 795, 796, 797, 798, 799, 800, 728, 729, 730, 731, 732, 733, 734, 735, 736, 737, 738, 785, 786, 787, 788, 789, 790, 791, 792, 793, 801, 802, 803, 804, 805, 806, 807, 808, 809, 810, 811, 812, 813, 814, 815, 816, 817, 818, 819, 820, 821, 822, 823] (by decide +kernel) (by decide +kernel)) (goodIn_sub (fun _ h => List.mem_append_left _ (List.mem_append_left _ (List.mem_append_right _ h))) (by decide +kernel))) (goodIn_sub (fun _ h => List.mem_append_right _ h) (by decide +kernel))) (goodIn_sub (fun _ h => List.mem_append_left _ (List.mem_append_right _ h)) (by decide +kernel))
set_option maxRecDepth 20000 in
theorem gL_law_L_reweigh : GoodIn wsL_law (va_wsS RL 121 yL_reweigh wsL_reweigh) := goodIn_app (goodIn_of _ (by decide +kernel)) ggL_law_L_reweigh
set_option maxRecDepth 20000 in
theorem ggL_law_X6_reweigh : GoodIn wsL_law wsX6_reweigh := goodIn_r _ [506, 312, 57, 61, 59, 60, 58, 313, 56, 50, 52, 65, 63, 64, 178, 179, 5, 180, 320, 321, 322, 323, 328, 329, 330, 331, 53, 54, 181, 182, 183, 184, 185, 332, 333, 334, 335, 62, 66, 336, 337, 338, 339, 69, 70, 340, 71, 341, 72, 507, 508, 509, 510, 47, 73, 79, 82, 83, 416, 417, 418, 419, 49, 464, 465, 466, 467, 739, 740, 741, 742, 743, 744, 745, 746, 747, 748, 749, 750, 751, 752, 753, 754, 755, 756, 757, 758, 759, 760, 761, 762, 763, 764, 765, 766, 767, 768, 769, 770, 771, 772, 773, 774, 775, 776, 777, 778, 779, 780, 781, 782, 783, 784] (by decide +kernel) (by decide +kernel)
set_option maxRecDepth 20000 in
theorem gL_law_X6_reweigh : GoodIn wsL_law (wsV RL 123 RX6 yX6_reweigh wsX6_reweigh) := goodIn_app (goodIn_of _ (by decide +kernel)) ggL_law_X6_reweigh
set_option maxRecDepth 20000 in
theorem ggL_law_L_contract : GoodIn wsL_law wsL_contract := goodIn_ca (goodIn_ca (goodIn_r _ [513, 90, 91, 514, 515, 516, 2, 517, 105, 106, 96, 97, 518, 19, 519, 520, 521, 522, 26, 523, 500, 102, 103, 104, 107, 108, 109, 15, 110, 111, 524, 525, 526, 527, 11, 12, 528, 529, 530, 531, 532, 120, 121, 122, 123, 124, 125, 32, 126, 127, 128, 129, 130, 131, 132, 133, 134, 135, 136, 137, 31, 138, 139, 140, 141, 142, 143, 144, 145, 146, 147, 148, 149, 150, 151, 152, 153, 154, 155, 156, 157, 158, 159, 160, 161, 162, 163, 164, 165, 166, 167, 168, 169, 170, 171, 728, 729, 730, 731, 732, 733, 734, 735, 736, 737, 738, 813, 814, 815, 816, 817, 818, 819, 820, 821, 822, 823, 785, 786, 787] (by decide +kernel) (by decide +kernel)) (goodIn_sub (fun _ h => List.mem_append_left _ (List.mem_append_right _ h)) (by decide +kernel))) (goodIn_sub (fun _ h => List.mem_append_left _ (List.mem_append_left _ (List.mem_append_right _ h))) (by decide +kernel))
set_option maxRecDepth 20000 in
theorem gL_law_L_contract : GoodIn wsL_law (va_wsS RL 124 yL_contract wsL_contract) := goodIn_app (goodIn_of _ (by decide +kernel)) ggL_law_L_contract
set_option maxRecDepth 20000 in
theorem ggL_law_X6_contract : GoodIn wsL_law wsX6_contract := goodIn_r _ [536, 537, 538, 73, 74, 75, 76, 77, 78, 341, 79, 314, 315, 5, 316, 178, 179, 180, 317, 318, 319, 181, 182, 183, 184, 185, 739, 740, 741, 742, 743, 744, 745, 746, 747, 748, 749, 750, 751, 752, 753, 754, 755, 756, 757, 758, 759, 760, 761, 762, 763, 764, 765, 766, 767, 768, 769, 770, 771, 772, 773, 774, 775, 776, 777, 778, 779, 780, 781, 782, 783, 784] (by decide +kernel) (by decide +kernel)
set_option maxRecDepth 20000 in
theorem gL_law_X6_contract : GoodIn wsL_law (wsV RL 127 RX6 yX6_contract wsX6_contract) := goodIn_app (goodIn_of _ (by decide +kernel)) ggL_law_X6_contract
set_option maxRecDepth 20000 in
theorem ggL_law_L_pass : GoodIn wsL_law wsL_pass := goodIn_ca (goodIn_r _ [541, 90, 542, 543, 544, 2, 545, 26, 102, 103, 104, 105, 106, 546, 547, 548, 549, 16, 227, 18, 356, 19, 550, 523, 551, 107, 108, 109, 15, 110, 111, 228, 229, 230, 231, 232, 233, 234, 235, 236, 237, 238, 239, 240, 241, 242, 243, 32, 552, 553, 554, 555, 275, 23, 556, 288, 557, 558, 559, 560, 561, 284, 562, 399, 301, 563, 456, 457, 458, 459, 365, 274, 395, 396, 397, 398, 441, 442, 443, 444, 303, 304, 305, 564, 565, 566, 567, 568, 569, 570, 571, 572, 573, 574, 575, 429, 427, 357, 358, 359, 360, 404, 405, 406, 407, 366, 408, 409, 27, 410, 285, 286, 287, 289, 290, 291, 292, 11, 12, 293, 294, 295, 576, 577, 578, 579, 522, 501, 502, 580, 499, 500, 25, 581, 582, 583, 584, 585, 586, 587, 588, 589, 590, 302, 371, 591, 245, 246, 101, 247, 248, 118, 119, 257, 258, 259, 260, 361, 362, 363, 364, 367, 368, 369, 370, 278, 279, 280, 281, 282, 283, 296, 297, 298, 299, 300, 306, 120, 121, 122, 123, 124, 125, 126, 127, 128, 129, 130, 131, 132, 133, 134, 135, 136, 137, 31, 138, 139, 140, 141, 142, 143, 144, 145, 146, 147, 148, 149, 150, 151, 152, 153, 154, 155, 156, 157, 158, 159, 160, 161, 162, 163, 164, 165, 166, 167, 168, 169, 170, 171, 400, 401, 402, 403, 20, 728, 729, 730, 731, 732, 733, 734, 735, 736, 737, 738, 813, 814, 815, 816, 817, 818, 819, 820, 821, 822, 823, 785, 786, 787, 788, 789, 790, 791, 792, 793, 801, 802, 803, 804, 805, 806, 807, 808, 809, 794, 795, 796, 797, 798, 799, 800, 810, 811, 812] (by decide +kernel) (by decide +kernel)) (goodIn_sub (fun _ h => List.mem_append_left _ (List.mem_append_right _ h)) (by decide +kernel))
set_option maxRecDepth 20000 in
theorem gL_law_L_pass : GoodIn wsL_law (va_wsS RL 128 yL_pass wsL_pass) := goodIn_app (goodIn_of _ (by decide +kernel)) ggL_law_L_pass
set_option maxRecDepth 20000 in
theorem ggL_law_X6_pass : GoodIn wsL_law wsX6_pass := goodIn_r _ [595, 341, 177, 313, 66, 68, 538, 78, 178, 179, 5, 180, 181, 182, 183, 184, 185, 596, 597, 598, 599, 52, 201, 600, 64, 62, 84, 85, 55, 464, 465, 466, 467, 336, 337, 338, 339, 63, 69, 70, 340, 71, 72, 601, 602, 603, 604, 77, 82, 73, 75, 76, 74, 83, 81, 79, 48, 328, 329, 330, 331, 53, 54, 380, 381, 382, 383, 65, 332, 333, 334, 335, 416, 417, 418, 419, 49, 739, 740, 741, 742, 743, 744, 745, 746, 747, 748, 749, 750, 751, 752, 753, 754, 755, 756, 757, 758, 759, 760, 761, 762, 763, 764, 765, 766, 767, 768, 769, 770, 771, 772, 773, 774, 775, 776, 777, 778, 779, 780, 781, 782, 783, 784] (by decide +kernel) (by decide +kernel)
set_option maxRecDepth 20000 in
theorem gL_law_X6_pass : GoodIn wsL_law (wsV RL 130 RX6 yX6_pass wsX6_pass) := goodIn_app (goodIn_of _ (by decide +kernel)) ggL_law_X6_pass
set_option maxRecDepth 20000 in
theorem ggL_law_L_receipt : GoodIn wsL_law wsL_receipt := goodIn_ca (goodIn_ca (goodIn_r _ [607, 345, 90, 608, 609, 610, 2, 611, 105, 106, 288, 365, 274, 612, 613, 427, 428, 429, 366, 614, 350, 351, 352, 353, 354, 355, 18, 356, 107, 108, 109, 15, 110, 111, 228, 229, 230, 231, 232, 233, 234, 235, 236, 237, 238, 239, 240, 241, 242, 243, 32, 367, 368, 369, 284, 370, 302, 371, 801, 802, 803, 804, 805, 806, 807, 808, 809, 794, 795, 796, 797, 798, 799, 800, 788, 789, 790, 791, 792, 793, 813, 814, 815, 816, 817, 818, 819, 820, 821, 822, 823, 728, 729, 730, 731, 732, 733, 734, 735, 736, 737, 738, 785, 786, 787, 810, 811, 812] (by decide +kernel) (by decide +kernel)) (goodIn_sub (fun _ h => List.mem_append_left _ (List.mem_append_right _ h)) (by decide +kernel))) (goodIn_sub (fun _ h => List.mem_append_right _ h) (by decide +kernel))
set_option maxRecDepth 20000 in
theorem gL_law_L_receipt : GoodIn wsL_law (va_wsS RL 131 yL_receipt wsL_receipt) := goodIn_app (goodIn_of _ (by decide +kernel)) ggL_law_L_receipt
set_option maxRecDepth 20000 in
theorem ggL_law_X6_receipt : GoodIn wsL_law wsX6_receipt := goodIn_r _ [618, 66, 62, 63, 64, 65, 67, 68, 69, 376, 377, 378, 5, 379, 313, 178, 179, 180, 181, 182, 183, 184, 185, 739, 740, 741, 742, 743, 744, 745, 746, 747, 748, 749, 750, 751, 752, 753, 754, 755, 756, 757, 758, 759, 760, 761, 762, 763, 764, 765, 766, 767, 768, 769, 770, 771, 772, 773, 774, 775, 776, 777, 778, 779, 780, 781, 782, 783, 784] (by decide +kernel) (by decide +kernel)
set_option maxRecDepth 20000 in
theorem gL_law_X6_receipt : GoodIn wsL_law (wsV RL 133 RX6 yX6_receipt wsX6_receipt) := goodIn_app (goodIn_of _ (by decide +kernel)) ggL_law_X6_receipt
set_option maxRecDepth 20000 in
theorem ggL_law_X5_receipts : GoodIn wsL_law wsX5_receipts := goodIn_r _ [622, 18, 107, 108, 109, 15, 110, 111, 728, 729, 730, 731, 732, 733, 734, 735, 736, 737, 738, 785, 786, 787] (by decide +kernel) (by decide +kernel)
set_option maxRecDepth 20000 in
theorem gL_law_X5_receipts : GoodIn wsL_law (wsV RL 134 RX5 yX5_receipts wsX5_receipts) := goodIn_app (goodIn_of _ (by decide +kernel)) ggL_law_X5_receipts
set_option maxRecDepth 20000 in
theorem ggL_law_X6_receipts : GoodIn wsL_law wsX6_receipts := goodIn_r _ [626, 185, 313, 739, 740, 741, 742, 743, 744, 745, 746, 747, 748, 749, 750, 751, 752, 753, 754, 755, 756, 757, 758, 759, 760, 761, 762, 763, 764, 765, 766, 767, 768, 769, 770, 771, 772, 773, 774, 775, 776, 777, 778, 779, 780, 781, 782, 783, 784] (by decide +kernel) (by decide +kernel)
set_option maxRecDepth 20000 in
theorem gL_law_X6_receipts : GoodIn wsL_law (wsV RL 137 RX6 yX6_receipts wsX6_receipts) := goodIn_app (goodIn_of _ (by decide +kernel)) ggL_law_X6_receipts
set_option maxRecDepth 20000 in
theorem ggL_law_L_delivery : GoodIn wsL_law wsL_delivery := goodIn_ca (goodIn_ca (goodIn_r _ [629, 345, 90, 630, 631, 632, 2, 633, 105, 106, 214, 476, 274, 612, 276, 477, 478, 479, 480, 354, 355, 17, 481, 107, 108, 109, 15, 110, 111, 228, 229, 230, 231, 232, 233, 234, 235, 236, 237, 238, 239, 240, 241, 242, 243, 32, 794, 795, 796, 797, 798, 799, 800, 788, 789, 790, 791, 792, 793, 728, 729, 730, 731, 732, 733, 734, 735, 736, 737, 738, 785, 786, 787] (by decide +kernel) (by decide +kernel)) (goodIn_sub (fun _ h => List.mem_append_left _ (List.mem_append_right _ h)) (by decide +kernel))) (goodIn_sub (fun _ h => List.mem_append_right _ h) (by decide +kernel))
set_option maxRecDepth 20000 in
theorem gL_law_L_delivery : GoodIn wsL_law (va_wsS RL 138 yL_delivery wsL_delivery) := goodIn_app (goodIn_of _ (by decide +kernel)) ggL_law_L_delivery
set_option maxRecDepth 20000 in
theorem ggL_law_X6_delivery : GoodIn wsL_law wsX6_delivery := goodIn_r _ [637, 312, 58, 60, 61, 56, 178, 179, 5, 180, 181, 182, 183, 184, 185, 739, 740, 741, 742, 743, 744, 745, 746, 747, 748, 749, 750, 751, 752, 753, 754, 755, 756, 757, 758, 759, 760, 761, 762, 763, 764, 765, 766, 767, 768, 769, 770, 771, 772, 773, 774, 775, 776, 777, 778, 779, 780, 781, 782, 783, 784] (by decide +kernel) (by decide +kernel)
set_option maxRecDepth 20000 in
theorem gL_law_X6_delivery : GoodIn wsL_law (wsV RL 140 RX6 yX6_delivery wsX6_delivery) := goodIn_app (goodIn_of _ (by decide +kernel)) ggL_law_X6_delivery
set_option maxRecDepth 20000 in
theorem ggL_law_L_ofContract : GoodIn wsL_law wsL_ofContract := goodIn_ca (goodIn_ca (goodIn_r _ [640, 345, 90, 641, 642, 643, 2, 644, 105, 106, 523, 551, 501, 502, 645, 646, 647, 648, 354, 355, 19, 550, 107, 108, 109, 15, 110, 111, 228, 229, 230, 231, 232, 233, 234, 235, 236, 237, 238, 239, 240, 241, 242, 243, 32, 813, 814, 815, 816, 817, 818, 819, 820, 821, 822, 823, 728, 729, 730, 731, 732, 733, 734, 735, 736, 737, 738, 785, 786, 787] (by decide +kernel) (by decide +kernel)) (goodIn_sub (fun _ h => List.mem_append_left _ (List.mem_append_right _ h)) (by decide +kernel))) (goodIn_sub (fun _ h => List.mem_append_right _ h) (by decide +kernel))
set_option maxRecDepth 20000 in
theorem gL_law_L_ofContract : GoodIn wsL_law (va_wsS RL 141 yL_ofContract wsL_ofContract) := goodIn_app (goodIn_of _ (by decide +kernel)) ggL_law_L_ofContract
set_option maxRecDepth 20000 in
theorem ggL_law_X6_ofContract : GoodIn wsL_law wsX6_ofContract := goodIn_r _ [652, 538, 78, 81, 82, 83, 178, 179, 5, 180, 181, 182, 183, 184, 185, 739, 740, 741, 742, 743, 744, 745, 746, 747, 748, 749, 750, 751, 752, 753, 754, 755, 756, 757, 758, 759, 760, 761, 762, 763, 764, 765, 766, 767, 768, 769, 770, 771, 772, 773, 774, 775, 776, 777, 778, 779, 780, 781, 782, 783, 784] (by decide +kernel) (by decide +kernel)
set_option maxRecDepth 20000 in
theorem gL_law_X6_ofContract : GoodIn wsL_law (wsV RL 143 RX6 yX6_ofContract wsX6_ofContract) := goodIn_app (goodIn_of _ (by decide +kernel)) ggL_law_X6_ofContract
set_option maxRecDepth 20000 in
theorem ggL_law_L_ofSilo : GoodIn wsL_law wsL_ofSilo := goodIn_ca (goodIn_ca (goodIn_r _ [655, 345, 90, 656, 657, 658, 2, 659, 105, 106, 275, 215, 216, 558, 660, 661, 662, 663, 354, 355, 16, 227, 107, 108, 109, 15, 110, 111, 228, 229, 230, 231, 232, 233, 234, 235, 236, 237, 238, 239, 240, 241, 242, 243, 32, 253, 254, 255, 101, 256, 248, 788, 789, 790, 791, 792, 793, 728, 729, 730, 731, 732, 733, 734, 735, 736, 737, 738, 785, 786, 787] (by decide +kernel) (by decide +kernel)) (goodIn_sub (fun _ h => List.mem_append_left _ (List.mem_append_right _ h)) (by decide +kernel))) (goodIn_sub (fun _ h => List.mem_append_right _ h) (by decide +kernel))
set_option maxRecDepth 20000 in
theorem gL_law_L_ofSilo : GoodIn wsL_law (va_wsS RL 144 yL_ofSilo wsL_ofSilo) := goodIn_app (goodIn_of _ (by decide +kernel)) ggL_law_L_ofSilo
set_option maxRecDepth 20000 in
theorem ggL_law_X6_ofSilo : GoodIn wsL_law wsX6_ofSilo := goodIn_r _ [667, 52, 55, 53, 54, 668, 669, 670, 5, 671, 177, 178, 179, 180, 181, 182, 183, 184, 185, 739, 740, 741, 742, 743, 744, 745, 746, 747, 748, 749, 750, 751, 752, 753, 754, 755, 756, 757, 758, 759, 760, 761, 762, 763, 764, 765, 766, 767, 768, 769, 770, 771, 772, 773, 774, 775, 776, 777, 778, 779, 780, 781, 782, 783, 784] (by decide +kernel) (by decide +kernel)
set_option maxRecDepth 20000 in
theorem gL_law_X6_ofSilo : GoodIn wsL_law (wsV RL 146 RX6 yX6_ofSilo wsX6_ofSilo) := goodIn_app (goodIn_of _ (by decide +kernel)) ggL_law_X6_ofSilo
set_option maxRecDepth 20000 in
theorem ggL_law_L_contentAnew : GoodIn wsL_law wsL_contentAnew := goodIn_ca (goodIn_r _ [674, 345, 675, 676, 677, 2, 678, 18, 356, 288, 660, 661, 662, 663, 354, 355, 16, 227, 107, 108, 109, 15, 110, 111, 228, 229, 230, 231, 232, 233, 234, 235, 236, 237, 238, 239, 240, 241, 242, 243, 32, 559, 560, 561, 284, 562, 399, 301, 563, 728, 729, 730, 731, 732, 733, 734, 735, 736, 737, 738, 801, 802, 803, 804, 805, 806, 807, 808, 809, 785, 786, 787, 794, 795, 796, 797, 798, 799, 800] (by decide +kernel) (by decide +kernel)) (goodIn_sub (fun _ h => List.mem_append_right _ h) (by decide +kernel))
set_option maxRecDepth 20000 in
theorem gL_law_L_contentAnew : GoodIn wsL_law (va_wsS RL 147 yL_contentAnew wsL_contentAnew) := goodIn_app (goodIn_of _ (by decide +kernel)) ggL_law_L_contentAnew
set_option maxRecDepth 20000 in
theorem ggL_law_X6_contentAnew : GoodIn wsL_law wsX6_contentAnew := goodIn_r _ [682, 313, 64, 62, 668, 669, 670, 5, 671, 177, 178, 179, 180, 181, 182, 183, 184, 185, 739, 740, 741, 742, 743, 744, 745, 746, 747, 748, 749, 750, 751, 752, 753, 754, 755, 756, 757, 758, 759, 760, 761, 762, 763, 764, 765, 766, 767, 768, 769, 770, 771, 772, 773, 774, 775, 776, 777, 778, 779, 780, 781, 782, 783, 784] (by decide +kernel) (by decide +kernel)
set_option maxRecDepth 20000 in
theorem gL_law_X6_contentAnew : GoodIn wsL_law (wsV RL 149 RX6 yX6_contentAnew wsX6_contentAnew) := goodIn_app (goodIn_of _ (by decide +kernel)) ggL_law_X6_contentAnew
set_option maxRecDepth 20000 in
theorem ggL_law_L_account : GoodIn wsL_law wsL_account := goodIn_ca (goodIn_r _ [685, 345, 686, 687, 688, 2, 689, 354, 355, 20, 728, 729, 730, 731, 732, 733, 734, 735, 736, 737, 738] (by decide +kernel) (by decide +kernel)) (goodIn_sub (fun _ h => List.mem_append_right _ h) (by decide +kernel))
set_option maxRecDepth 20000 in
theorem gL_law_L_account : GoodIn wsL_law (va_wsS RL 150 yL_account wsL_account) := goodIn_app (goodIn_of _ (by decide +kernel)) ggL_law_L_account
set_option maxRecDepth 20000 in
theorem ggL_law_X6_account : GoodIn wsL_law wsX6_account := goodIn_r _ [693, 49, 314, 315, 5, 316, 178, 179, 180, 181, 182, 183, 184, 185, 739, 740, 741, 742, 743, 744, 745, 746, 747, 748, 749, 750, 751, 752, 753, 754, 755, 756, 757, 758, 759, 760, 761, 762, 763, 764, 765, 766, 767, 768, 769, 770, 771, 772, 773, 774, 775, 776, 777, 778, 779, 780, 781, 782, 783, 784] (by decide +kernel) (by decide +kernel)
set_option maxRecDepth 20000 in
theorem gL_law_X6_account : GoodIn wsL_law (wsV RL 152 RX6 yX6_account wsX6_account) := goodIn_app (goodIn_of _ (by decide +kernel)) ggL_law_X6_account
set_option maxRecDepth 20000 in
theorem ggL_law_L_owes : GoodIn wsL_law wsL_owes := goodIn_ca (goodIn_r _ [696, 345, 697, 698, 699, 2, 700, 354, 355, 22, 728, 729, 730, 731, 732, 733, 734, 735, 736, 737, 738] (by decide +kernel) (by decide +kernel)) (goodIn_sub (fun _ h => List.mem_append_right _ h) (by decide +kernel))
set_option maxRecDepth 20000 in
theorem gL_law_L_owes : GoodIn wsL_law (va_wsS RL 153 yL_owes wsL_owes) := goodIn_app (goodIn_of _ (by decide +kernel)) ggL_law_L_owes
set_option maxRecDepth 20000 in
theorem ggL_law_X6_owes : GoodIn wsL_law wsX6_owes := goodIn_r _ [704, 50, 314, 315, 5, 316, 178, 179, 180, 181, 182, 183, 184, 185, 739, 740, 741, 742, 743, 744, 745, 746, 747, 748, 749, 750, 751, 752, 753, 754, 755, 756, 757, 758, 759, 760, 761, 762, 763, 764, 765, 766, 767, 768, 769, 770, 771, 772, 773, 774, 775, 776, 777, 778, 779, 780, 781, 782, 783, 784] (by decide +kernel) (by decide +kernel)
set_option maxRecDepth 20000 in
theorem gL_law_X6_owes : GoodIn wsL_law (wsV RL 155 RX6 yX6_owes wsX6_owes) := goodIn_app (goodIn_of _ (by decide +kernel)) ggL_law_X6_owes
set_option maxRecDepth 20000 in
theorem ggL_law_L_holds : GoodIn wsL_law wsL_holds := goodIn_ca (goodIn_ca (goodIn_r _ [707, 345, 90, 708, 709, 710, 2, 711, 354, 355, 18, 356, 288, 102, 103, 104, 105, 106, 107, 108, 109, 15, 110, 111, 228, 229, 230, 231, 232, 233, 234, 235, 236, 237, 238, 239, 240, 241, 242, 243, 32, 587, 588, 589, 284, 590, 399, 302, 371, 301, 563, 591, 245, 246, 101, 247, 248, 118, 119, 728, 729, 730, 731, 732, 733, 734, 735, 736, 737, 738, 801, 802, 803, 804, 805, 806, 807, 808, 809, 785, 786, 787, 810, 811, 812, 794, 795, 796, 797, 798, 799, 800, 788, 789, 790, 791, 792, 793] (by decide +kernel) (by decide +kernel)) (goodIn_sub (fun _ h => List.mem_append_right _ h) (by decide +kernel))) (goodIn_sub (fun _ h => List.mem_append_left _ (List.mem_append_right _ h)) (by decide +kernel))
set_option maxRecDepth 20000 in
theorem gL_law_L_holds : GoodIn wsL_law (va_wsS RL 156 yL_holds wsL_holds) := goodIn_app (goodIn_of _ (by decide +kernel)) ggL_law_L_holds
set_option maxRecDepth 20000 in
theorem ggL_law_X6_holds : GoodIn wsL_law wsX6_holds := goodIn_r _ [715, 313, 63, 64, 62, 314, 315, 5, 316, 178, 179, 180, 317, 318, 319, 181, 182, 183, 184, 185, 328, 329, 330, 331, 52, 53, 54, 739, 740, 741, 742, 743, 744, 745, 746, 747, 748, 749, 750, 751, 752, 753, 754, 755, 756, 757, 758, 759, 760, 761, 762, 763, 764, 765, 766, 767, 768, 769, 770, 771, 772, 773, 774, 775, 776, 777, 778, 779, 780, 781, 782, 783, 784] (by decide +kernel) (by decide +kernel)
set_option maxRecDepth 20000 in
theorem gL_law_X6_holds : GoodIn wsL_law (wsV RL 158 RX6 yX6_holds wsX6_holds) := goodIn_app (goodIn_of _ (by decide +kernel)) ggL_law_X6_holds
set_option maxRecDepth 20000 in
theorem ggL_law_L_ownerOn : GoodIn wsL_law wsL_ownerOn := goodIn_ca (goodIn_ca (goodIn_r _ [718, 345, 90, 719, 720, 721, 2, 722, 26, 408, 409, 410, 723, 350, 351, 352, 353, 354, 355, 18, 356, 107, 108, 109, 15, 110, 111, 228, 229, 230, 231, 232, 233, 234, 235, 236, 237, 238, 239, 240, 241, 242, 243, 32, 102, 103, 104, 105, 106, 728, 729, 730, 731, 732, 733, 734, 735, 736, 737, 738, 801, 802, 803, 804, 805, 806, 807, 808, 809, 810, 811, 812, 785, 786, 787] (by decide +kernel) (by decide +kernel)) (goodIn_sub (fun _ h => List.mem_append_right _ h) (by decide +kernel))) (goodIn_sub (fun _ h => List.mem_append_left _ (List.mem_append_right _ h)) (by decide +kernel))
set_option maxRecDepth 20000 in
theorem gL_law_L_ownerOn : GoodIn wsL_law (va_wsS RL 159 yL_ownerOn wsL_ownerOn) := goodIn_app (goodIn_of _ (by decide +kernel)) ggL_law_L_ownerOn
set_option maxRecDepth 20000 in
theorem ggL_law_X6_ownerOn : GoodIn wsL_law wsX6_ownerOn := goodIn_r _ [727, 341, 340, 70, 71, 72, 376, 377, 378, 5, 379, 313, 178, 179, 180, 181, 182, 183, 184, 185, 739, 740, 741, 742, 743, 744, 745, 746, 747, 748, 749, 750, 751, 752, 753, 754, 755, 756, 757, 758, 759, 760, 761, 762, 763, 764, 765, 766, 767, 768, 769, 770, 771, 772, 773, 774, 775, 776, 777, 778, 779, 780, 781, 782, 783, 784] (by decide +kernel) (by decide +kernel)
set_option maxRecDepth 20000 in
theorem gL_law_X6_ownerOn : GoodIn wsL_law (wsV RL 161 RX6 yX6_ownerOn wsX6_ownerOn) := goodIn_app (goodIn_of _ (by decide +kernel)) ggL_law_X6_ownerOn
theorem dL_law_0 : decode cL_law 0 = .ok (.new 8, 3) := by decide +kernel
theorem dL_law_3 : decode cL_law 3 = .ok (.dup, 1) := by decide +kernel
theorem dL_law_4 : decode cL_law 4 = .ok (.invokespecial 82, 3) := by decide +kernel
theorem dL_law_7 : decode cL_law 7 = .ok (.astore_n 1, 1) := by decide +kernel
theorem dL_law_8 : decode cL_law 8 = .ok (.new 83, 3) := by decide +kernel
theorem dL_law_11 : decode cL_law 11 = .ok (.dup, 1) := by decide +kernel
theorem dL_law_12 : decode cL_law 12 = .ok (.invokespecial 85, 3) := by decide +kernel
theorem dL_law_15 : decode cL_law 15 = .ok (.astore_n 2, 1) := by decide +kernel
theorem dL_law_16 : decode cL_law 16 = .ok (.iconst 1, 1) := by decide +kernel
theorem dL_law_17 : decode cL_law 17 = .ok (.newarray .long, 2) := by decide +kernel
theorem dL_law_19 : decode cL_law 19 = .ok (.astore_n 3, 1) := by decide +kernel
theorem dL_law_20 : decode cL_law 20 = .ok (.iconst 0, 1) := by decide +kernel
theorem dL_law_21 : decode cL_law 21 = .ok (.istore 4, 2) := by decide +kernel
theorem dL_law_23 : decode cL_law 23 = .ok (.iload 4, 2) := by decide +kernel
theorem dL_law_25 : decode cL_law 25 = .ok (.aload_n 0, 1) := by decide +kernel
theorem dL_law_26 : decode cL_law 26 = .ok (.arraylength, 1) := by decide +kernel
theorem dL_law_27 : decode cL_law 27 = .ok (.bipush 8, 2) := by decide +kernel
theorem dL_law_29 : decode cL_law 29 = .ok (.isub, 1) := by decide +kernel
theorem dL_law_30 : decode cL_law 30 = .ok (.if_icmp .gt 1532, 3) := by decide +kernel
theorem dL_law_33 : decode cL_law 33 = .ok (.aload_n 0, 1) := by decide +kernel
theorem dL_law_34 : decode cL_law 34 = .ok (.iload 4, 2) := by decide +kernel
theorem dL_law_36 : decode cL_law 36 = .ok (.iaload, 1) := by decide +kernel
theorem dL_law_37 : decode cL_law 37 = .ok (.bipush 31, 2) := by decide +kernel
theorem dL_law_39 : decode cL_law 39 = .ok (.iand, 1) := by decide +kernel
theorem dL_law_40 : decode cL_law 40 = .ok (.tableswitch 1516 0 20 #[100, 156, 216, 308, 376, 456, 548, 604, 660, 728, 860, 916, 984, 997, 1065, 1133, 1201, 1257, 1312, 1368, 1448], 100) := by decide +kernel
theorem dL_law_140 : decode cL_law 140 = .ok (.aload_n 1, 1) := by decide +kernel
theorem dL_law_141 : decode cL_law 141 = .ok (.aload_n 0, 1) := by decide +kernel
theorem dL_law_142 : decode cL_law 142 = .ok (.iload 4, 2) := by decide +kernel
theorem dL_law_144 : decode cL_law 144 = .ok (.iconst 1, 1) := by decide +kernel
theorem dL_law_145 : decode cL_law 145 = .ok (.iadd, 1) := by decide +kernel
theorem dL_law_146 : decode cL_law 146 = .ok (.iaload, 1) := by decide +kernel
theorem dL_law_147 : decode cL_law 147 = .ok (.aload_n 3, 1) := by decide +kernel
theorem dL_law_148 : decode cL_law 148 = .ok (.invokestatic 86, 3) := by decide +kernel
theorem dL_law_151 : decode cL_law 151 = .ok (.istore 5, 2) := by decide +kernel
theorem dL_law_153 : decode cL_law 153 = .ok (.aload_n 2, 1) := by decide +kernel
theorem dL_law_154 : decode cL_law 154 = .ok (.aload_n 0, 1) := by decide +kernel
theorem dL_law_155 : decode cL_law 155 = .ok (.iload 4, 2) := by decide +kernel
theorem dL_law_157 : decode cL_law 157 = .ok (.iconst 1, 1) := by decide +kernel
theorem dL_law_158 : decode cL_law 158 = .ok (.iadd, 1) := by decide +kernel
theorem dL_law_159 : decode cL_law 159 = .ok (.iaload, 1) := by decide +kernel
theorem dL_law_160 : decode cL_law 160 = .ok (.invokevirtual 91, 3) := by decide +kernel
theorem dL_law_163 : decode cL_law 163 = .ok (.istore 6, 2) := by decide +kernel
theorem dL_law_165 : decode cL_law 165 = .ok (.aload_n 2, 1) := by decide +kernel
theorem dL_law_166 : decode cL_law 166 = .ok (.invokevirtual 92, 3) := by decide +kernel
theorem dL_law_169 : decode cL_law 169 = .ok (.iload 5, 2) := by decide +kernel
theorem dL_law_171 : decode cL_law 171 = .ok (.if_icmp .eq 5, 3) := by decide +kernel
theorem dL_law_174 : decode cL_law 174 = .ok (.iconst 0, 1) := by decide +kernel
theorem dL_law_175 : decode cL_law 175 = .ok (.ireturn, 1) := by decide +kernel
theorem dL_law_176 : decode cL_law 176 = .ok (.iload 5, 2) := by decide +kernel
theorem dL_law_178 : decode cL_law 178 = .ok (.ifCond .ne 15, 3) := by decide +kernel
theorem dL_law_181 : decode cL_law 181 = .ok (.aload_n 3, 1) := by decide +kernel
theorem dL_law_182 : decode cL_law 182 = .ok (.iconst 0, 1) := by decide +kernel
theorem dL_law_183 : decode cL_law 183 = .ok (.laload, 1) := by decide +kernel
theorem dL_law_184 : decode cL_law 184 = .ok (.iload 6, 2) := by decide +kernel
theorem dL_law_186 : decode cL_law 186 = .ok (.i2l, 1) := by decide +kernel
theorem dL_law_187 : decode cL_law 187 = .ok (.lcmp, 1) := by decide +kernel
theorem dL_law_188 : decode cL_law 188 = .ok (.ifCond .eq 5, 3) := by decide +kernel
theorem dL_law_191 : decode cL_law 191 = .ok (.iconst 0, 1) := by decide +kernel
theorem dL_law_192 : decode cL_law 192 = .ok (.ireturn, 1) := by decide +kernel
theorem dL_law_193 : decode cL_law 193 = .ok (.goto 1363, 3) := by decide +kernel
theorem dL_law_196 : decode cL_law 196 = .ok (.aload_n 1, 1) := by decide +kernel
theorem dL_law_197 : decode cL_law 197 = .ok (.aload_n 0, 1) := by decide +kernel
theorem dL_law_198 : decode cL_law 198 = .ok (.iload 4, 2) := by decide +kernel
theorem dL_law_200 : decode cL_law 200 = .ok (.iconst 1, 1) := by decide +kernel
theorem dL_law_201 : decode cL_law 201 = .ok (.iadd, 1) := by decide +kernel
theorem dL_law_202 : decode cL_law 202 = .ok (.iaload, 1) := by decide +kernel
theorem dL_law_203 : decode cL_law 203 = .ok (.aload_n 0, 1) := by decide +kernel
theorem dL_law_204 : decode cL_law 204 = .ok (.iload 4, 2) := by decide +kernel
theorem dL_law_206 : decode cL_law 206 = .ok (.iconst 2, 1) := by decide +kernel
theorem dL_law_207 : decode cL_law 207 = .ok (.iadd, 1) := by decide +kernel
theorem dL_law_208 : decode cL_law 208 = .ok (.iaload, 1) := by decide +kernel
theorem dL_law_209 : decode cL_law 209 = .ok (.aload_n 0, 1) := by decide +kernel
theorem dL_law_210 : decode cL_law 210 = .ok (.iload 4, 2) := by decide +kernel
theorem dL_law_212 : decode cL_law 212 = .ok (.iconst 3, 1) := by decide +kernel
theorem dL_law_213 : decode cL_law 213 = .ok (.iadd, 1) := by decide +kernel
theorem dL_law_214 : decode cL_law 214 = .ok (.iaload, 1) := by decide +kernel
theorem dL_law_215 : decode cL_law 215 = .ok (.invokestatic 96, 3) := by decide +kernel
theorem dL_law_218 : decode cL_law 218 = .ok (.istore 5, 2) := by decide +kernel
theorem dL_law_220 : decode cL_law 220 = .ok (.aload_n 2, 1) := by decide +kernel
theorem dL_law_221 : decode cL_law 221 = .ok (.aload_n 0, 1) := by decide +kernel
theorem dL_law_222 : decode cL_law 222 = .ok (.iload 4, 2) := by decide +kernel
theorem dL_law_224 : decode cL_law 224 = .ok (.iconst 1, 1) := by decide +kernel
theorem dL_law_225 : decode cL_law 225 = .ok (.iadd, 1) := by decide +kernel
theorem dL_law_226 : decode cL_law 226 = .ok (.iaload, 1) := by decide +kernel
theorem dL_law_227 : decode cL_law 227 = .ok (.aload_n 0, 1) := by decide +kernel
theorem dL_law_228 : decode cL_law 228 = .ok (.iload 4, 2) := by decide +kernel
theorem dL_law_230 : decode cL_law 230 = .ok (.iconst 2, 1) := by decide +kernel
theorem dL_law_231 : decode cL_law 231 = .ok (.iadd, 1) := by decide +kernel
theorem dL_law_232 : decode cL_law 232 = .ok (.iaload, 1) := by decide +kernel
