set_option maxRecDepth 20000 in
theorem gX5_init_Jx4a65c_init_da8c8 : GoodIn wsX5_init (wsJx4a65c_init_da8c8) := ggX5_init_Jx4a65c_init_da8c8
theorem dX5_init_0 : decode cX5_init 0 = .ok (.aload_n 0, 1) := by decide +kernel
theorem dX5_init_1 : decode cX5_init 1 = .ok (.invokespecial 1, 3) := by decide +kernel
theorem dX5_init_4 : decode cX5_init 4 = .ok (.aload_n 0, 1) := by decide +kernel
theorem dX5_init_5 : decode cX5_init 5 = .ok (.new 7, 3) := by decide +kernel
theorem dX5_init_8 : decode cX5_init 8 = .ok (.dup, 1) := by decide +kernel
theorem dX5_init_9 : decode cX5_init 9 = .ok (.invokespecial 9, 3) := by decide +kernel
theorem dX5_init_12 : decode cX5_init 12 = .ok (.putfield 10, 3) := by decide +kernel
theorem dX5_init_15 : decode cX5_init 15 = .ok (.aload_n 0, 1) := by decide +kernel
theorem dX5_init_16 : decode cX5_init 16 = .ok (.new 7, 3) := by decide +kernel
theorem dX5_init_19 : decode cX5_init 19 = .ok (.dup, 1) := by decide +kernel
theorem dX5_init_20 : decode cX5_init 20 = .ok (.invokespecial 9, 3) := by decide +kernel
theorem dX5_init_23 : decode cX5_init 23 = .ok (.putfield 16, 3) := by decide +kernel
theorem dX5_init_26 : decode cX5_init 26 = .ok (.aload_n 0, 1) := by decide +kernel
theorem dX5_init_27 : decode cX5_init 27 = .ok (.new 7, 3) := by decide +kernel
theorem dX5_init_30 : decode cX5_init 30 = .ok (.dup, 1) := by decide +kernel
theorem dX5_init_31 : decode cX5_init 31 = .ok (.invokespecial 9, 3) := by decide +kernel
theorem dX5_init_34 : decode cX5_init 34 = .ok (.putfield 19, 3) := by decide +kernel
theorem dX5_init_37 : decode cX5_init 37 = .ok (.aload_n 0, 1) := by decide +kernel
theorem dX5_init_38 : decode cX5_init 38 = .ok (.new 7, 3) := by decide +kernel
theorem dX5_init_41 : decode cX5_init 41 = .ok (.dup, 1) := by decide +kernel
theorem dX5_init_42 : decode cX5_init 42 = .ok (.invokespecial 9, 3) := by decide +kernel
theorem dX5_init_45 : decode cX5_init 45 = .ok (.putfield 22, 3) := by decide +kernel
theorem dX5_init_48 : decode cX5_init 48 = .ok (.aload_n 0, 1) := by decide +kernel
theorem dX5_init_49 : decode cX5_init 49 = .ok (.bipush 6, 2) := by decide +kernel
theorem dX5_init_51 : decode cX5_init 51 = .ok (.newarray .long, 2) := by decide +kernel
theorem dX5_init_53 : decode cX5_init 53 = .ok (.putfield 25, 3) := by decide +kernel
theorem dX5_init_56 : decode cX5_init 56 = .ok (.aload_n 0, 1) := by decide +kernel
theorem dX5_init_57 : decode cX5_init 57 = .ok (.bipush 6, 2) := by decide +kernel
theorem dX5_init_59 : decode cX5_init 59 = .ok (.newarray .int, 2) := by decide +kernel
theorem dX5_init_61 : decode cX5_init 61 = .ok (.putfield 29, 3) := by decide +kernel
theorem dX5_init_64 : decode cX5_init 64 = .ok (.aload_n 0, 1) := by decide +kernel
theorem dX5_init_65 : decode cX5_init 65 = .ok (.iconst 0, 1) := by decide +kernel
theorem dX5_init_66 : decode cX5_init 66 = .ok (.putfield 33, 3) := by decide +kernel
theorem dX5_init_69 : decode cX5_init 69 = .ok (.aload_n 0, 1) := by decide +kernel
theorem dX5_init_70 : decode cX5_init 70 = .ok (.bipush 20, 2) := by decide +kernel
theorem dX5_init_72 : decode cX5_init 72 = .ok (.putfield 37, 3) := by decide +kernel
theorem dX5_init_75 : decode cX5_init 75 = .ok (.aload_n 0, 1) := by decide +kernel
theorem dX5_init_76 : decode cX5_init 76 = .ok (.iconst 5, 1) := by decide +kernel
theorem dX5_init_77 : decode cX5_init 77 = .ok (.putfield 40, 3) := by decide +kernel
theorem dX5_init_80 : decode cX5_init 80 = .ok (.aload_n 0, 1) := by decide +kernel
theorem dX5_init_81 : decode cX5_init 81 = .ok (.iconst 0, 1) := by decide +kernel
theorem dX5_init_82 : decode cX5_init 82 = .ok (.putfield 43, 3) := by decide +kernel
theorem dX5_init_85 : decode cX5_init 85 = .ok (.aload_n 0, 1) := by decide +kernel
theorem dX5_init_86 : decode cX5_init 86 = .ok (.iconst 0, 1) := by decide +kernel
theorem dX5_init_87 : decode cX5_init 87 = .ok (.putfield 46, 3) := by decide +kernel
theorem dX5_init_90 : decode cX5_init 90 = .ok (.return_, 1) := by decide +kernel
set_option maxRecDepth 20000 in
theorem ggX5_silo_X5_needRange : GoodIn wsX5_silo wsX5_needRange := goodIn_ca (goodIn_r _ [11, 12, 13] (by decide +kernel) (by decide +kernel)) (goodIn_sub (fun _ h => List.mem_cons_of_mem _ (List.mem_append_right _ h)) (by decide +kernel))
set_option maxRecDepth 20000 in
theorem gX5_silo_X5_needRange : GoodIn wsX5_silo (va_wsS RX5 50 yX5_needRange wsX5_needRange) := goodIn_app (goodIn_of _ (by decide +kernel)) ggX5_silo_X5_needRange
set_option maxRecDepth 20000 in
theorem ggX5_silo_Jx4a65c_size_8abf5 : GoodIn wsX5_silo wsJx4a65c_size_8abf5 := goodIn_r _ [18, 19, 101, 102, 103] (by decide +kernel) (by decide +kernel)
set_option maxRecDepth 20000 in
theorem gX5_silo_Jx4a65c_size_8abf5 : GoodIn wsX5_silo (wsV RX5 54 RJx4a65c yJx4a65c_size_8abf5 wsJx4a65c_size_8abf5) := goodIn_app (goodIn_of _ (by decide +kernel)) ggX5_silo_Jx4a65c_size_8abf5
set_option maxRecDepth 20000 in
theorem ggX5_silo_X3_init : GoodIn wsX5_silo wsX3_init := goodIn_r _ [22, 23, 24, 25, 26, 27, 28, 29, 95, 96, 97, 98, 99, 100] (by decide +kernel) (by decide +kernel)
set_option maxRecDepth 20000 in
theorem gX5_silo_X3_init : GoodIn wsX5_silo (wsX3_init) := ggX5_silo_X3_init
set_option maxRecDepth 20000 in
theorem ggX5_silo_Jx4a65c_add_9ea2d : GoodIn wsX5_silo wsJx4a65c_add_9ea2d := goodIn_r _ [33, 34, 35, 36, 19, 37, 38, 39, 17, 40, 41, 42, 43, 44, 45, 46, 47, 48, 49, 50, 51, 52, 53, 54, 55, 56, 57, 58, 59, 60, 61, 62, 63, 64, 65, 66, 67, 68, 69, 70, 71, 72, 73, 74, 75, 76, 77, 78, 79, 80, 81, 82, 83, 101, 102, 103] (by decide +kernel) (by decide +kernel)
set_option maxRecDepth 20000 in
theorem gX5_silo_Jx4a65c_add_9ea2d : GoodIn wsX5_silo (wsV RX5 70 RJx4a65c yJx4a65c_add_9ea2d wsJx4a65c_add_9ea2d) := goodIn_app (goodIn_of _ (by decide +kernel)) ggX5_silo_Jx4a65c_add_9ea2d
theorem dX5_silo_0 : decode cX5_silo 0 = .ok (.iload_n 1, 1) := by decide +kernel
theorem dX5_silo_1 : decode cX5_silo 1 = .ok (.iconst 1, 1) := by decide +kernel
theorem dX5_silo_2 : decode cX5_silo 2 = .ok (.ldc 49, 2) := by decide +kernel
theorem dX5_silo_4 : decode cX5_silo 4 = .ok (.invokestatic 50, 3) := by decide +kernel
theorem dX5_silo_7 : decode cX5_silo 7 = .ok (.aload_n 0, 1) := by decide +kernel
theorem dX5_silo_8 : decode cX5_silo 8 = .ok (.getfield 10, 3) := by decide +kernel
theorem dX5_silo_11 : decode cX5_silo 11 = .ok (.invokevirtual 54, 3) := by decide +kernel
theorem dX5_silo_14 : decode cX5_silo 14 = .ok (.istore_n 2, 1) := by decide +kernel
theorem dX5_silo_15 : decode cX5_silo 15 = .ok (.iload_n 2, 1) := by decide +kernel
theorem dX5_silo_16 : decode cX5_silo 16 = .ok (.bipush 6, 2) := by decide +kernel
theorem dX5_silo_18 : decode cX5_silo 18 = .ok (.if_icmp .lt 13, 3) := by decide +kernel
theorem dX5_silo_21 : decode cX5_silo 21 = .ok (.new 58, 3) := by decide +kernel
theorem dX5_silo_24 : decode cX5_silo 24 = .ok (.dup, 1) := by decide +kernel
theorem dX5_silo_25 : decode cX5_silo 25 = .ok (.ldc 60, 2) := by decide +kernel
theorem dX5_silo_27 : decode cX5_silo 27 = .ok (.invokespecial 62, 3) := by decide +kernel
theorem dX5_silo_30 : decode cX5_silo 30 = .ok (.athrow, 1) := by decide +kernel
theorem dX5_silo_31 : decode cX5_silo 31 = .ok (.aload_n 0, 1) := by decide +kernel
theorem dX5_silo_32 : decode cX5_silo 32 = .ok (.getfield 10, 3) := by decide +kernel
theorem dX5_silo_35 : decode cX5_silo 35 = .ok (.new 65, 3) := by decide +kernel
theorem dX5_silo_38 : decode cX5_silo 38 = .ok (.dup, 1) := by decide +kernel
theorem dX5_silo_39 : decode cX5_silo 39 = .ok (.iload_n 2, 1) := by decide +kernel
theorem dX5_silo_40 : decode cX5_silo 40 = .ok (.iload_n 1, 1) := by decide +kernel
theorem dX5_silo_41 : decode cX5_silo 41 = .ok (.invokespecial 67, 3) := by decide +kernel
theorem dX5_silo_44 : decode cX5_silo 44 = .ok (.invokevirtual 70, 3) := by decide +kernel
theorem dX5_silo_47 : decode cX5_silo 47 = .ok (.pop, 1) := by decide +kernel
theorem dX5_silo_48 : decode cX5_silo 48 = .ok (.iload_n 2, 1) := by decide +kernel
theorem dX5_silo_49 : decode cX5_silo 49 = .ok (.ireturn, 1) := by decide +kernel
set_option maxRecDepth 20000 in
theorem ggX5_terms_X5_needRange : GoodIn wsX5_terms wsX5_needRange := goodIn_ca (goodIn_r _ [7, 8, 9] (by decide +kernel) (by decide +kernel)) (goodIn_sub (fun _ h => List.mem_cons_of_mem _ (List.mem_append_right _ h)) (by decide +kernel))
set_option maxRecDepth 20000 in
theorem gX5_terms_X5_needRange : GoodIn wsX5_terms (va_wsS RX5 50 yX5_needRange wsX5_needRange) := goodIn_app (goodIn_of _ (by decide +kernel)) ggX5_terms_X5_needRange
theorem dX5_terms_0 : decode cX5_terms 0 = .ok (.iload_n 1, 1) := by decide +kernel
theorem dX5_terms_1 : decode cX5_terms 1 = .ok (.iconst 0, 1) := by decide +kernel
theorem dX5_terms_2 : decode cX5_terms 2 = .ok (.sipush 5000, 3) := by decide +kernel
theorem dX5_terms_5 : decode cX5_terms 5 = .ok (.invokestatic 50, 3) := by decide +kernel
theorem dX5_terms_8 : decode cX5_terms 8 = .ok (.iload_n 2, 1) := by decide +kernel
theorem dX5_terms_9 : decode cX5_terms 9 = .ok (.iconst 0, 1) := by decide +kernel
theorem dX5_terms_10 : decode cX5_terms 10 = .ok (.sipush 1000, 3) := by decide +kernel
theorem dX5_terms_13 : decode cX5_terms 13 = .ok (.invokestatic 50, 3) := by decide +kernel
theorem dX5_terms_16 : decode cX5_terms 16 = .ok (.iload_n 3, 1) := by decide +kernel
theorem dX5_terms_17 : decode cX5_terms 17 = .ok (.iconst 0, 1) := by decide +kernel
theorem dX5_terms_18 : decode cX5_terms 18 = .ok (.sipush 1000, 3) := by decide +kernel
theorem dX5_terms_21 : decode cX5_terms 21 = .ok (.invokestatic 50, 3) := by decide +kernel
theorem dX5_terms_24 : decode cX5_terms 24 = .ok (.aload_n 0, 1) := by decide +kernel
theorem dX5_terms_25 : decode cX5_terms 25 = .ok (.iload_n 1, 1) := by decide +kernel
theorem dX5_terms_26 : decode cX5_terms 26 = .ok (.putfield 33, 3) := by decide +kernel
theorem dX5_terms_29 : decode cX5_terms 29 = .ok (.aload_n 0, 1) := by decide +kernel
theorem dX5_terms_30 : decode cX5_terms 30 = .ok (.iload_n 2, 1) := by decide +kernel
theorem dX5_terms_31 : decode cX5_terms 31 = .ok (.putfield 37, 3) := by decide +kernel
theorem dX5_terms_34 : decode cX5_terms 34 = .ok (.aload_n 0, 1) := by decide +kernel
theorem dX5_terms_35 : decode cX5_terms 35 = .ok (.iload_n 3, 1) := by decide +kernel
theorem dX5_terms_36 : decode cX5_terms 36 = .ok (.putfield 40, 3) := by decide +kernel
theorem dX5_terms_39 : decode cX5_terms 39 = .ok (.return_, 1) := by decide +kernel
set_option maxRecDepth 20000 in
theorem ggX5_deliver_X5_needRange : GoodIn wsX5_deliver wsX5_needRange := goodIn_ca (goodIn_r _ [15, 16, 17] (by decide +kernel) (by decide +kernel)) (goodIn_sub (fun _ h => List.mem_cons_of_mem _ (List.mem_append_right _ h)) (by decide +kernel))
set_option maxRecDepth 20000 in
theorem gX5_deliver_X5_needRange : GoodIn wsX5_deliver (va_wsS RX5 50 yX5_needRange wsX5_needRange) := goodIn_app (goodIn_of _ (by decide +kernel)) ggX5_deliver_X5_needRange
set_option maxRecDepth 20000 in
theorem ggX5_deliver_X5_gradeOf : GoodIn wsX5_deliver wsX5_gradeOf := goodIn_r _ [20] (by decide +kernel) (by decide +kernel)
set_option maxRecDepth 20000 in
theorem gX5_deliver_X5_gradeOf : GoodIn wsX5_deliver (va_wsS RX5 75 yX5_gradeOf wsX5_gradeOf) := goodIn_app (goodIn_of _ (by decide +kernel)) ggX5_deliver_X5_gradeOf
set_option maxRecDepth 20000 in
theorem ggX5_deliver_X5_dryWeight : GoodIn wsX5_deliver wsX5_dryWeight := goodIn_r _ [23] (by decide +kernel) (by decide +kernel)
set_option maxRecDepth 20000 in
theorem gX5_deliver_X5_dryWeight : GoodIn wsX5_deliver (va_wsS RX5 79 yX5_dryWeight wsX5_dryWeight) := goodIn_app (goodIn_of _ (by decide +kernel)) ggX5_deliver_X5_dryWeight
set_option maxRecDepth 20000 in
theorem ggX5_deliver_X5_siloFor : GoodIn wsX5_deliver wsX5_siloFor := goodIn_r _ [27, 28, 29, 30, 31, 32, 33, 34, 35, 36, 37, 38, 39, 40, 41, 42, 43, 44, 45, 46, 47, 48, 49, 50, 51, 52, 53, 54, 55, 56, 57, 58, 59, 60, 61, 62, 63, 64, 65, 66, 67, 68, 69, 177, 178, 179, 180, 181, 182, 183, 184, 185, 186, 187, 201, 202, 203, 195, 196, 197, 198, 199, 200] (by decide +kernel) (by decide +kernel)
set_option maxRecDepth 20000 in
theorem gX5_deliver_X5_siloFor : GoodIn wsX5_deliver (wsV RX5 83 RX5 yX5_siloFor wsX5_siloFor) := goodIn_app (goodIn_of _ (by decide +kernel)) ggX5_deliver_X5_siloFor
set_option maxRecDepth 20000 in
theorem ggX5_deliver_Jx4a65c_size_8abf5 : GoodIn wsX5_deliver wsJx4a65c_size_8abf5 := goodIn_r _ [34, 35, 201, 202, 203] (by decide +kernel) (by decide +kernel)
set_option maxRecDepth 20000 in
theorem gX5_deliver_Jx4a65c_size_8abf5 : GoodIn wsX5_deliver (wsV RX5 54 RJx4a65c yJx4a65c_size_8abf5 wsJx4a65c_size_8abf5) := goodIn_app (goodIn_of _ (by decide +kernel)) ggX5_deliver_Jx4a65c_size_8abf5
set_option maxRecDepth 20000 in
theorem ggX5_deliver_X5_receiptsAreFull : GoodIn wsX5_deliver wsX5_receiptsAreFull := goodIn_r _ [73, 74, 30, 31, 32, 33, 34, 35, 177, 178, 179, 180, 181, 182, 183, 184, 185, 186, 187, 201, 202, 203] (by decide +kernel) (by decide +kernel)
set_option maxRecDepth 20000 in
theorem gX5_deliver_X5_receiptsAreFull : GoodIn wsX5_deliver (wsV RX5 87 RX5 yX5_receiptsAreFull wsX5_receiptsAreFull) := goodIn_app (goodIn_of _ (by decide +kernel)) ggX5_deliver_X5_receiptsAreFull
set_option maxRecDepth 20000 in
theorem ggX5_deliver_X1_init : GoodIn wsX5_deliver wsX1_init := goodIn_r _ [77, 78, 79, 80, 81, 82, 83, 84, 85, 188, 189, 190, 191, 192, 193, 194] (by decide +kernel) (by decide +kernel)
set_option maxRecDepth 20000 in
theorem gX5_deliver_X1_init : GoodIn wsX5_deliver (wsX1_init) := ggX5_deliver_X1_init
set_option maxRecDepth 20000 in
theorem ggX5_deliver_Jx4a65c_add_9ea2d : GoodIn wsX5_deliver wsJx4a65c_add_9ea2d := goodIn_r _ [89, 90, 91, 52, 35, 92, 93, 94, 33, 95, 96, 97, 98, 99, 100, 101, 102, 103, 104, 105, 106, 107, 108, 109, 110, 111, 112, 113, 114, 115, 116, 117, 118, 119, 120, 121, 122, 123, 124, 125, 126, 127, 128, 129, 130, 131, 132, 133, 134, 135, 136, 137, 138, 201, 202, 203] (by decide +kernel) (by decide +kernel)
set_option maxRecDepth 20000 in
theorem gX5_deliver_Jx4a65c_add_9ea2d : GoodIn wsX5_deliver (wsV RX5 70 RJx4a65c yJx4a65c_add_9ea2d wsJx4a65c_add_9ea2d) := goodIn_app (goodIn_of _ (by decide +kernel)) ggX5_deliver_Jx4a65c_add_9ea2d
set_option maxRecDepth 20000 in
theorem ggX5_deliver_X5_putIn : GoodIn wsX5_deliver wsX5_putIn := goodIn_r _ [142, 143, 144, 145, 146, 147, 148, 149, 14, 150, 151, 152, 153, 74, 154, 155, 156, 157, 158, 30, 31, 32, 33, 34, 35, 159, 160, 161, 162, 79, 80, 163, 164, 165, 166, 167, 168, 169, 170, 171, 172, 173, 174, 175, 176, 86, 87, 88, 89, 90, 91, 52, 92, 93, 94, 95, 96, 97, 98, 99, 100, 101, 102, 103, 104, 105, 106, 107, 108, 109, 110, 111, 112, 113, 114, 115, 116, 117, 118, 119, 120, 121, 122, 123, 124, 125, 126, 127, 128, 129, 130, 131, 132, 133, 134, 135, 136, 137, 138, 188, 189, 190, 191, 192, 193, 194, 195, 196, 197, 198, 199, 200, 204, 205, 206, 207, 208, 209, 210, 211, 212, 177, 178, 179, 180, 181, 182, 183, 184, 185, 186, 187, 213, 214, 215, 201, 202, 203] (by decide +kernel) (by decide +kernel)
set_option maxRecDepth 20000 in
theorem gX5_deliver_X5_putIn : GoodIn wsX5_deliver (wsV RX5 110 RX5 yX5_putIn wsX5_putIn) := goodIn_app (goodIn_of _ (by decide +kernel)) ggX5_deliver_X5_putIn
theorem dX5_deliver_0 : decode cX5_deliver 0 = .ok (.iload_n 1, 1) := by decide +kernel
theorem dX5_deliver_1 : decode cX5_deliver 1 = .ok (.iconst 0, 1) := by decide +kernel
theorem dX5_deliver_2 : decode cX5_deliver 2 = .ok (.iconst 5, 1) := by decide +kernel
theorem dX5_deliver_3 : decode cX5_deliver 3 = .ok (.invokestatic 50, 3) := by decide +kernel
theorem dX5_deliver_6 : decode cX5_deliver 6 = .ok (.iload_n 2, 1) := by decide +kernel
theorem dX5_deliver_7 : decode cX5_deliver 7 = .ok (.iconst 0, 1) := by decide +kernel
theorem dX5_deliver_8 : decode cX5_deliver 8 = .ok (.iconst 2, 1) := by decide +kernel
theorem dX5_deliver_9 : decode cX5_deliver 9 = .ok (.invokestatic 50, 3) := by decide +kernel
theorem dX5_deliver_12 : decode cX5_deliver 12 = .ok (.iload_n 3, 1) := by decide +kernel
theorem dX5_deliver_13 : decode cX5_deliver 13 = .ok (.bipush 100, 2) := by decide +kernel
theorem dX5_deliver_15 : decode cX5_deliver 15 = .ok (.ldc 74, 2) := by decide +kernel
theorem dX5_deliver_17 : decode cX5_deliver 17 = .ok (.invokestatic 50, 3) := by decide +kernel
theorem dX5_deliver_20 : decode cX5_deliver 20 = .ok (.iload 4, 2) := by decide +kernel
theorem dX5_deliver_22 : decode cX5_deliver 22 = .ok (.bipush 50, 2) := by decide +kernel
theorem dX5_deliver_24 : decode cX5_deliver 24 = .ok (.sipush 300, 3) := by decide +kernel
theorem dX5_deliver_27 : decode cX5_deliver 27 = .ok (.invokestatic 50, 3) := by decide +kernel
theorem dX5_deliver_30 : decode cX5_deliver 30 = .ok (.iload 4, 2) := by decide +kernel
theorem dX5_deliver_32 : decode cX5_deliver 32 = .ok (.invokestatic 75, 3) := by decide +kernel
theorem dX5_deliver_35 : decode cX5_deliver 35 = .ok (.istore 5, 2) := by decide +kernel
theorem dX5_deliver_37 : decode cX5_deliver 37 = .ok (.iload_n 3, 1) := by decide +kernel
theorem dX5_deliver_38 : decode cX5_deliver 38 = .ok (.iload 4, 2) := by decide +kernel
theorem dX5_deliver_40 : decode cX5_deliver 40 = .ok (.invokestatic 79, 3) := by decide +kernel
theorem dX5_deliver_43 : decode cX5_deliver 43 = .ok (.istore 6, 2) := by decide +kernel
theorem dX5_deliver_45 : decode cX5_deliver 45 = .ok (.aload_n 0, 1) := by decide +kernel
theorem dX5_deliver_46 : decode cX5_deliver 46 = .ok (.iload_n 2, 1) := by decide +kernel
theorem dX5_deliver_47 : decode cX5_deliver 47 = .ok (.iload 5, 2) := by decide +kernel
theorem dX5_deliver_49 : decode cX5_deliver 49 = .ok (.iload 6, 2) := by decide +kernel
theorem dX5_deliver_51 : decode cX5_deliver 51 = .ok (.invokevirtual 83, 3) := by decide +kernel
theorem dX5_deliver_54 : decode cX5_deliver 54 = .ok (.astore 7, 2) := by decide +kernel
theorem dX5_deliver_56 : decode cX5_deliver 56 = .ok (.aload_n 0, 1) := by decide +kernel
theorem dX5_deliver_57 : decode cX5_deliver 57 = .ok (.getfield 16, 3) := by decide +kernel
theorem dX5_deliver_60 : decode cX5_deliver 60 = .ok (.invokevirtual 54, 3) := by decide +kernel
theorem dX5_deliver_63 : decode cX5_deliver 63 = .ok (.bipush 40, 2) := by decide +kernel
theorem dX5_deliver_65 : decode cX5_deliver 65 = .ok (.if_icmp .ge 15, 3) := by decide +kernel
theorem dX5_deliver_68 : decode cX5_deliver 68 = .ok (.aload_n 0, 1) := by decide +kernel
theorem dX5_deliver_69 : decode cX5_deliver 69 = .ok (.invokevirtual 87, 3) := by decide +kernel
theorem dX5_deliver_72 : decode cX5_deliver 72 = .ok (.ifCond .ne 8, 3) := by decide +kernel
theorem dX5_deliver_75 : decode cX5_deliver 75 = .ok (.aload 7, 2) := by decide +kernel
theorem dX5_deliver_77 : decode cX5_deliver 77 = .ok (.ifnonnull 13, 3) := by decide +kernel
theorem dX5_deliver_80 : decode cX5_deliver 80 = .ok (.new 58, 3) := by decide +kernel
theorem dX5_deliver_83 : decode cX5_deliver 83 = .ok (.dup, 1) := by decide +kernel
theorem dX5_deliver_84 : decode cX5_deliver 84 = .ok (.ldc 91, 2) := by decide +kernel
theorem dX5_deliver_86 : decode cX5_deliver 86 = .ok (.invokespecial 62, 3) := by decide +kernel
theorem dX5_deliver_89 : decode cX5_deliver 89 = .ok (.athrow, 1) := by decide +kernel
theorem dX5_deliver_90 : decode cX5_deliver 90 = .ok (.new 93, 3) := by decide +kernel
theorem dX5_deliver_93 : decode cX5_deliver 93 = .ok (.dup, 1) := by decide +kernel
theorem dX5_deliver_94 : decode cX5_deliver 94 = .ok (.aload_n 0, 1) := by decide +kernel
theorem dX5_deliver_95 : decode cX5_deliver 95 = .ok (.getfield 16, 3) := by decide +kernel
theorem dX5_deliver_98 : decode cX5_deliver 98 = .ok (.invokevirtual 54, 3) := by decide +kernel
theorem dX5_deliver_101 : decode cX5_deliver 101 = .ok (.iload_n 1, 1) := by decide +kernel
theorem dX5_deliver_102 : decode cX5_deliver 102 = .ok (.iload_n 2, 1) := by decide +kernel
theorem dX5_deliver_103 : decode cX5_deliver 103 = .ok (.iload 5, 2) := by decide +kernel
theorem dX5_deliver_105 : decode cX5_deliver 105 = .ok (.aload 7, 2) := by decide +kernel
theorem dX5_deliver_107 : decode cX5_deliver 107 = .ok (.invokespecial 95, 3) := by decide +kernel
theorem dX5_deliver_110 : decode cX5_deliver 110 = .ok (.astore 8, 2) := by decide +kernel
theorem dX5_deliver_112 : decode cX5_deliver 112 = .ok (.aload 8, 2) := by decide +kernel
theorem dX5_deliver_114 : decode cX5_deliver 114 = .ok (.iload_n 3, 1) := by decide +kernel
theorem dX5_deliver_115 : decode cX5_deliver 115 = .ok (.putfield 98, 3) := by decide +kernel
theorem dX5_deliver_118 : decode cX5_deliver 118 = .ok (.aload 8, 2) := by decide +kernel
theorem dX5_deliver_120 : decode cX5_deliver 120 = .ok (.iload 6, 2) := by decide +kernel
theorem dX5_deliver_122 : decode cX5_deliver 122 = .ok (.putfield 101, 3) := by decide +kernel
theorem dX5_deliver_125 : decode cX5_deliver 125 = .ok (.aload_n 0, 1) := by decide +kernel
theorem dX5_deliver_126 : decode cX5_deliver 126 = .ok (.getfield 16, 3) := by decide +kernel
theorem dX5_deliver_129 : decode cX5_deliver 129 = .ok (.aload 8, 2) := by decide +kernel
theorem dX5_deliver_131 : decode cX5_deliver 131 = .ok (.invokevirtual 70, 3) := by decide +kernel
theorem dX5_deliver_134 : decode cX5_deliver 134 = .ok (.pop, 1) := by decide +kernel
theorem dX5_deliver_135 : decode cX5_deliver 135 = .ok (.aload 7, 2) := by decide +kernel
theorem dX5_deliver_137 : decode cX5_deliver 137 = .ok (.iload_n 2, 1) := by decide +kernel
theorem dX5_deliver_138 : decode cX5_deliver 138 = .ok (.putfield 104, 3) := by decide +kernel
theorem dX5_deliver_141 : decode cX5_deliver 141 = .ok (.aload 7, 2) := by decide +kernel
theorem dX5_deliver_143 : decode cX5_deliver 143 = .ok (.iload 5, 2) := by decide +kernel
theorem dX5_deliver_145 : decode cX5_deliver 145 = .ok (.putfield 107, 3) := by decide +kernel
theorem dX5_deliver_148 : decode cX5_deliver 148 = .ok (.aload_n 0, 1) := by decide +kernel
theorem dX5_deliver_149 : decode cX5_deliver 149 = .ok (.aload 8, 2) := by decide +kernel
theorem dX5_deliver_151 : decode cX5_deliver 151 = .ok (.iload 6, 2) := by decide +kernel
theorem dX5_deliver_153 : decode cX5_deliver 153 = .ok (.invokevirtual 110, 3) := by decide +kernel
theorem dX5_deliver_156 : decode cX5_deliver 156 = .ok (.ireturn, 1) := by decide +kernel
set_option maxRecDepth 20000 in
theorem ggX5_split_X5_findReceipt : GoodIn wsX5_split wsX5_findReceipt := goodIn_ca (goodIn_r _ [10, 11, 12, 13, 14, 15, 16, 17, 18, 19, 20, 21, 22, 23, 24, 25, 26, 27, 28, 29, 30, 31, 32, 33, 34, 35, 36, 37, 155, 156, 157, 158, 159, 160, 161, 162, 163, 164, 165, 166, 167, 168] (by decide +kernel) (by decide +kernel)) (goodIn_sub (fun _ h => List.mem_cons_of_mem _ (List.mem_append_left _ (List.mem_append_right _ h))) (by decide +kernel))
set_option maxRecDepth 20000 in
theorem gX5_split_X5_findReceipt : GoodIn wsX5_split (wsV RX5 114 RX5 yX5_findReceipt wsX5_findReceipt) := goodIn_app (goodIn_of _ (by decide +kernel)) ggX5_split_X5_findReceipt
set_option maxRecDepth 20000 in
theorem ggX5_split_X5_needRange : GoodIn wsX5_split wsX5_needRange := goodIn_ca (goodIn_r _ [40, 41, 42] (by decide +kernel) (by decide +kernel)) (goodIn_sub (fun _ h => List.mem_cons_of_mem _ (List.mem_append_right _ h)) (by decide +kernel))
set_option maxRecDepth 20000 in
theorem gX5_split_X5_needRange : GoodIn wsX5_split (va_wsS RX5 50 yX5_needRange wsX5_needRange) := goodIn_app (goodIn_of _ (by decide +kernel)) ggX5_split_X5_needRange
set_option maxRecDepth 20000 in
theorem ggX5_split_X2_isPledged : GoodIn wsX5_split wsX2_isPledged := goodIn_r _ [47, 48, 146, 147, 148, 149, 150, 151, 152, 153, 154] (by decide +kernel) (by decide +kernel)
set_option maxRecDepth 20000 in
theorem gX5_split_X2_isPledged : GoodIn wsX5_split (wsV RX5 123 RX2 yX2_isPledged wsX2_isPledged) := goodIn_app (goodIn_of _ (by decide +kernel)) ggX5_split_X2_isPledged
set_option maxRecDepth 20000 in
theorem ggX5_split_X5_receiptsAreFull : GoodIn wsX5_split wsX5_receiptsAreFull := goodIn_r _ [52, 13, 15, 16, 17, 18, 19, 20, 155, 156, 157, 158, 159, 160, 161, 162, 163, 164, 165, 166, 167, 168] (by decide +kernel) (by decide +kernel)
set_option maxRecDepth 20000 in
theorem gX5_split_X5_receiptsAreFull : GoodIn wsX5_split (wsV RX5 87 RX5 yX5_receiptsAreFull wsX5_receiptsAreFull) := goodIn_app (goodIn_of _ (by decide +kernel)) ggX5_split_X5_receiptsAreFull
set_option maxRecDepth 20000 in
theorem ggX5_split_X5_splitOff : GoodIn wsX5_split wsX5_splitOff := goodIn_r _ [56, 57, 58, 4, 59, 60, 61, 46, 62, 63, 64, 65, 66, 67, 9, 68, 69, 70, 13, 71, 72, 73, 74, 15, 16, 17, 18, 19, 20, 75, 76, 77, 78, 79, 80, 81, 82, 83, 84, 85, 86, 87, 88, 89, 48, 90, 91, 92, 93, 94, 95, 96, 97, 98, 37, 99, 100, 101, 102, 103, 104, 105, 106, 107, 108, 109, 110, 111, 112, 113, 114, 115, 116, 117, 118, 119, 120, 121, 122, 123, 124, 125, 126, 127, 128, 129, 130, 131, 132, 133, 134, 135, 136, 137, 138, 139, 140, 141, 142, 143, 144, 145, 146, 147, 148, 149, 150, 151, 152, 153, 154, 169, 170, 171, 155, 156, 157, 158, 159, 160, 161, 162, 163, 164, 165, 166, 167, 168] (by decide +kernel) (by decide +kernel)
set_option maxRecDepth 20000 in
theorem gX5_split_X5_splitOff : GoodIn wsX5_split (wsV RX5 128 RX5 yX5_splitOff wsX5_splitOff) := goodIn_app (goodIn_of _ (by decide +kernel)) ggX5_split_X5_splitOff
theorem dX5_split_0 : decode cX5_split 0 = .ok (.aload_n 0, 1) := by decide +kernel
theorem dX5_split_1 : decode cX5_split 1 = .ok (.iload_n 1, 1) := by decide +kernel
theorem dX5_split_2 : decode cX5_split 2 = .ok (.invokevirtual 114, 3) := by decide +kernel
theorem dX5_split_5 : decode cX5_split 5 = .ok (.astore_n 3, 1) := by decide +kernel
theorem dX5_split_6 : decode cX5_split 6 = .ok (.iload_n 2, 1) := by decide +kernel
theorem dX5_split_7 : decode cX5_split 7 = .ok (.iconst 1, 1) := by decide +kernel
theorem dX5_split_8 : decode cX5_split 8 = .ok (.ldc 74, 2) := by decide +kernel
theorem dX5_split_10 : decode cX5_split 10 = .ok (.invokestatic 50, 3) := by decide +kernel
theorem dX5_split_13 : decode cX5_split 13 = .ok (.aload_n 3, 1) := by decide +kernel
theorem dX5_split_14 : decode cX5_split 14 = .ok (.getfield 118, 3) := by decide +kernel
theorem dX5_split_17 : decode cX5_split 17 = .ok (.iload_n 2, 1) := by decide +kernel
theorem dX5_split_18 : decode cX5_split 18 = .ok (.if_icmp .le 17, 3) := by decide +kernel
theorem dX5_split_21 : decode cX5_split 21 = .ok (.aload_n 3, 1) := by decide +kernel
theorem dX5_split_22 : decode cX5_split 22 = .ok (.invokevirtual 123, 3) := by decide +kernel
theorem dX5_split_25 : decode cX5_split 25 = .ok (.ifCond .ne 10, 3) := by decide +kernel
theorem dX5_split_28 : decode cX5_split 28 = .ok (.aload_n 0, 1) := by decide +kernel
theorem dX5_split_29 : decode cX5_split 29 = .ok (.invokevirtual 87, 3) := by decide +kernel
theorem dX5_split_32 : decode cX5_split 32 = .ok (.ifCond .eq 13, 3) := by decide +kernel
theorem dX5_split_35 : decode cX5_split 35 = .ok (.new 58, 3) := by decide +kernel
theorem dX5_split_38 : decode cX5_split 38 = .ok (.dup, 1) := by decide +kernel
theorem dX5_split_39 : decode cX5_split 39 = .ok (.ldc 126, 2) := by decide +kernel
theorem dX5_split_41 : decode cX5_split 41 = .ok (.invokespecial 62, 3) := by decide +kernel
theorem dX5_split_44 : decode cX5_split 44 = .ok (.athrow, 1) := by decide +kernel
theorem dX5_split_45 : decode cX5_split 45 = .ok (.aload_n 0, 1) := by decide +kernel
theorem dX5_split_46 : decode cX5_split 46 = .ok (.aload_n 3, 1) := by decide +kernel
theorem dX5_split_47 : decode cX5_split 47 = .ok (.iload_n 2, 1) := by decide +kernel
theorem dX5_split_48 : decode cX5_split 48 = .ok (.invokevirtual 128, 3) := by decide +kernel
theorem dX5_split_51 : decode cX5_split 51 = .ok (.getfield 132, 3) := by decide +kernel
theorem dX5_split_54 : decode cX5_split 54 = .ok (.ireturn, 1) := by decide +kernel
set_option maxRecDepth 20000 in
theorem ggX5_sell_X5_findReceipt : GoodIn wsX5_sell wsX5_findReceipt := goodIn_ca (goodIn_r _ [6, 7, 8, 9, 10, 11, 12, 13, 14, 15, 16, 17, 18, 19, 20, 21, 22, 23, 24, 25, 26, 27, 28, 29, 30, 31, 32, 33, 88, 89, 90, 91, 92, 93, 94, 95, 96, 97, 98, 99, 100, 101] (by decide +kernel) (by decide +kernel)) (goodIn_sub (fun _ h => List.mem_cons_of_mem _ (List.mem_append_left _ (List.mem_append_left _ (List.mem_append_right _ h)))) (by decide +kernel))
set_option maxRecDepth 20000 in
theorem gX5_sell_X5_findReceipt : GoodIn wsX5_sell (wsV RX5 114 RX5 yX5_findReceipt wsX5_findReceipt) := goodIn_app (goodIn_of _ (by decide +kernel)) ggX5_sell_X5_findReceipt
set_option maxRecDepth 20000 in
theorem ggX5_sell_X5_needRange : GoodIn wsX5_sell wsX5_needRange := goodIn_ca (goodIn_r _ [36, 37, 38] (by decide +kernel) (by decide +kernel)) (goodIn_sub (fun _ h => List.mem_cons_of_mem _ (List.mem_append_left _ (List.mem_append_right _ h))) (by decide +kernel))
set_option maxRecDepth 20000 in
theorem gX5_sell_X5_needRange : GoodIn wsX5_sell (va_wsS RX5 50 yX5_needRange wsX5_needRange) := goodIn_app (goodIn_of _ (by decide +kernel)) ggX5_sell_X5_needRange
set_option maxRecDepth 20000 in
theorem ggX5_sell_X5_needFreeFor : GoodIn wsX5_sell wsX5_needFreeFor := goodIn_ca (goodIn_r _ [41, 42, 43, 44, 45, 46, 47, 48, 49, 50, 51, 52, 53, 54, 55, 56, 57, 58, 59, 60, 102, 103, 104, 105, 106, 107, 108, 109, 110, 111, 112, 113] (by decide +kernel) (by decide +kernel)) (goodIn_sub (fun _ h => List.mem_cons_of_mem _ (List.mem_append_right _ h)) (by decide +kernel))
set_option maxRecDepth 20000 in
theorem gX5_sell_X5_needFreeFor : GoodIn wsX5_sell (va_wsS RX5 136 yX5_needFreeFor wsX5_needFreeFor) := goodIn_app (goodIn_of _ (by decide +kernel)) ggX5_sell_X5_needFreeFor
set_option maxRecDepth 20000 in
theorem ggX5_sell_X2_holder : GoodIn wsX5_sell wsX2_holder := goodIn_r _ [58, 59, 60, 102, 103, 104, 105, 106, 107, 108, 109, 110, 111, 112, 113] (by decide +kernel) (by decide +kernel)
set_option maxRecDepth 20000 in
theorem gX5_sell_X2_holder : GoodIn wsX5_sell (wsV RX5 140 RX2 yX2_holder wsX2_holder) := goodIn_app (goodIn_of _ (by decide +kernel)) ggX5_sell_X2_holder
set_option maxRecDepth 20000 in
theorem ggX5_sell_X5_pay : GoodIn wsX5_sell wsX5_pay := goodIn_r _ [64, 65, 88, 89, 90, 91, 92, 93, 94, 95, 96, 97, 98] (by decide +kernel) (by decide +kernel)
set_option maxRecDepth 20000 in
theorem gX5_sell_X5_pay : GoodIn wsX5_sell (wsV RX5 143 RX5 yX5_pay wsX5_pay) := goodIn_app (goodIn_of _ (by decide +kernel)) ggX5_sell_X5_pay
set_option maxRecDepth 20000 in
theorem ggX5_sell_X5_changeHolder : GoodIn wsX5_sell wsX5_changeHolder := goodIn_r _ [69, 70, 71, 72, 73, 74, 75, 76, 77, 78, 79, 80, 81, 82, 83, 84, 85, 86, 87, 102, 103, 104, 105, 106, 107, 108, 109, 110, 111, 112, 113, 88, 89, 90, 91, 92, 93, 94, 95, 96, 97, 98] (by decide +kernel) (by decide +kernel)
set_option maxRecDepth 20000 in
theorem gX5_sell_X5_changeHolder : GoodIn wsX5_sell (wsV RX5 147 RX5 yX5_changeHolder wsX5_changeHolder) := goodIn_app (goodIn_of _ (by decide +kernel)) ggX5_sell_X5_changeHolder
theorem dX5_sell_0 : decode cX5_sell 0 = .ok (.aload_n 0, 1) := by decide +kernel
theorem dX5_sell_1 : decode cX5_sell 1 = .ok (.iload_n 1, 1) := by decide +kernel
theorem dX5_sell_2 : decode cX5_sell 2 = .ok (.invokevirtual 114, 3) := by decide +kernel
theorem dX5_sell_5 : decode cX5_sell 5 = .ok (.astore 4, 2) := by decide +kernel
theorem dX5_sell_7 : decode cX5_sell 7 = .ok (.iload_n 2, 1) := by decide +kernel
theorem dX5_sell_8 : decode cX5_sell 8 = .ok (.iconst 0, 1) := by decide +kernel
theorem dX5_sell_9 : decode cX5_sell 9 = .ok (.iconst 5, 1) := by decide +kernel
theorem dX5_sell_10 : decode cX5_sell 10 = .ok (.invokestatic 50, 3) := by decide +kernel
theorem dX5_sell_13 : decode cX5_sell 13 = .ok (.iload_n 3, 1) := by decide +kernel
theorem dX5_sell_14 : decode cX5_sell 14 = .ok (.iconst 0, 1) := by decide +kernel
theorem dX5_sell_15 : decode cX5_sell 15 = .ok (.ldc 135, 2) := by decide +kernel
theorem dX5_sell_17 : decode cX5_sell 17 = .ok (.invokestatic 50, 3) := by decide +kernel
theorem dX5_sell_20 : decode cX5_sell 20 = .ok (.aload 4, 2) := by decide +kernel
theorem dX5_sell_22 : decode cX5_sell 22 = .ok (.iload_n 2, 1) := by decide +kernel
theorem dX5_sell_23 : decode cX5_sell 23 = .ok (.invokestatic 136, 3) := by decide +kernel
theorem dX5_sell_26 : decode cX5_sell 26 = .ok (.aload 4, 2) := by decide +kernel
theorem dX5_sell_28 : decode cX5_sell 28 = .ok (.invokevirtual 140, 3) := by decide +kernel
theorem dX5_sell_31 : decode cX5_sell 31 = .ok (.istore 5, 2) := by decide +kernel
theorem dX5_sell_33 : decode cX5_sell 33 = .ok (.aload_n 0, 1) := by decide +kernel
theorem dX5_sell_34 : decode cX5_sell 34 = .ok (.iload_n 2, 1) := by decide +kernel
theorem dX5_sell_35 : decode cX5_sell 35 = .ok (.iload 5, 2) := by decide +kernel
theorem dX5_sell_37 : decode cX5_sell 37 = .ok (.iload_n 3, 1) := by decide +kernel
theorem dX5_sell_38 : decode cX5_sell 38 = .ok (.i2l, 1) := by decide +kernel
theorem dX5_sell_39 : decode cX5_sell 39 = .ok (.invokevirtual 143, 3) := by decide +kernel
theorem dX5_sell_42 : decode cX5_sell 42 = .ok (.aload_n 0, 1) := by decide +kernel
theorem dX5_sell_43 : decode cX5_sell 43 = .ok (.aload 4, 2) := by decide +kernel
theorem dX5_sell_45 : decode cX5_sell 45 = .ok (.iload_n 2, 1) := by decide +kernel
theorem dX5_sell_46 : decode cX5_sell 46 = .ok (.invokevirtual 147, 3) := by decide +kernel
theorem dX5_sell_49 : decode cX5_sell 49 = .ok (.iload 5, 2) := by decide +kernel
theorem dX5_sell_51 : decode cX5_sell 51 = .ok (.ireturn, 1) := by decide +kernel
set_option maxRecDepth 20000 in
theorem ggX5_pledge_X5_findReceipt : GoodIn wsX5_pledge wsX5_findReceipt := goodIn_ca (goodIn_r _ [10, 11, 12, 13, 14, 15, 16, 17, 18, 19, 20, 21, 22, 23, 24, 25, 26, 27, 28, 29, 30, 31, 32, 33, 34, 35, 36, 37, 79, 80, 81, 82, 83, 84, 85, 86, 87, 88, 89, 90, 91, 92] (by decide +kernel) (by decide +kernel)) (goodIn_sub (fun _ h => List.mem_cons_of_mem _ (List.mem_append_left _ (List.mem_append_left _ (List.mem_append_right _ h)))) (by decide +kernel))
set_option maxRecDepth 20000 in
theorem gX5_pledge_X5_findReceipt : GoodIn wsX5_pledge (wsV RX5 114 RX5 yX5_findReceipt wsX5_findReceipt) := goodIn_app (goodIn_of _ (by decide +kernel)) ggX5_pledge_X5_findReceipt
set_option maxRecDepth 20000 in
theorem ggX5_pledge_X5_needRange : GoodIn wsX5_pledge wsX5_needRange := goodIn_ca (goodIn_r _ [40, 41, 42] (by decide +kernel) (by decide +kernel)) (goodIn_sub (fun _ h => List.mem_cons_of_mem _ (List.mem_append_left _ (List.mem_append_right _ h))) (by decide +kernel))
set_option maxRecDepth 20000 in
theorem gX5_pledge_X5_needRange : GoodIn wsX5_pledge (va_wsS RX5 50 yX5_needRange wsX5_needRange) := goodIn_app (goodIn_of _ (by decide +kernel)) ggX5_pledge_X5_needRange
set_option maxRecDepth 20000 in
theorem ggX5_pledge_X5_needFreeFor : GoodIn wsX5_pledge wsX5_needFreeFor := goodIn_ca (goodIn_r _ [45, 46, 47, 48, 49, 50, 51, 52, 53, 54, 55, 56, 57, 58, 59, 60, 61, 62, 63, 64, 70, 71, 72, 73, 74, 75, 76, 77, 78, 93, 94, 95] (by decide +kernel) (by decide +kernel)) (goodIn_sub (fun _ h => List.mem_cons_of_mem _ (List.mem_append_right _ h)) (by decide +kernel))
set_option maxRecDepth 20000 in
theorem gX5_pledge_X5_needFreeFor : GoodIn wsX5_pledge (va_wsS RX5 136 yX5_needFreeFor wsX5_needFreeFor) := goodIn_app (goodIn_of _ (by decide +kernel)) ggX5_pledge_X5_needFreeFor
set_option maxRecDepth 20000 in
theorem ggX5_pledge_X2_holder : GoodIn wsX5_pledge wsX2_holder := goodIn_r _ [62, 63, 64, 70, 71, 72, 73, 74, 75, 76, 77, 78, 93, 94, 95] (by decide +kernel) (by decide +kernel)
set_option maxRecDepth 20000 in
theorem gX5_pledge_X2_holder : GoodIn wsX5_pledge (wsV RX5 140 RX2 yX2_holder wsX2_holder) := goodIn_app (goodIn_of _ (by decide +kernel)) ggX5_pledge_X2_holder
set_option maxRecDepth 20000 in
theorem ggX5_pledge_X5_pay : GoodIn wsX5_pledge wsX5_pay := goodIn_r _ [68, 69, 79, 80, 81, 82, 83, 84, 85, 86, 87, 88, 89] (by decide +kernel) (by decide +kernel)
set_option maxRecDepth 20000 in
theorem gX5_pledge_X5_pay : GoodIn wsX5_pledge (wsV RX5 143 RX5 yX5_pay wsX5_pay) := goodIn_app (goodIn_of _ (by decide +kernel)) ggX5_pledge_X5_pay
theorem dX5_pledge_0 : decode cX5_pledge 0 = .ok (.aload_n 0, 1) := by decide +kernel
theorem dX5_pledge_1 : decode cX5_pledge 1 = .ok (.iload_n 1, 1) := by decide +kernel
theorem dX5_pledge_2 : decode cX5_pledge 2 = .ok (.invokevirtual 114, 3) := by decide +kernel
theorem dX5_pledge_5 : decode cX5_pledge 5 = .ok (.astore 5, 2) := by decide +kernel
theorem dX5_pledge_7 : decode cX5_pledge 7 = .ok (.iload_n 2, 1) := by decide +kernel
theorem dX5_pledge_8 : decode cX5_pledge 8 = .ok (.iconst 0, 1) := by decide +kernel
theorem dX5_pledge_9 : decode cX5_pledge 9 = .ok (.iconst 5, 1) := by decide +kernel
theorem dX5_pledge_10 : decode cX5_pledge 10 = .ok (.invokestatic 50, 3) := by decide +kernel
theorem dX5_pledge_13 : decode cX5_pledge 13 = .ok (.iload_n 3, 1) := by decide +kernel
theorem dX5_pledge_14 : decode cX5_pledge 14 = .ok (.iconst 0, 1) := by decide +kernel
theorem dX5_pledge_15 : decode cX5_pledge 15 = .ok (.ldc 135, 2) := by decide +kernel
theorem dX5_pledge_17 : decode cX5_pledge 17 = .ok (.invokestatic 50, 3) := by decide +kernel
theorem dX5_pledge_20 : decode cX5_pledge 20 = .ok (.iload 4, 2) := by decide +kernel
theorem dX5_pledge_22 : decode cX5_pledge 22 = .ok (.iconst 0, 1) := by decide +kernel
theorem dX5_pledge_23 : decode cX5_pledge 23 = .ok (.bipush 100, 2) := by decide +kernel
theorem dX5_pledge_25 : decode cX5_pledge 25 = .ok (.invokestatic 50, 3) := by decide +kernel
theorem dX5_pledge_28 : decode cX5_pledge 28 = .ok (.aload 5, 2) := by decide +kernel
theorem dX5_pledge_30 : decode cX5_pledge 30 = .ok (.iload_n 2, 1) := by decide +kernel
theorem dX5_pledge_31 : decode cX5_pledge 31 = .ok (.invokestatic 136, 3) := by decide +kernel
theorem dX5_pledge_34 : decode cX5_pledge 34 = .ok (.aload_n 0, 1) := by decide +kernel
theorem dX5_pledge_35 : decode cX5_pledge 35 = .ok (.iload_n 2, 1) := by decide +kernel
theorem dX5_pledge_36 : decode cX5_pledge 36 = .ok (.aload 5, 2) := by decide +kernel
theorem dX5_pledge_38 : decode cX5_pledge 38 = .ok (.invokevirtual 140, 3) := by decide +kernel
theorem dX5_pledge_41 : decode cX5_pledge 41 = .ok (.iload_n 3, 1) := by decide +kernel
theorem dX5_pledge_42 : decode cX5_pledge 42 = .ok (.i2l, 1) := by decide +kernel
theorem dX5_pledge_43 : decode cX5_pledge 43 = .ok (.invokevirtual 143, 3) := by decide +kernel
theorem dX5_pledge_46 : decode cX5_pledge 46 = .ok (.aload 5, 2) := by decide +kernel
theorem dX5_pledge_48 : decode cX5_pledge 48 = .ok (.iload_n 2, 1) := by decide +kernel
theorem dX5_pledge_49 : decode cX5_pledge 49 = .ok (.putfield 150, 3) := by decide +kernel
theorem dX5_pledge_52 : decode cX5_pledge 52 = .ok (.aload 5, 2) := by decide +kernel
theorem dX5_pledge_54 : decode cX5_pledge 54 = .ok (.iload_n 3, 1) := by decide +kernel
theorem dX5_pledge_55 : decode cX5_pledge 55 = .ok (.putfield 153, 3) := by decide +kernel
theorem dX5_pledge_58 : decode cX5_pledge 58 = .ok (.aload 5, 2) := by decide +kernel
theorem dX5_pledge_60 : decode cX5_pledge 60 = .ok (.aload_n 0, 1) := by decide +kernel
theorem dX5_pledge_61 : decode cX5_pledge 61 = .ok (.getfield 43, 3) := by decide +kernel
theorem dX5_pledge_64 : decode cX5_pledge 64 = .ok (.iload 4, 2) := by decide +kernel
theorem dX5_pledge_66 : decode cX5_pledge 66 = .ok (.iadd, 1) := by decide +kernel
theorem dX5_pledge_67 : decode cX5_pledge 67 = .ok (.putfield 156, 3) := by decide +kernel
theorem dX5_pledge_70 : decode cX5_pledge 70 = .ok (.aload 5, 2) := by decide +kernel
theorem dX5_pledge_72 : decode cX5_pledge 72 = .ok (.getfield 156, 3) := by decide +kernel
theorem dX5_pledge_75 : decode cX5_pledge 75 = .ok (.ireturn, 1) := by decide +kernel
set_option maxRecDepth 20000 in
theorem ggX5_redeem_X5_findReceipt : GoodIn wsX5_redeem wsX5_findReceipt := goodIn_ca (goodIn_r _ [9, 10, 11, 12, 13, 14, 15, 16, 17, 18, 19, 20, 21, 22, 23, 24, 25, 26, 27, 28, 29, 30, 31, 32, 33, 34, 35, 36, 69, 70, 71, 72, 73, 74, 75, 76, 77, 78, 79, 80, 81, 82] (by decide +kernel) (by decide +kernel)) (goodIn_sub (fun _ h => List.mem_cons_of_mem _ (List.mem_append_right _ h)) (by decide +kernel))
set_option maxRecDepth 20000 in
theorem gX5_redeem_X5_findReceipt : GoodIn wsX5_redeem (wsV RX5 114 RX5 yX5_findReceipt wsX5_findReceipt) := goodIn_app (goodIn_of _ (by decide +kernel)) ggX5_redeem_X5_findReceipt
set_option maxRecDepth 20000 in
theorem ggX5_redeem_X2_isPledged : GoodIn wsX5_redeem wsX2_isPledged := goodIn_r _ [41, 42, 60, 61, 62, 63, 64, 65, 66, 67, 68] (by decide +kernel) (by decide +kernel)
set_option maxRecDepth 20000 in
theorem gX5_redeem_X2_isPledged : GoodIn wsX5_redeem (wsV RX5 123 RX2 yX2_isPledged wsX2_isPledged) := goodIn_app (goodIn_of _ (by decide +kernel)) ggX5_redeem_X2_isPledged
set_option maxRecDepth 20000 in
theorem ggX5_redeem_X2_holder : GoodIn wsX5_redeem wsX2_holder := goodIn_r _ [46, 47, 48, 60, 61, 62, 63, 64, 65, 66, 67, 68, 83, 84, 85] (by decide +kernel) (by decide +kernel)
set_option maxRecDepth 20000 in
theorem gX5_redeem_X2_holder : GoodIn wsX5_redeem (wsV RX5 140 RX2 yX2_holder wsX2_holder) := goodIn_app (goodIn_of _ (by decide +kernel)) ggX5_redeem_X2_holder
set_option maxRecDepth 20000 in
theorem ggX5_redeem_X5_pay : GoodIn wsX5_redeem wsX5_pay := goodIn_r _ [52, 53, 69, 70, 71, 72, 73, 74, 75, 76, 77, 78, 79] (by decide +kernel) (by decide +kernel)
set_option maxRecDepth 20000 in
theorem gX5_redeem_X5_pay : GoodIn wsX5_redeem (wsV RX5 143 RX5 yX5_pay wsX5_pay) := goodIn_app (goodIn_of _ (by decide +kernel)) ggX5_redeem_X5_pay
set_option maxRecDepth 20000 in
theorem ggX5_redeem_X2_endPledge : GoodIn wsX5_redeem wsX2_endPledge := goodIn_r _ [57, 42, 58, 59, 60, 61, 62, 63, 64, 65, 66, 67, 68] (by decide +kernel) (by decide +kernel)
set_option maxRecDepth 20000 in
theorem gX5_redeem_X2_endPledge : GoodIn wsX5_redeem (wsV RX5 161 RX2 yX2_endPledge wsX2_endPledge) := goodIn_app (goodIn_of _ (by decide +kernel)) ggX5_redeem_X2_endPledge
theorem dX5_redeem_0 : decode cX5_redeem 0 = .ok (.aload_n 0, 1) := by decide +kernel
theorem dX5_redeem_1 : decode cX5_redeem 1 = .ok (.iload_n 1, 1) := by decide +kernel
theorem dX5_redeem_2 : decode cX5_redeem 2 = .ok (.invokevirtual 114, 3) := by decide +kernel
theorem dX5_redeem_5 : decode cX5_redeem 5 = .ok (.astore_n 2, 1) := by decide +kernel
theorem dX5_redeem_6 : decode cX5_redeem 6 = .ok (.aload_n 2, 1) := by decide +kernel
theorem dX5_redeem_7 : decode cX5_redeem 7 = .ok (.invokevirtual 123, 3) := by decide +kernel
theorem dX5_redeem_10 : decode cX5_redeem 10 = .ok (.ifCond .ne 13, 3) := by decide +kernel
theorem dX5_redeem_13 : decode cX5_redeem 13 = .ok (.new 58, 3) := by decide +kernel
theorem dX5_redeem_16 : decode cX5_redeem 16 = .ok (.dup, 1) := by decide +kernel
theorem dX5_redeem_17 : decode cX5_redeem 17 = .ok (.ldc 159, 2) := by decide +kernel
theorem dX5_redeem_19 : decode cX5_redeem 19 = .ok (.invokespecial 62, 3) := by decide +kernel
theorem dX5_redeem_22 : decode cX5_redeem 22 = .ok (.athrow, 1) := by decide +kernel
theorem dX5_redeem_23 : decode cX5_redeem 23 = .ok (.aload_n 2, 1) := by decide +kernel
theorem dX5_redeem_24 : decode cX5_redeem 24 = .ok (.getfield 153, 3) := by decide +kernel
theorem dX5_redeem_27 : decode cX5_redeem 27 = .ok (.istore_n 3, 1) := by decide +kernel
theorem dX5_redeem_28 : decode cX5_redeem 28 = .ok (.aload_n 0, 1) := by decide +kernel
theorem dX5_redeem_29 : decode cX5_redeem 29 = .ok (.aload_n 2, 1) := by decide +kernel
theorem dX5_redeem_30 : decode cX5_redeem 30 = .ok (.invokevirtual 140, 3) := by decide +kernel
theorem dX5_redeem_33 : decode cX5_redeem 33 = .ok (.aload_n 2, 1) := by decide +kernel
theorem dX5_redeem_34 : decode cX5_redeem 34 = .ok (.getfield 150, 3) := by decide +kernel
theorem dX5_redeem_37 : decode cX5_redeem 37 = .ok (.iload_n 3, 1) := by decide +kernel
theorem dX5_redeem_38 : decode cX5_redeem 38 = .ok (.i2l, 1) := by decide +kernel
theorem dX5_redeem_39 : decode cX5_redeem 39 = .ok (.invokevirtual 143, 3) := by decide +kernel
theorem dX5_redeem_42 : decode cX5_redeem 42 = .ok (.aload_n 2, 1) := by decide +kernel
theorem dX5_redeem_43 : decode cX5_redeem 43 = .ok (.invokevirtual 161, 3) := by decide +kernel
theorem dX5_redeem_46 : decode cX5_redeem 46 = .ok (.iload_n 3, 1) := by decide +kernel
theorem dX5_redeem_47 : decode cX5_redeem 47 = .ok (.ireturn, 1) := by decide +kernel
set_option maxRecDepth 20000 in
theorem ggX5_takeOut_X5_findReceipt : GoodIn wsX5_takeOut wsX5_findReceipt := goodIn_ca (goodIn_r _ [8, 9, 10, 11, 12, 13, 14, 15, 16, 17, 18, 19, 20, 21, 22, 23, 24, 25, 26, 27, 28, 29, 30, 31, 32, 33, 34, 35, 69, 70, 71, 72, 73, 74, 75, 76, 77, 78, 79, 80, 81, 82] (by decide +kernel) (by decide +kernel)) (goodIn_sub (fun _ h => List.mem_cons_of_mem _ (List.mem_append_right _ h)) (by decide +kernel))
set_option maxRecDepth 20000 in
theorem gX5_takeOut_X5_findReceipt : GoodIn wsX5_takeOut (wsV RX5 114 RX5 yX5_findReceipt wsX5_findReceipt) := goodIn_app (goodIn_of _ (by decide +kernel)) ggX5_takeOut_X5_findReceipt
set_option maxRecDepth 20000 in
theorem ggX5_takeOut_X2_isLive : GoodIn wsX5_takeOut wsX2_isLive := goodIn_r _ [40, 41, 60, 61, 62, 63, 64, 65, 66, 67, 68] (by decide +kernel) (by decide +kernel)
set_option maxRecDepth 20000 in
theorem gX5_takeOut_X2_isLive : GoodIn wsX5_takeOut (wsV RX5 164 RX2 yX2_isLive wsX2_isLive) := goodIn_app (goodIn_of _ (by decide +kernel)) ggX5_takeOut_X2_isLive
set_option maxRecDepth 20000 in
theorem ggX5_takeOut_X2_isPledged : GoodIn wsX5_takeOut wsX2_isPledged := goodIn_r _ [45, 46, 60, 61, 62, 63, 64, 65, 66, 67, 68] (by decide +kernel) (by decide +kernel)
set_option maxRecDepth 20000 in
theorem gX5_takeOut_X2_isPledged : GoodIn wsX5_takeOut (wsV RX5 123 RX2 yX2_isPledged wsX2_isPledged) := goodIn_app (goodIn_of _ (by decide +kernel)) ggX5_takeOut_X2_isPledged
set_option maxRecDepth 20000 in
theorem ggX5_takeOut_X5_takeFrom : GoodIn wsX5_takeOut wsX5_takeFrom := goodIn_r _ [50, 3, 51, 52, 53, 36, 37, 38, 39, 40, 41, 54, 55, 56, 57, 46, 58, 59, 60, 61, 62, 63, 64, 65, 66, 67, 68, 83, 84, 85, 86, 87, 88, 89, 90, 91, 92, 93, 94, 95] (by decide +kernel) (by decide +kernel)
set_option maxRecDepth 20000 in
theorem gX5_takeOut_X5_takeFrom : GoodIn wsX5_takeOut (wsV RX5 169 RX5 yX5_takeFrom wsX5_takeFrom) := goodIn_app (goodIn_of _ (by decide +kernel)) ggX5_takeOut_X5_takeFrom
theorem dX5_takeOut_0 : decode cX5_takeOut 0 = .ok (.aload_n 0, 1) := by decide +kernel
theorem dX5_takeOut_1 : decode cX5_takeOut 1 = .ok (.iload_n 1, 1) := by decide +kernel
theorem dX5_takeOut_2 : decode cX5_takeOut 2 = .ok (.invokevirtual 114, 3) := by decide +kernel
theorem dX5_takeOut_5 : decode cX5_takeOut 5 = .ok (.astore_n 2, 1) := by decide +kernel
theorem dX5_takeOut_6 : decode cX5_takeOut 6 = .ok (.aload_n 2, 1) := by decide +kernel
theorem dX5_takeOut_7 : decode cX5_takeOut 7 = .ok (.invokevirtual 164, 3) := by decide +kernel
theorem dX5_takeOut_10 : decode cX5_takeOut 10 = .ok (.ifCond .eq 10, 3) := by decide +kernel
theorem dX5_takeOut_13 : decode cX5_takeOut 13 = .ok (.aload_n 2, 1) := by decide +kernel
theorem dX5_takeOut_14 : decode cX5_takeOut 14 = .ok (.invokevirtual 123, 3) := by decide +kernel
theorem dX5_takeOut_17 : decode cX5_takeOut 17 = .ok (.ifCond .eq 13, 3) := by decide +kernel
theorem dX5_takeOut_20 : decode cX5_takeOut 20 = .ok (.new 58, 3) := by decide +kernel
theorem dX5_takeOut_23 : decode cX5_takeOut 23 = .ok (.dup, 1) := by decide +kernel
theorem dX5_takeOut_24 : decode cX5_takeOut 24 = .ok (.ldc 167, 2) := by decide +kernel
theorem dX5_takeOut_26 : decode cX5_takeOut 26 = .ok (.invokespecial 62, 3) := by decide +kernel
theorem dX5_takeOut_29 : decode cX5_takeOut 29 = .ok (.athrow, 1) := by decide +kernel
theorem dX5_takeOut_30 : decode cX5_takeOut 30 = .ok (.aload_n 2, 1) := by decide +kernel
theorem dX5_takeOut_31 : decode cX5_takeOut 31 = .ok (.getfield 118, 3) := by decide +kernel
theorem dX5_takeOut_34 : decode cX5_takeOut 34 = .ok (.istore_n 3, 1) := by decide +kernel
theorem dX5_takeOut_35 : decode cX5_takeOut 35 = .ok (.aload_n 0, 1) := by decide +kernel
theorem dX5_takeOut_36 : decode cX5_takeOut 36 = .ok (.aload_n 2, 1) := by decide +kernel
theorem dX5_takeOut_37 : decode cX5_takeOut 37 = .ok (.iload_n 3, 1) := by decide +kernel
theorem dX5_takeOut_38 : decode cX5_takeOut 38 = .ok (.invokevirtual 169, 3) := by decide +kernel
theorem dX5_takeOut_41 : decode cX5_takeOut 41 = .ok (.iload_n 3, 1) := by decide +kernel
theorem dX5_takeOut_42 : decode cX5_takeOut 42 = .ok (.ireturn, 1) := by decide +kernel
set_option maxRecDepth 20000 in
theorem ggX5_reweigh_X5_findDelivery : GoodIn wsX5_reweigh wsX5_findDelivery := goodIn_ca (goodIn_r _ [13, 14, 15, 16, 17, 18, 19, 20, 21, 22, 23, 24, 25, 26, 27, 28, 29, 30, 31, 32, 33, 34, 35, 36, 37, 38, 39, 40, 209, 210, 211, 212, 213, 214, 215, 216, 217, 218, 219, 220, 221, 222] (by decide +kernel) (by decide +kernel)) (goodIn_sub (fun _ h => List.mem_cons_of_mem _ (List.mem_append_left _ (List.mem_append_right _ h))) (by decide +kernel))
set_option maxRecDepth 20000 in
theorem gX5_reweigh_X5_findDelivery : GoodIn wsX5_reweigh (wsV RX5 172 RX5 yX5_findDelivery wsX5_findDelivery) := goodIn_app (goodIn_of _ (by decide +kernel)) ggX5_reweigh_X5_findDelivery
set_option maxRecDepth 20000 in
theorem ggX5_reweigh_X5_needRange : GoodIn wsX5_reweigh wsX5_needRange := goodIn_ca (goodIn_r _ [43, 44, 45] (by decide +kernel) (by decide +kernel)) (goodIn_sub (fun _ h => List.mem_cons_of_mem _ (List.mem_append_right _ h)) (by decide +kernel))
set_option maxRecDepth 20000 in
theorem gX5_reweigh_X5_needRange : GoodIn wsX5_reweigh (va_wsS RX5 50 yX5_needRange wsX5_needRange) := goodIn_app (goodIn_of _ (by decide +kernel)) ggX5_reweigh_X5_needRange
set_option maxRecDepth 20000 in
theorem ggX5_reweigh_X5_dryWeight : GoodIn wsX5_reweigh wsX5_dryWeight := goodIn_r _ [48] (by decide +kernel) (by decide +kernel)
set_option maxRecDepth 20000 in
theorem gX5_reweigh_X5_dryWeight : GoodIn wsX5_reweigh (va_wsS RX5 79 yX5_dryWeight wsX5_dryWeight) := goodIn_app (goodIn_of _ (by decide +kernel)) ggX5_reweigh_X5_dryWeight
set_option maxRecDepth 20000 in
theorem ggX5_reweigh_X3_isOf : GoodIn wsX5_reweigh wsX3_isOf := goodIn_r _ [53, 54, 55, 56, 223, 224, 225, 226, 227, 228] (by decide +kernel) (by decide +kernel)
set_option maxRecDepth 20000 in
theorem gX5_reweigh_X3_isOf : GoodIn wsX5_reweigh (wsV RX5 182 RX3 yX3_isOf wsX3_isOf) := goodIn_app (goodIn_of _ (by decide +kernel)) ggX5_reweigh_X3_isOf
set_option maxRecDepth 20000 in
theorem ggX5_reweigh_X5_receiptsAreFull : GoodIn wsX5_reweigh wsX5_receiptsAreFull := goodIn_r _ [60, 61, 18, 19, 20, 21, 22, 23, 209, 210, 211, 212, 213, 214, 215, 216, 217, 218, 219, 220, 221, 222] (by decide +kernel) (by decide +kernel)
set_option maxRecDepth 20000 in
theorem gX5_reweigh_X5_receiptsAreFull : GoodIn wsX5_reweigh (wsV RX5 87 RX5 yX5_receiptsAreFull wsX5_receiptsAreFull) := goodIn_app (goodIn_of _ (by decide +kernel)) ggX5_reweigh_X5_receiptsAreFull
set_option maxRecDepth 20000 in
theorem ggX5_reweigh_X5_owe : GoodIn wsX5_reweigh wsX5_owe := goodIn_r _ [65, 66, 209, 210, 211, 212, 213, 214, 215, 216, 217, 218, 219] (by decide +kernel) (by decide +kernel)
set_option maxRecDepth 20000 in
theorem gX5_reweigh_X5_owe : GoodIn wsX5_reweigh (wsV RX5 190 RX5 yX5_owe wsX5_owe) := goodIn_app (goodIn_of _ (by decide +kernel)) ggX5_reweigh_X5_owe
set_option maxRecDepth 20000 in
theorem ggX5_reweigh_X5_putIn : GoodIn wsX5_reweigh wsX5_putIn := goodIn_r _ [70, 5, 71, 8, 72, 73, 74, 75, 12, 76, 77, 78, 79, 61, 80, 81, 82, 83, 84, 18, 19, 20, 21, 22, 23, 85, 86, 87, 88, 89, 90, 91, 92, 93, 94, 95, 96, 97, 98, 99, 100, 101, 102, 103, 104, 105, 106, 107, 108, 109, 110, 40, 111, 112, 113, 114, 115, 116, 117, 118, 119, 120, 121, 122, 123, 124, 125, 126, 127, 128, 129, 130, 131, 132, 133, 134, 135, 136, 137, 138, 139, 140, 141, 142, 143, 144, 145, 146, 147, 148, 149, 150, 151, 152, 153, 154, 155, 156, 157, 202, 203, 204, 205, 206, 207, 208, 223, 224, 225, 226, 227, 228, 229, 230, 231, 232, 233, 234, 235, 236, 237, 209, 210, 211, 212, 213, 214, 215, 216, 217, 218, 219, 238, 239, 240, 220, 221, 222] (by decide +kernel) (by decide +kernel)
set_option maxRecDepth 20000 in
theorem gX5_reweigh_X5_putIn : GoodIn wsX5_reweigh (wsV RX5 110 RX5 yX5_putIn wsX5_putIn) := goodIn_app (goodIn_of _ (by decide +kernel)) ggX5_reweigh_X5_putIn
set_option maxRecDepth 20000 in
theorem ggX5_reweigh_X5_takeBack : GoodIn wsX5_reweigh wsX5_takeBack := goodIn_r _ [161, 61, 162, 163, 8, 5, 18, 19, 20, 21, 22, 23, 24, 25, 26, 27, 28, 29, 30, 31, 32, 33, 34, 35, 36, 37, 38, 39, 40, 164, 165, 166, 12, 167, 84, 168, 152, 126, 153, 169, 170, 171, 79, 172, 100, 173, 174, 175, 176, 177, 178, 179, 180, 181, 182, 183, 184, 185, 186, 187, 188, 189, 190, 191, 192, 71, 193, 194, 195, 196, 197, 198, 199, 200, 201, 101, 102, 103, 62, 63, 64, 65, 66, 209, 210, 211, 212, 213, 214, 215, 216, 217, 218, 219, 229, 230, 231, 232, 233, 234, 235, 236, 237, 202, 203, 204, 205, 206, 207, 208, 220, 221, 222, 238, 239, 240, 241, 242, 243, 244, 245, 246, 247, 248, 249, 250, 251, 223, 224, 225, 226, 227, 228] (by decide +kernel) (by decide +kernel)
set_option maxRecDepth 20000 in
theorem gX5_reweigh_X5_takeBack : GoodIn wsX5_reweigh (wsV RX5 193 RX5 yX5_takeBack wsX5_takeBack) := goodIn_app (goodIn_of _ (by decide +kernel)) ggX5_reweigh_X5_takeBack
theorem dX5_reweigh_0 : decode cX5_reweigh 0 = .ok (.aload_n 0, 1) := by decide +kernel
theorem dX5_reweigh_1 : decode cX5_reweigh 1 = .ok (.iload_n 1, 1) := by decide +kernel
theorem dX5_reweigh_2 : decode cX5_reweigh 2 = .ok (.invokevirtual 172, 3) := by decide +kernel
theorem dX5_reweigh_5 : decode cX5_reweigh 5 = .ok (.astore_n 3, 1) := by decide +kernel
theorem dX5_reweigh_6 : decode cX5_reweigh 6 = .ok (.iload_n 2, 1) := by decide +kernel
theorem dX5_reweigh_7 : decode cX5_reweigh 7 = .ok (.bipush 50, 2) := by decide +kernel
theorem dX5_reweigh_9 : decode cX5_reweigh 9 = .ok (.sipush 300, 3) := by decide +kernel
theorem dX5_reweigh_12 : decode cX5_reweigh 12 = .ok (.invokestatic 50, 3) := by decide +kernel
theorem dX5_reweigh_15 : decode cX5_reweigh 15 = .ok (.aload_n 3, 1) := by decide +kernel
theorem dX5_reweigh_16 : decode cX5_reweigh 16 = .ok (.getfield 98, 3) := by decide +kernel
theorem dX5_reweigh_19 : decode cX5_reweigh 19 = .ok (.iload_n 2, 1) := by decide +kernel
theorem dX5_reweigh_20 : decode cX5_reweigh 20 = .ok (.invokestatic 79, 3) := by decide +kernel
theorem dX5_reweigh_23 : decode cX5_reweigh 23 = .ok (.aload_n 3, 1) := by decide +kernel
theorem dX5_reweigh_24 : decode cX5_reweigh 24 = .ok (.getfield 101, 3) := by decide +kernel
theorem dX5_reweigh_27 : decode cX5_reweigh 27 = .ok (.isub, 1) := by decide +kernel
theorem dX5_reweigh_28 : decode cX5_reweigh 28 = .ok (.istore 4, 2) := by decide +kernel
theorem dX5_reweigh_30 : decode cX5_reweigh 30 = .ok (.aload_n 3, 1) := by decide +kernel
theorem dX5_reweigh_31 : decode cX5_reweigh 31 = .ok (.getfield 176, 3) := by decide +kernel
theorem dX5_reweigh_34 : decode cX5_reweigh 34 = .ok (.aload_n 3, 1) := by decide +kernel
theorem dX5_reweigh_35 : decode cX5_reweigh 35 = .ok (.getfield 180, 3) := by decide +kernel
theorem dX5_reweigh_38 : decode cX5_reweigh 38 = .ok (.aload_n 3, 1) := by decide +kernel
theorem dX5_reweigh_39 : decode cX5_reweigh 39 = .ok (.getfield 181, 3) := by decide +kernel
theorem dX5_reweigh_42 : decode cX5_reweigh 42 = .ok (.invokevirtual 182, 3) := by decide +kernel
theorem dX5_reweigh_45 : decode cX5_reweigh 45 = .ok (.istore 5, 2) := by decide +kernel
theorem dX5_reweigh_47 : decode cX5_reweigh 47 = .ok (.iload 4, 2) := by decide +kernel
theorem dX5_reweigh_49 : decode cX5_reweigh 49 = .ok (.ifCond .le 25, 3) := by decide +kernel
theorem dX5_reweigh_52 : decode cX5_reweigh 52 = .ok (.iload 5, 2) := by decide +kernel
theorem dX5_reweigh_54 : decode cX5_reweigh 54 = .ok (.ifCond .eq 20, 3) := by decide +kernel
theorem dX5_reweigh_57 : decode cX5_reweigh 57 = .ok (.aload_n 0, 1) := by decide +kernel
theorem dX5_reweigh_58 : decode cX5_reweigh 58 = .ok (.invokevirtual 87, 3) := by decide +kernel
theorem dX5_reweigh_61 : decode cX5_reweigh 61 = .ok (.ifCond .eq 13, 3) := by decide +kernel
theorem dX5_reweigh_64 : decode cX5_reweigh 64 = .ok (.new 58, 3) := by decide +kernel
theorem dX5_reweigh_67 : decode cX5_reweigh 67 = .ok (.dup, 1) := by decide +kernel
theorem dX5_reweigh_68 : decode cX5_reweigh 68 = .ok (.ldc 186, 2) := by decide +kernel
theorem dX5_reweigh_70 : decode cX5_reweigh 70 = .ok (.invokespecial 62, 3) := by decide +kernel
theorem dX5_reweigh_73 : decode cX5_reweigh 73 = .ok (.athrow, 1) := by decide +kernel
theorem dX5_reweigh_74 : decode cX5_reweigh 74 = .ok (.aload_n 3, 1) := by decide +kernel
theorem dX5_reweigh_75 : decode cX5_reweigh 75 = .ok (.dup, 1) := by decide +kernel
theorem dX5_reweigh_76 : decode cX5_reweigh 76 = .ok (.getfield 101, 3) := by decide +kernel
theorem dX5_reweigh_79 : decode cX5_reweigh 79 = .ok (.iload 4, 2) := by decide +kernel
theorem dX5_reweigh_81 : decode cX5_reweigh 81 = .ok (.iadd, 1) := by decide +kernel
theorem dX5_reweigh_82 : decode cX5_reweigh 82 = .ok (.putfield 101, 3) := by decide +kernel
theorem dX5_reweigh_85 : decode cX5_reweigh 85 = .ok (.iload 5, 2) := by decide +kernel
theorem dX5_reweigh_87 : decode cX5_reweigh 87 = .ok (.ifCond .ne 17, 3) := by decide +kernel
theorem dX5_reweigh_90 : decode cX5_reweigh 90 = .ok (.aload_n 0, 1) := by decide +kernel
theorem dX5_reweigh_91 : decode cX5_reweigh 91 = .ok (.aload_n 3, 1) := by decide +kernel
theorem dX5_reweigh_92 : decode cX5_reweigh 92 = .ok (.getfield 188, 3) := by decide +kernel
theorem dX5_reweigh_95 : decode cX5_reweigh 95 = .ok (.iload 4, 2) := by decide +kernel
theorem dX5_reweigh_97 : decode cX5_reweigh 97 = .ok (.ineg, 1) := by decide +kernel
theorem dX5_reweigh_98 : decode cX5_reweigh 98 = .ok (.invokevirtual 190, 3) := by decide +kernel
theorem dX5_reweigh_101 : decode cX5_reweigh 101 = .ok (.goto 32, 3) := by decide +kernel
theorem dX5_reweigh_104 : decode cX5_reweigh 104 = .ok (.iload 4, 2) := by decide +kernel
theorem dX5_reweigh_106 : decode cX5_reweigh 106 = .ok (.ifCond .le 14, 3) := by decide +kernel
theorem dX5_reweigh_109 : decode cX5_reweigh 109 = .ok (.aload_n 0, 1) := by decide +kernel
theorem dX5_reweigh_110 : decode cX5_reweigh 110 = .ok (.aload_n 3, 1) := by decide +kernel
theorem dX5_reweigh_111 : decode cX5_reweigh 111 = .ok (.iload 4, 2) := by decide +kernel
theorem dX5_reweigh_113 : decode cX5_reweigh 113 = .ok (.invokevirtual 110, 3) := by decide +kernel
theorem dX5_reweigh_116 : decode cX5_reweigh 116 = .ok (.pop, 1) := by decide +kernel
theorem dX5_reweigh_117 : decode cX5_reweigh 117 = .ok (.goto 16, 3) := by decide +kernel
theorem dX5_reweigh_120 : decode cX5_reweigh 120 = .ok (.iload 4, 2) := by decide +kernel
theorem dX5_reweigh_122 : decode cX5_reweigh 122 = .ok (.ifCond .ge 11, 3) := by decide +kernel
theorem dX5_reweigh_125 : decode cX5_reweigh 125 = .ok (.aload_n 0, 1) := by decide +kernel
theorem dX5_reweigh_126 : decode cX5_reweigh 126 = .ok (.aload_n 3, 1) := by decide +kernel
theorem dX5_reweigh_127 : decode cX5_reweigh 127 = .ok (.iload 4, 2) := by decide +kernel
theorem dX5_reweigh_129 : decode cX5_reweigh 129 = .ok (.ineg, 1) := by decide +kernel
theorem dX5_reweigh_130 : decode cX5_reweigh 130 = .ok (.invokevirtual 193, 3) := by decide +kernel
theorem dX5_reweigh_133 : decode cX5_reweigh 133 = .ok (.iload 4, 2) := by decide +kernel
theorem dX5_reweigh_135 : decode cX5_reweigh 135 = .ok (.ireturn, 1) := by decide +kernel
set_option maxRecDepth 20000 in
theorem ggX5_contract_X5_needRange : GoodIn wsX5_contract wsX5_needRange := goodIn_ca (goodIn_r _ [17, 1, 2] (by decide +kernel) (by decide +kernel)) (goodIn_sub (fun _ h => List.mem_cons_of_mem _ (List.mem_append_left _ (List.mem_append_right _ h))) (by decide +kernel))
set_option maxRecDepth 20000 in
theorem gX5_contract_X5_needRange : GoodIn wsX5_contract (va_wsS RX5 50 yX5_needRange wsX5_needRange) := goodIn_app (goodIn_of _ (by decide +kernel)) ggX5_contract_X5_needRange
set_option maxRecDepth 20000 in
theorem ggX5_contract_Jx4a65c_size_8abf5 : GoodIn wsX5_contract wsJx4a65c_size_8abf5 := goodIn_r _ [22, 23, 111, 112, 113] (by decide +kernel) (by decide +kernel)
set_option maxRecDepth 20000 in
theorem gX5_contract_Jx4a65c_size_8abf5 : GoodIn wsX5_contract (wsV RX5 54 RJx4a65c yJx4a65c_size_8abf5 wsJx4a65c_size_8abf5) := goodIn_app (goodIn_of _ (by decide +kernel)) ggX5_contract_Jx4a65c_size_8abf5
set_option maxRecDepth 20000 in
theorem ggX5_contract_X0_init : GoodIn wsX5_contract wsX0_init := goodIn_r _ [26, 27, 28, 29, 30, 31, 32, 33, 34, 100, 101, 102, 103, 104, 105, 106, 107, 108, 109, 110] (by decide +kernel) (by decide +kernel)
set_option maxRecDepth 20000 in
theorem gX5_contract_X0_init : GoodIn wsX5_contract (wsX0_init) := ggX5_contract_X0_init
set_option maxRecDepth 20000 in
theorem ggX5_contract_Jx4a65c_add_9ea2d : GoodIn wsX5_contract wsJx4a65c_add_9ea2d := goodIn_r _ [38, 39, 40, 41, 23, 42, 43, 44, 21, 45, 46, 47, 48, 49, 50, 51, 52, 53, 54, 55, 56, 57, 58, 59, 60, 61, 62, 63, 64, 65, 66, 67, 68, 69, 70, 71, 72, 73, 74, 75, 76, 77, 78, 79, 80, 81, 82, 83, 84, 85, 86, 87, 88, 111, 112, 113] (by decide +kernel) (by decide +kernel)
set_option maxRecDepth 20000 in
theorem gX5_contract_Jx4a65c_add_9ea2d : GoodIn wsX5_contract (wsV RX5 70 RJx4a65c yJx4a65c_add_9ea2d wsJx4a65c_add_9ea2d) := goodIn_app (goodIn_of _ (by decide +kernel)) ggX5_contract_Jx4a65c_add_9ea2d
theorem dX5_contract_0 : decode cX5_contract 0 = .ok (.iload_n 1, 1) := by decide +kernel
theorem dX5_contract_1 : decode cX5_contract 1 = .ok (.iconst 0, 1) := by decide +kernel
theorem dX5_contract_2 : decode cX5_contract 2 = .ok (.iconst 5, 1) := by decide +kernel
theorem dX5_contract_3 : decode cX5_contract 3 = .ok (.invokestatic 50, 3) := by decide +kernel
theorem dX5_contract_6 : decode cX5_contract 6 = .ok (.iload_n 2, 1) := by decide +kernel
theorem dX5_contract_7 : decode cX5_contract 7 = .ok (.iconst 0, 1) := by decide +kernel
theorem dX5_contract_8 : decode cX5_contract 8 = .ok (.iconst 5, 1) := by decide +kernel
theorem dX5_contract_9 : decode cX5_contract 9 = .ok (.invokestatic 50, 3) := by decide +kernel
theorem dX5_contract_12 : decode cX5_contract 12 = .ok (.iload_n 3, 1) := by decide +kernel
theorem dX5_contract_13 : decode cX5_contract 13 = .ok (.iconst 0, 1) := by decide +kernel
theorem dX5_contract_14 : decode cX5_contract 14 = .ok (.iconst 2, 1) := by decide +kernel
theorem dX5_contract_15 : decode cX5_contract 15 = .ok (.invokestatic 50, 3) := by decide +kernel
theorem dX5_contract_18 : decode cX5_contract 18 = .ok (.iload 4, 2) := by decide +kernel
theorem dX5_contract_20 : decode cX5_contract 20 = .ok (.iconst 0, 1) := by decide +kernel
theorem dX5_contract_21 : decode cX5_contract 21 = .ok (.iconst 2, 1) := by decide +kernel
theorem dX5_contract_22 : decode cX5_contract 22 = .ok (.invokestatic 50, 3) := by decide +kernel
theorem dX5_contract_25 : decode cX5_contract 25 = .ok (.iload 5, 2) := by decide +kernel
theorem dX5_contract_27 : decode cX5_contract 27 = .ok (.iconst 1, 1) := by decide +kernel
theorem dX5_contract_28 : decode cX5_contract 28 = .ok (.ldc 197, 2) := by decide +kernel
theorem dX5_contract_30 : decode cX5_contract 30 = .ok (.invokestatic 50, 3) := by decide +kernel
theorem dX5_contract_33 : decode cX5_contract 33 = .ok (.iload 6, 2) := by decide +kernel
theorem dX5_contract_35 : decode cX5_contract 35 = .ok (.iconst 1, 1) := by decide +kernel
theorem dX5_contract_36 : decode cX5_contract 36 = .ok (.bipush 100, 2) := by decide +kernel
theorem dX5_contract_38 : decode cX5_contract 38 = .ok (.invokestatic 50, 3) := by decide +kernel
theorem dX5_contract_41 : decode cX5_contract 41 = .ok (.iload 7, 2) := by decide +kernel
theorem dX5_contract_43 : decode cX5_contract 43 = .ok (.iconst 0, 1) := by decide +kernel
theorem dX5_contract_44 : decode cX5_contract 44 = .ok (.sipush 1000, 3) := by decide +kernel
theorem dX5_contract_47 : decode cX5_contract 47 = .ok (.invokestatic 50, 3) := by decide +kernel
theorem dX5_contract_50 : decode cX5_contract 50 = .ok (.iload_n 1, 1) := by decide +kernel
theorem dX5_contract_51 : decode cX5_contract 51 = .ok (.iload_n 2, 1) := by decide +kernel
theorem dX5_contract_52 : decode cX5_contract 52 = .ok (.if_icmp .ne 13, 3) := by decide +kernel
theorem dX5_contract_55 : decode cX5_contract 55 = .ok (.new 198, 3) := by decide +kernel
theorem dX5_contract_58 : decode cX5_contract 58 = .ok (.dup, 1) := by decide +kernel
theorem dX5_contract_59 : decode cX5_contract 59 = .ok (.ldc 200, 2) := by decide +kernel
theorem dX5_contract_61 : decode cX5_contract 61 = .ok (.invokespecial 202, 3) := by decide +kernel
theorem dX5_contract_64 : decode cX5_contract 64 = .ok (.athrow, 1) := by decide +kernel
theorem dX5_contract_65 : decode cX5_contract 65 = .ok (.aload_n 0, 1) := by decide +kernel
theorem dX5_contract_66 : decode cX5_contract 66 = .ok (.getfield 22, 3) := by decide +kernel
theorem dX5_contract_69 : decode cX5_contract 69 = .ok (.invokevirtual 54, 3) := by decide +kernel
theorem dX5_contract_72 : decode cX5_contract 72 = .ok (.istore 8, 2) := by decide +kernel
theorem dX5_contract_74 : decode cX5_contract 74 = .ok (.iload 8, 2) := by decide +kernel
theorem dX5_contract_76 : decode cX5_contract 76 = .ok (.bipush 30, 2) := by decide +kernel
theorem dX5_contract_78 : decode cX5_contract 78 = .ok (.if_icmp .lt 13, 3) := by decide +kernel
theorem dX5_contract_81 : decode cX5_contract 81 = .ok (.new 58, 3) := by decide +kernel
theorem dX5_contract_84 : decode cX5_contract 84 = .ok (.dup, 1) := by decide +kernel
theorem dX5_contract_85 : decode cX5_contract 85 = .ok (.ldc 203, 2) := by decide +kernel
theorem dX5_contract_87 : decode cX5_contract 87 = .ok (.invokespecial 62, 3) := by decide +kernel
theorem dX5_contract_90 : decode cX5_contract 90 = .ok (.athrow, 1) := by decide +kernel
theorem dX5_contract_91 : decode cX5_contract 91 = .ok (.new 205, 3) := by decide +kernel
theorem dX5_contract_94 : decode cX5_contract 94 = .ok (.dup, 1) := by decide +kernel
theorem dX5_contract_95 : decode cX5_contract 95 = .ok (.iload 8, 2) := by decide +kernel
theorem dX5_contract_97 : decode cX5_contract 97 = .ok (.iload_n 1, 1) := by decide +kernel
theorem dX5_contract_98 : decode cX5_contract 98 = .ok (.iload_n 2, 1) := by decide +kernel
theorem dX5_contract_99 : decode cX5_contract 99 = .ok (.iload_n 3, 1) := by decide +kernel
theorem dX5_contract_100 : decode cX5_contract 100 = .ok (.iload 4, 2) := by decide +kernel
theorem dX5_contract_102 : decode cX5_contract 102 = .ok (.invokespecial 207, 3) := by decide +kernel
theorem dX5_contract_105 : decode cX5_contract 105 = .ok (.astore 9, 2) := by decide +kernel
theorem dX5_contract_107 : decode cX5_contract 107 = .ok (.aload 9, 2) := by decide +kernel
theorem dX5_contract_109 : decode cX5_contract 109 = .ok (.iload 5, 2) := by decide +kernel
theorem dX5_contract_111 : decode cX5_contract 111 = .ok (.putfield 210, 3) := by decide +kernel
theorem dX5_contract_114 : decode cX5_contract 114 = .ok (.aload 9, 2) := by decide +kernel
theorem dX5_contract_116 : decode cX5_contract 116 = .ok (.aload_n 0, 1) := by decide +kernel
theorem dX5_contract_117 : decode cX5_contract 117 = .ok (.getfield 43, 3) := by decide +kernel
theorem dX5_contract_120 : decode cX5_contract 120 = .ok (.iload 6, 2) := by decide +kernel
theorem dX5_contract_122 : decode cX5_contract 122 = .ok (.iadd, 1) := by decide +kernel
theorem dX5_contract_123 : decode cX5_contract 123 = .ok (.putfield 211, 3) := by decide +kernel
theorem dX5_contract_126 : decode cX5_contract 126 = .ok (.aload 9, 2) := by decide +kernel
theorem dX5_contract_128 : decode cX5_contract 128 = .ok (.iload 7, 2) := by decide +kernel
theorem dX5_contract_130 : decode cX5_contract 130 = .ok (.putfield 214, 3) := by decide +kernel
theorem dX5_contract_133 : decode cX5_contract 133 = .ok (.aload_n 0, 1) := by decide +kernel
theorem dX5_contract_134 : decode cX5_contract 134 = .ok (.getfield 22, 3) := by decide +kernel
theorem dX5_contract_137 : decode cX5_contract 137 = .ok (.aload 9, 2) := by decide +kernel
theorem dX5_contract_139 : decode cX5_contract 139 = .ok (.invokevirtual 70, 3) := by decide +kernel
theorem dX5_contract_142 : decode cX5_contract 142 = .ok (.pop, 1) := by decide +kernel
theorem dX5_contract_143 : decode cX5_contract 143 = .ok (.iload 8, 2) := by decide +kernel
theorem dX5_contract_145 : decode cX5_contract 145 = .ok (.ireturn, 1) := by decide +kernel
set_option maxRecDepth 20000 in
theorem ggX5_pass_X5_needRange : GoodIn wsX5_pass wsX5_needRange := goodIn_ca (goodIn_r _ [5, 6, 7] (by decide +kernel) (by decide +kernel)) (goodIn_sub (fun _ h => List.mem_cons_of_mem _ (List.mem_append_right _ h)) (by decide +kernel))
set_option maxRecDepth 20000 in
theorem gX5_pass_X5_needRange : GoodIn wsX5_pass (va_wsS RX5 50 yX5_needRange wsX5_needRange) := goodIn_app (goodIn_of _ (by decide +kernel)) ggX5_pass_X5_needRange
set_option maxRecDepth 20000 in
theorem ggX5_pass_X5_passOneDay : GoodIn wsX5_pass wsX5_passOneDay := goodIn_r _ [11, 1, 12, 13, 14, 15, 16, 17, 18, 19, 20, 21, 22, 23, 24, 25, 26, 27, 28, 29, 30, 31, 32, 33, 34, 35, 36, 37, 38, 39, 40, 41, 42, 43, 44, 45, 4, 46, 47, 48, 49, 50, 51, 52, 53, 54, 55, 56, 57, 58, 59, 60, 61, 62, 63, 64, 65, 66, 67, 68, 69, 70, 71, 72, 73, 74, 75, 76, 77, 78, 79, 80, 81, 82, 83, 84, 85, 86, 87, 88, 89, 90, 91, 92, 93, 94, 95, 96, 97, 98, 99, 100, 101, 102, 103, 104, 105, 106, 107, 108, 109, 110, 111, 112, 113, 114, 115, 116, 117, 118, 119, 120, 121, 122, 123, 124, 125, 126, 127, 128, 129, 130, 131, 132, 133, 134, 135, 136, 137, 138, 139, 140, 141, 142, 143, 144, 145, 146, 147, 148, 149, 150, 151, 152, 153, 154, 155, 156, 157, 158, 159, 160, 161, 162, 163, 164, 165, 166, 167, 168, 169, 170, 171, 172, 173, 174, 175, 176, 177, 178, 179, 180, 181, 182, 183, 184, 185, 186, 187, 188, 189, 190, 191, 192, 193, 194, 195, 196, 197, 198, 199, 200, 201, 202, 203, 204, 205, 206, 207, 208, 209, 210, 211, 212, 213, 214, 215, 216, 217, 218, 219, 220, 221, 222, 223, 224, 225, 226, 227, 228, 229, 230, 231, 232, 233, 234, 235, 236, 237, 238, 239, 240, 241, 242, 243, 244, 245, 246, 247, 248, 249, 250, 251, 252, 253, 254, 255, 256, 257, 258, 259, 260, 261, 262, 263, 264, 265, 266, 267, 268, 269, 270, 271, 272, 273, 274, 275, 276, 277, 278, 279] (by decide +kernel) (by decide +kernel)
set_option maxRecDepth 20000 in
theorem gX5_pass_X5_passOneDay : GoodIn wsX5_pass (wsV RX5 217 RX5 yX5_passOneDay wsX5_passOneDay) := goodIn_app (goodIn_of _ (by decide +kernel)) ggX5_pass_X5_passOneDay
theorem dX5_pass_0 : decode cX5_pass 0 = .ok (.iload_n 1, 1) := by decide +kernel
theorem dX5_pass_1 : decode cX5_pass 1 = .ok (.iconst 1, 1) := by decide +kernel
theorem dX5_pass_2 : decode cX5_pass 2 = .ok (.bipush 30, 2) := by decide +kernel
theorem dX5_pass_4 : decode cX5_pass 4 = .ok (.invokestatic 50, 3) := by decide +kernel
theorem dX5_pass_7 : decode cX5_pass 7 = .ok (.iconst 0, 1) := by decide +kernel
theorem dX5_pass_8 : decode cX5_pass 8 = .ok (.istore_n 2, 1) := by decide +kernel
theorem dX5_pass_9 : decode cX5_pass 9 = .ok (.iload_n 2, 1) := by decide +kernel
theorem dX5_pass_10 : decode cX5_pass 10 = .ok (.iload_n 1, 1) := by decide +kernel
theorem dX5_pass_11 : decode cX5_pass 11 = .ok (.if_icmp .ge 13, 3) := by decide +kernel
theorem dX5_pass_14 : decode cX5_pass 14 = .ok (.aload_n 0, 1) := by decide +kernel
theorem dX5_pass_15 : decode cX5_pass 15 = .ok (.invokevirtual 217, 3) := by decide +kernel
theorem dX5_pass_18 : decode cX5_pass 18 = .ok (.iinc 2 1, 3) := by decide +kernel
theorem dX5_pass_21 : decode cX5_pass 21 = .ok (.goto (-12), 3) := by decide +kernel
theorem dX5_pass_24 : decode cX5_pass 24 = .ok (.aload_n 0, 1) := by decide +kernel
theorem dX5_pass_25 : decode cX5_pass 25 = .ok (.getfield 43, 3) := by decide +kernel
theorem dX5_pass_28 : decode cX5_pass 28 = .ok (.ireturn, 1) := by decide +kernel
set_option maxRecDepth 20000 in
theorem ggX5_receipt_X5_findReceipt : GoodIn wsX5_receipt wsX5_findReceipt := goodIn_ca (goodIn_r _ [17, 18, 19, 20, 21, 22, 23, 24, 25, 26, 27, 28, 29, 30, 31, 32, 33, 34, 35, 36, 37, 38, 39, 40, 41, 42, 43, 44, 85, 86, 87, 88, 89, 90, 91, 92, 93, 94, 95, 96, 97, 98] (by decide +kernel) (by decide +kernel)) (goodIn_sub (fun _ h => List.mem_cons_of_mem _ (List.mem_append_right _ h)) (by decide +kernel))
set_option maxRecDepth 20000 in
theorem gX5_receipt_X5_findReceipt : GoodIn wsX5_receipt (wsV RX5 114 RX5 yX5_findReceipt wsX5_findReceipt) := goodIn_app (goodIn_of _ (by decide +kernel)) ggX5_receipt_X5_findReceipt
set_option maxRecDepth 20000 in
theorem ggX5_receipt_X2_holder : GoodIn wsX5_receipt wsX2_holder := goodIn_r _ [49, 50, 51, 52, 53, 54, 55, 56, 57, 58, 59, 60, 99, 100, 101] (by decide +kernel) (by decide +kernel)
set_option maxRecDepth 20000 in
theorem gX5_receipt_X2_holder : GoodIn wsX5_receipt (wsV RX5 140 RX2 yX2_holder wsX2_holder) := goodIn_app (goodIn_of _ (by decide +kernel)) ggX5_receipt_X2_holder
theorem dX5_receipt_0 : decode cX5_receipt 0 = .ok (.aload_n 0, 1) := by decide +kernel
theorem dX5_receipt_1 : decode cX5_receipt 1 = .ok (.iload_n 1, 1) := by decide +kernel
theorem dX5_receipt_2 : decode cX5_receipt 2 = .ok (.invokevirtual 114, 3) := by decide +kernel
theorem dX5_receipt_5 : decode cX5_receipt 5 = .ok (.astore_n 3, 1) := by decide +kernel
theorem dX5_receipt_6 : decode cX5_receipt 6 = .ok (.iload_n 2, 1) := by decide +kernel
theorem dX5_receipt_7 : decode cX5_receipt 7 = .ok (.tableswitch 108 0 7 #[45, 50, 55, 66, 74, 79, 84, 89], 45) := by decide +kernel
theorem dX5_receipt_52 : decode cX5_receipt 52 = .ok (.aload_n 3, 1) := by decide +kernel
theorem dX5_receipt_53 : decode cX5_receipt 53 = .ok (.getfield 118, 3) := by decide +kernel
theorem dX5_receipt_56 : decode cX5_receipt 56 = .ok (.ireturn, 1) := by decide +kernel
theorem dX5_receipt_57 : decode cX5_receipt 57 = .ok (.aload_n 3, 1) := by decide +kernel
theorem dX5_receipt_58 : decode cX5_receipt 58 = .ok (.invokevirtual 140, 3) := by decide +kernel
theorem dX5_receipt_61 : decode cX5_receipt 61 = .ok (.ireturn, 1) := by decide +kernel
theorem dX5_receipt_62 : decode cX5_receipt 62 = .ok (.aload_n 3, 1) := by decide +kernel
theorem dX5_receipt_63 : decode cX5_receipt 63 = .ok (.getfield 220, 3) := by decide +kernel
theorem dX5_receipt_66 : decode cX5_receipt 66 = .ok (.getfield 176, 3) := by decide +kernel
theorem dX5_receipt_69 : decode cX5_receipt 69 = .ok (.getfield 224, 3) := by decide +kernel
theorem dX5_receipt_72 : decode cX5_receipt 72 = .ok (.ireturn, 1) := by decide +kernel
theorem dX5_receipt_73 : decode cX5_receipt 73 = .ok (.aload_n 3, 1) := by decide +kernel
theorem dX5_receipt_74 : decode cX5_receipt 74 = .ok (.getfield 220, 3) := by decide +kernel
theorem dX5_receipt_77 : decode cX5_receipt 77 = .ok (.getfield 225, 3) := by decide +kernel
theorem dX5_receipt_80 : decode cX5_receipt 80 = .ok (.ireturn, 1) := by decide +kernel
theorem dX5_receipt_81 : decode cX5_receipt 81 = .ok (.aload_n 3, 1) := by decide +kernel
theorem dX5_receipt_82 : decode cX5_receipt 82 = .ok (.getfield 150, 3) := by decide +kernel
theorem dX5_receipt_85 : decode cX5_receipt 85 = .ok (.ireturn, 1) := by decide +kernel
theorem dX5_receipt_86 : decode cX5_receipt 86 = .ok (.aload_n 3, 1) := by decide +kernel
theorem dX5_receipt_87 : decode cX5_receipt 87 = .ok (.getfield 153, 3) := by decide +kernel
theorem dX5_receipt_90 : decode cX5_receipt 90 = .ok (.ireturn, 1) := by decide +kernel
theorem dX5_receipt_91 : decode cX5_receipt 91 = .ok (.aload_n 3, 1) := by decide +kernel
theorem dX5_receipt_92 : decode cX5_receipt 92 = .ok (.getfield 156, 3) := by decide +kernel
theorem dX5_receipt_95 : decode cX5_receipt 95 = .ok (.ireturn, 1) := by decide +kernel
theorem dX5_receipt_96 : decode cX5_receipt 96 = .ok (.aload_n 3, 1) := by decide +kernel
theorem dX5_receipt_97 : decode cX5_receipt 97 = .ok (.getfield 226, 3) := by decide +kernel
theorem dX5_receipt_100 : decode cX5_receipt 100 = .ok (.ifnonnull 7, 3) := by decide +kernel
theorem dX5_receipt_103 : decode cX5_receipt 103 = .ok (.iconst (-1), 1) := by decide +kernel
theorem dX5_receipt_104 : decode cX5_receipt 104 = .ok (.goto 10, 3) := by decide +kernel
theorem dX5_receipt_107 : decode cX5_receipt 107 = .ok (.aload_n 3, 1) := by decide +kernel
theorem dX5_receipt_108 : decode cX5_receipt 108 = .ok (.getfield 226, 3) := by decide +kernel
theorem dX5_receipt_111 : decode cX5_receipt 111 = .ok (.getfield 230, 3) := by decide +kernel
theorem dX5_receipt_114 : decode cX5_receipt 114 = .ok (.ireturn, 1) := by decide +kernel
theorem dX5_receipt_115 : decode cX5_receipt 115 = .ok (.new 198, 3) := by decide +kernel
theorem dX5_receipt_118 : decode cX5_receipt 118 = .ok (.dup, 1) := by decide +kernel
theorem dX5_receipt_119 : decode cX5_receipt 119 = .ok (.ldc 231, 2) := by decide +kernel
theorem dX5_receipt_121 : decode cX5_receipt 121 = .ok (.invokespecial 202, 3) := by decide +kernel
theorem dX5_receipt_124 : decode cX5_receipt 124 = .ok (.athrow, 1) := by decide +kernel
set_option maxRecDepth 20000 in
theorem ggX5_receipts_Jx4a65c_size_8abf5 : GoodIn wsX5_receipts wsJx4a65c_size_8abf5 := goodIn_r _ [6, 7, 19, 20, 21] (by decide +kernel) (by decide +kernel)
set_option maxRecDepth 20000 in
theorem gX5_receipts_Jx4a65c_size_8abf5 : GoodIn wsX5_receipts (wsV RX5 54 RJx4a65c yJx4a65c_size_8abf5 wsJx4a65c_size_8abf5) := goodIn_app (goodIn_of _ (by decide +kernel)) ggX5_receipts_Jx4a65c_size_8abf5
theorem dX5_receipts_0 : decode cX5_receipts 0 = .ok (.aload_n 0, 1) := by decide +kernel
theorem dX5_receipts_1 : decode cX5_receipts 1 = .ok (.getfield 19, 3) := by decide +kernel
theorem dX5_receipts_4 : decode cX5_receipts 4 = .ok (.invokevirtual 54, 3) := by decide +kernel
theorem dX5_receipts_7 : decode cX5_receipts 7 = .ok (.ireturn, 1) := by decide +kernel
set_option maxRecDepth 20000 in
theorem ggX5_delivery_X5_findDelivery : GoodIn wsX5_delivery wsX5_findDelivery := goodIn_ca (goodIn_r _ [12, 13, 14, 15, 16, 17, 18, 19, 20, 21, 22, 23, 24, 25, 26, 27, 28, 29, 30, 31, 32, 33, 34, 35, 36, 37, 38, 39, 53, 54, 55, 56, 57, 58, 59, 60, 61, 62, 63, 64, 65, 66] (by decide +kernel) (by decide +kernel)) (goodIn_sub (fun _ h => List.mem_cons_of_mem _ (List.mem_append_right _ h)) (by decide +kernel))
set_option maxRecDepth 20000 in
theorem gX5_delivery_X5_findDelivery : GoodIn wsX5_delivery (wsV RX5 172 RX5 yX5_findDelivery wsX5_findDelivery) := goodIn_app (goodIn_of _ (by decide +kernel)) ggX5_delivery_X5_findDelivery
theorem dX5_delivery_0 : decode cX5_delivery 0 = .ok (.aload_n 0, 1) := by decide +kernel
theorem dX5_delivery_1 : decode cX5_delivery 1 = .ok (.iload_n 1, 1) := by decide +kernel
theorem dX5_delivery_2 : decode cX5_delivery 2 = .ok (.invokevirtual 172, 3) := by decide +kernel
theorem dX5_delivery_5 : decode cX5_delivery 5 = .ok (.astore_n 3, 1) := by decide +kernel
theorem dX5_delivery_6 : decode cX5_delivery 6 = .ok (.iload_n 2, 1) := by decide +kernel
theorem dX5_delivery_7 : decode cX5_delivery 7 = .ok (.tableswitch 52 0 3 #[29, 34, 39, 47], 29) := by decide +kernel
theorem dX5_delivery_36 : decode cX5_delivery 36 = .ok (.aload_n 3, 1) := by decide +kernel
theorem dX5_delivery_37 : decode cX5_delivery 37 = .ok (.getfield 101, 3) := by decide +kernel
theorem dX5_delivery_40 : decode cX5_delivery 40 = .ok (.ireturn, 1) := by decide +kernel
theorem dX5_delivery_41 : decode cX5_delivery 41 = .ok (.aload_n 3, 1) := by decide +kernel
theorem dX5_delivery_42 : decode cX5_delivery 42 = .ok (.getfield 181, 3) := by decide +kernel
theorem dX5_delivery_45 : decode cX5_delivery 45 = .ok (.ireturn, 1) := by decide +kernel
theorem dX5_delivery_46 : decode cX5_delivery 46 = .ok (.aload_n 3, 1) := by decide +kernel
theorem dX5_delivery_47 : decode cX5_delivery 47 = .ok (.getfield 176, 3) := by decide +kernel
theorem dX5_delivery_50 : decode cX5_delivery 50 = .ok (.getfield 224, 3) := by decide +kernel
theorem dX5_delivery_53 : decode cX5_delivery 53 = .ok (.ireturn, 1) := by decide +kernel
theorem dX5_delivery_54 : decode cX5_delivery 54 = .ok (.aload_n 3, 1) := by decide +kernel
theorem dX5_delivery_55 : decode cX5_delivery 55 = .ok (.getfield 188, 3) := by decide +kernel
theorem dX5_delivery_58 : decode cX5_delivery 58 = .ok (.ireturn, 1) := by decide +kernel
theorem dX5_delivery_59 : decode cX5_delivery 59 = .ok (.new 198, 3) := by decide +kernel
theorem dX5_delivery_62 : decode cX5_delivery 62 = .ok (.dup, 1) := by decide +kernel
theorem dX5_delivery_63 : decode cX5_delivery 63 = .ok (.ldc 231, 2) := by decide +kernel
theorem dX5_delivery_65 : decode cX5_delivery 65 = .ok (.invokespecial 202, 3) := by decide +kernel
theorem dX5_delivery_68 : decode cX5_delivery 68 = .ok (.athrow, 1) := by decide +kernel
set_option maxRecDepth 20000 in
theorem ggX5_ofContract_X5_findContract : GoodIn wsX5_ofContract wsX5_findContract := goodIn_ca (goodIn_r _ [11, 12, 13, 14, 15, 16, 17, 18, 19, 20, 21, 22, 23, 24, 25, 26, 27, 28, 29, 30, 31, 32, 33, 34, 35, 36, 37, 38, 50, 51, 52, 53, 54, 55, 56, 57, 58, 59, 60, 61, 62, 63] (by decide +kernel) (by decide +kernel)) (goodIn_sub (fun _ h => List.mem_cons_of_mem _ (List.mem_append_right _ h)) (by decide +kernel))
set_option maxRecDepth 20000 in
theorem gX5_ofContract_X5_findContract : GoodIn wsX5_ofContract (wsV RX5 233 RX5 yX5_findContract wsX5_findContract) := goodIn_app (goodIn_of _ (by decide +kernel)) ggX5_ofContract_X5_findContract
theorem dX5_ofContract_0 : decode cX5_ofContract 0 = .ok (.aload_n 0, 1) := by decide +kernel
theorem dX5_ofContract_1 : decode cX5_ofContract 1 = .ok (.iload_n 1, 1) := by decide +kernel
theorem dX5_ofContract_2 : decode cX5_ofContract 2 = .ok (.invokevirtual 233, 3) := by decide +kernel
theorem dX5_ofContract_5 : decode cX5_ofContract 5 = .ok (.astore_n 3, 1) := by decide +kernel
theorem dX5_ofContract_6 : decode cX5_ofContract 6 = .ok (.iload_n 2, 1) := by decide +kernel
theorem dX5_ofContract_7 : decode cX5_ofContract 7 = .ok (.tableswitch 57 0 3 #[29, 34, 47, 52], 29) := by decide +kernel
theorem dX5_ofContract_36 : decode cX5_ofContract 36 = .ok (.aload_n 3, 1) := by decide +kernel
theorem dX5_ofContract_37 : decode cX5_ofContract 37 = .ok (.getfield 211, 3) := by decide +kernel
theorem dX5_ofContract_40 : decode cX5_ofContract 40 = .ok (.ireturn, 1) := by decide +kernel
theorem dX5_ofContract_41 : decode cX5_ofContract 41 = .ok (.aload_n 3, 1) := by decide +kernel
theorem dX5_ofContract_42 : decode cX5_ofContract 42 = .ok (.getfield 237, 3) := by decide +kernel
theorem dX5_ofContract_45 : decode cX5_ofContract 45 = .ok (.ifCond .eq 7, 3) := by decide +kernel
theorem dX5_ofContract_48 : decode cX5_ofContract 48 = .ok (.iconst 1, 1) := by decide +kernel
theorem dX5_ofContract_49 : decode cX5_ofContract 49 = .ok (.goto 4, 3) := by decide +kernel
theorem dX5_ofContract_52 : decode cX5_ofContract 52 = .ok (.iconst 0, 1) := by decide +kernel
theorem dX5_ofContract_53 : decode cX5_ofContract 53 = .ok (.ireturn, 1) := by decide +kernel
theorem dX5_ofContract_54 : decode cX5_ofContract 54 = .ok (.aload_n 3, 1) := by decide +kernel
theorem dX5_ofContract_55 : decode cX5_ofContract 55 = .ok (.getfield 241, 3) := by decide +kernel
theorem dX5_ofContract_58 : decode cX5_ofContract 58 = .ok (.ireturn, 1) := by decide +kernel
theorem dX5_ofContract_59 : decode cX5_ofContract 59 = .ok (.aload_n 3, 1) := by decide +kernel
theorem dX5_ofContract_60 : decode cX5_ofContract 60 = .ok (.getfield 244, 3) := by decide +kernel
theorem dX5_ofContract_63 : decode cX5_ofContract 63 = .ok (.ireturn, 1) := by decide +kernel
theorem dX5_ofContract_64 : decode cX5_ofContract 64 = .ok (.new 198, 3) := by decide +kernel
theorem dX5_ofContract_67 : decode cX5_ofContract 67 = .ok (.dup, 1) := by decide +kernel
theorem dX5_ofContract_68 : decode cX5_ofContract 68 = .ok (.ldc 231, 2) := by decide +kernel
theorem dX5_ofContract_70 : decode cX5_ofContract 70 = .ok (.invokespecial 202, 3) := by decide +kernel
theorem dX5_ofContract_73 : decode cX5_ofContract 73 = .ok (.athrow, 1) := by decide +kernel
set_option maxRecDepth 20000 in
theorem ggX5_ofSilo_X5_findSilo : GoodIn wsX5_ofSilo wsX5_findSilo := goodIn_ca (goodIn_r _ [11, 12, 13, 14, 15, 16, 17, 18, 19, 20, 21, 22, 23, 24, 25, 26, 27, 28, 29, 30, 31, 32, 33, 34, 35, 36, 37, 38, 51, 52, 53, 54, 55, 56, 57, 58, 59, 60, 61, 62, 63, 64] (by decide +kernel) (by decide +kernel)) (goodIn_sub (fun _ h => List.mem_cons_of_mem _ (List.mem_append_right _ h)) (by decide +kernel))
set_option maxRecDepth 20000 in
theorem gX5_ofSilo_X5_findSilo : GoodIn wsX5_ofSilo (wsV RX5 247 RX5 yX5_findSilo wsX5_findSilo) := goodIn_app (goodIn_of _ (by decide +kernel)) ggX5_ofSilo_X5_findSilo
set_option maxRecDepth 20000 in
theorem ggX5_ofSilo_X3_isEmpty : GoodIn wsX5_ofSilo wsX3_isEmpty := goodIn_r _ [43, 44, 45, 46, 47, 48, 49, 50] (by decide +kernel) (by decide +kernel)
set_option maxRecDepth 20000 in
theorem gX5_ofSilo_X3_isEmpty : GoodIn wsX5_ofSilo (wsV RX5 254 RX3 yX3_isEmpty wsX3_isEmpty) := goodIn_app (goodIn_of _ (by decide +kernel)) ggX5_ofSilo_X3_isEmpty
theorem dX5_ofSilo_0 : decode cX5_ofSilo 0 = .ok (.aload_n 0, 1) := by decide +kernel
theorem dX5_ofSilo_1 : decode cX5_ofSilo 1 = .ok (.iload_n 1, 1) := by decide +kernel
theorem dX5_ofSilo_2 : decode cX5_ofSilo 2 = .ok (.invokevirtual 247, 3) := by decide +kernel
theorem dX5_ofSilo_5 : decode cX5_ofSilo 5 = .ok (.astore_n 3, 1) := by decide +kernel
theorem dX5_ofSilo_6 : decode cX5_ofSilo 6 = .ok (.iload_n 2, 1) := by decide +kernel
theorem dX5_ofSilo_7 : decode cX5_ofSilo 7 = .ok (.tableswitch 71 0 3 #[29, 34, 50, 66], 29) := by decide +kernel
theorem dX5_ofSilo_36 : decode cX5_ofSilo 36 = .ok (.aload_n 3, 1) := by decide +kernel
theorem dX5_ofSilo_37 : decode cX5_ofSilo 37 = .ok (.getfield 251, 3) := by decide +kernel
theorem dX5_ofSilo_40 : decode cX5_ofSilo 40 = .ok (.ireturn, 1) := by decide +kernel
theorem dX5_ofSilo_41 : decode cX5_ofSilo 41 = .ok (.aload_n 3, 1) := by decide +kernel
theorem dX5_ofSilo_42 : decode cX5_ofSilo 42 = .ok (.invokevirtual 254, 3) := by decide +kernel
theorem dX5_ofSilo_45 : decode cX5_ofSilo 45 = .ok (.ifCond .eq 7, 3) := by decide +kernel
theorem dX5_ofSilo_48 : decode cX5_ofSilo 48 = .ok (.iconst (-1), 1) := by decide +kernel
theorem dX5_ofSilo_49 : decode cX5_ofSilo 49 = .ok (.goto 7, 3) := by decide +kernel
theorem dX5_ofSilo_52 : decode cX5_ofSilo 52 = .ok (.aload_n 3, 1) := by decide +kernel
theorem dX5_ofSilo_53 : decode cX5_ofSilo 53 = .ok (.getfield 104, 3) := by decide +kernel
theorem dX5_ofSilo_56 : decode cX5_ofSilo 56 = .ok (.ireturn, 1) := by decide +kernel
theorem dX5_ofSilo_57 : decode cX5_ofSilo 57 = .ok (.aload_n 3, 1) := by decide +kernel
theorem dX5_ofSilo_58 : decode cX5_ofSilo 58 = .ok (.invokevirtual 254, 3) := by decide +kernel
theorem dX5_ofSilo_61 : decode cX5_ofSilo 61 = .ok (.ifCond .eq 7, 3) := by decide +kernel
theorem dX5_ofSilo_64 : decode cX5_ofSilo 64 = .ok (.iconst (-1), 1) := by decide +kernel
theorem dX5_ofSilo_65 : decode cX5_ofSilo 65 = .ok (.goto 7, 3) := by decide +kernel
theorem dX5_ofSilo_68 : decode cX5_ofSilo 68 = .ok (.aload_n 3, 1) := by decide +kernel
theorem dX5_ofSilo_69 : decode cX5_ofSilo 69 = .ok (.getfield 107, 3) := by decide +kernel
theorem dX5_ofSilo_72 : decode cX5_ofSilo 72 = .ok (.ireturn, 1) := by decide +kernel
theorem dX5_ofSilo_73 : decode cX5_ofSilo 73 = .ok (.aload_n 3, 1) := by decide +kernel
theorem dX5_ofSilo_74 : decode cX5_ofSilo 74 = .ok (.getfield 257, 3) := by decide +kernel
theorem dX5_ofSilo_77 : decode cX5_ofSilo 77 = .ok (.ireturn, 1) := by decide +kernel
theorem dX5_ofSilo_78 : decode cX5_ofSilo 78 = .ok (.new 198, 3) := by decide +kernel
theorem dX5_ofSilo_81 : decode cX5_ofSilo 81 = .ok (.dup, 1) := by decide +kernel
theorem dX5_ofSilo_82 : decode cX5_ofSilo 82 = .ok (.ldc 231, 2) := by decide +kernel
theorem dX5_ofSilo_84 : decode cX5_ofSilo 84 = .ok (.invokespecial 202, 3) := by decide +kernel
theorem dX5_ofSilo_87 : decode cX5_ofSilo 87 = .ok (.athrow, 1) := by decide +kernel
set_option maxRecDepth 20000 in
theorem ggX5_contentAnew_X5_findSilo : GoodIn wsX5_contentAnew wsX5_findSilo := goodIn_ca (goodIn_r _ [8, 9, 10, 11, 12, 13, 14, 15, 16, 17, 18, 19, 20, 21, 22, 23, 24, 25, 26, 27, 28, 29, 30, 31, 32, 33, 34, 35, 44, 45, 46, 47, 48, 49, 50, 51, 52, 53, 54, 64, 65, 66] (by decide +kernel) (by decide +kernel)) (goodIn_sub (fun _ h => List.mem_cons_of_mem _ (List.mem_append_right _ h)) (by decide +kernel))
set_option maxRecDepth 20000 in
theorem gX5_contentAnew_X5_findSilo : GoodIn wsX5_contentAnew (wsV RX5 247 RX5 yX5_findSilo wsX5_findSilo) := goodIn_app (goodIn_of _ (by decide +kernel)) ggX5_contentAnew_X5_findSilo
set_option maxRecDepth 20000 in
theorem ggX5_contentAnew_Jx4a65c_size_8abf5 : GoodIn wsX5_contentAnew wsJx4a65c_size_8abf5 := goodIn_r _ [17, 18, 64, 65, 66] (by decide +kernel) (by decide +kernel)
set_option maxRecDepth 20000 in
theorem gX5_contentAnew_Jx4a65c_size_8abf5 : GoodIn wsX5_contentAnew (wsV RX5 54 RJx4a65c yJx4a65c_size_8abf5 wsJx4a65c_size_8abf5) := goodIn_app (goodIn_of _ (by decide +kernel)) ggX5_contentAnew_Jx4a65c_size_8abf5
set_option maxRecDepth 20000 in
theorem ggX5_contentAnew_Jx4a65c_get_915e3 : GoodIn wsX5_contentAnew wsJx4a65c_get_915e3 := goodIn_r _ [22, 18, 23, 24, 25, 26, 27, 28, 29, 30, 31, 32, 33, 16, 34, 35, 64, 65, 66] (by decide +kernel) (by decide +kernel)
set_option maxRecDepth 20000 in
theorem gX5_contentAnew_Jx4a65c_get_915e3 : GoodIn wsX5_contentAnew (wsV RX5 260 RJx4a65c yJx4a65c_get_915e3 wsJx4a65c_get_915e3) := goodIn_app (goodIn_of _ (by decide +kernel)) ggX5_contentAnew_Jx4a65c_get_915e3
set_option maxRecDepth 20000 in
theorem ggX5_contentAnew_X2_isLiveIn : GoodIn wsX5_contentAnew wsX2_isLiveIn := goodIn_r _ [40, 41, 42, 43, 55, 56, 57, 58, 59, 60, 61, 62, 63, 67, 68, 69, 70, 71, 72, 73] (by decide +kernel) (by decide +kernel)
set_option maxRecDepth 20000 in
theorem gX5_contentAnew_X2_isLiveIn : GoodIn wsX5_contentAnew (wsV RX5 264 RX2 yX2_isLiveIn wsX2_isLiveIn) := goodIn_app (goodIn_of _ (by decide +kernel)) ggX5_contentAnew_X2_isLiveIn
theorem dX5_contentAnew_0 : decode cX5_contentAnew 0 = .ok (.aload_n 0, 1) := by decide +kernel
theorem dX5_contentAnew_1 : decode cX5_contentAnew 1 = .ok (.iload_n 1, 1) := by decide +kernel
theorem dX5_contentAnew_2 : decode cX5_contentAnew 2 = .ok (.invokevirtual 247, 3) := by decide +kernel
theorem dX5_contentAnew_5 : decode cX5_contentAnew 5 = .ok (.astore_n 2, 1) := by decide +kernel
theorem dX5_contentAnew_6 : decode cX5_contentAnew 6 = .ok (.iconst 0, 1) := by decide +kernel
theorem dX5_contentAnew_7 : decode cX5_contentAnew 7 = .ok (.istore_n 3, 1) := by decide +kernel
theorem dX5_contentAnew_8 : decode cX5_contentAnew 8 = .ok (.iconst 0, 1) := by decide +kernel
theorem dX5_contentAnew_9 : decode cX5_contentAnew 9 = .ok (.istore 4, 2) := by decide +kernel
theorem dX5_contentAnew_11 : decode cX5_contentAnew 11 = .ok (.iload 4, 2) := by decide +kernel
theorem dX5_contentAnew_13 : decode cX5_contentAnew 13 = .ok (.aload_n 0, 1) := by decide +kernel
theorem dX5_contentAnew_14 : decode cX5_contentAnew 14 = .ok (.getfield 19, 3) := by decide +kernel
theorem dX5_contentAnew_17 : decode cX5_contentAnew 17 = .ok (.invokevirtual 54, 3) := by decide +kernel
theorem dX5_contentAnew_20 : decode cX5_contentAnew 20 = .ok (.if_icmp .ge 40, 3) := by decide +kernel
theorem dX5_contentAnew_23 : decode cX5_contentAnew 23 = .ok (.aload_n 0, 1) := by decide +kernel
theorem dX5_contentAnew_24 : decode cX5_contentAnew 24 = .ok (.getfield 19, 3) := by decide +kernel
theorem dX5_contentAnew_27 : decode cX5_contentAnew 27 = .ok (.iload 4, 2) := by decide +kernel
theorem dX5_contentAnew_29 : decode cX5_contentAnew 29 = .ok (.invokevirtual 260, 3) := by decide +kernel
theorem dX5_contentAnew_32 : decode cX5_contentAnew 32 = .ok (.checkcast 119, 3) := by decide +kernel
theorem dX5_contentAnew_35 : decode cX5_contentAnew 35 = .ok (.astore 5, 2) := by decide +kernel
theorem dX5_contentAnew_37 : decode cX5_contentAnew 37 = .ok (.aload 5, 2) := by decide +kernel
theorem dX5_contentAnew_39 : decode cX5_contentAnew 39 = .ok (.aload_n 2, 1) := by decide +kernel
theorem dX5_contentAnew_40 : decode cX5_contentAnew 40 = .ok (.invokevirtual 264, 3) := by decide +kernel
theorem dX5_contentAnew_43 : decode cX5_contentAnew 43 = .ok (.ifCond .eq 11, 3) := by decide +kernel
theorem dX5_contentAnew_46 : decode cX5_contentAnew 46 = .ok (.iload_n 3, 1) := by decide +kernel
theorem dX5_contentAnew_47 : decode cX5_contentAnew 47 = .ok (.aload 5, 2) := by decide +kernel
theorem dX5_contentAnew_49 : decode cX5_contentAnew 49 = .ok (.getfield 118, 3) := by decide +kernel
theorem dX5_contentAnew_52 : decode cX5_contentAnew 52 = .ok (.iadd, 1) := by decide +kernel
theorem dX5_contentAnew_53 : decode cX5_contentAnew 53 = .ok (.istore_n 3, 1) := by decide +kernel
theorem dX5_contentAnew_54 : decode cX5_contentAnew 54 = .ok (.iinc 4 1, 3) := by decide +kernel
theorem dX5_contentAnew_57 : decode cX5_contentAnew 57 = .ok (.goto (-46), 3) := by decide +kernel
theorem dX5_contentAnew_60 : decode cX5_contentAnew 60 = .ok (.iload_n 3, 1) := by decide +kernel
theorem dX5_contentAnew_61 : decode cX5_contentAnew 61 = .ok (.ireturn, 1) := by decide +kernel
theorem dX5_account_0 : decode cX5_account 0 = .ok (.iload_n 1, 1) := by decide +kernel
theorem dX5_account_1 : decode cX5_account 1 = .ok (.ifCond .lt 12, 3) := by decide +kernel
theorem dX5_account_4 : decode cX5_account 4 = .ok (.iload_n 1, 1) := by decide +kernel
theorem dX5_account_5 : decode cX5_account 5 = .ok (.aload_n 0, 1) := by decide +kernel
theorem dX5_account_6 : decode cX5_account 6 = .ok (.getfield 25, 3) := by decide +kernel
theorem dX5_account_9 : decode cX5_account 9 = .ok (.arraylength, 1) := by decide +kernel
theorem dX5_account_10 : decode cX5_account 10 = .ok (.if_icmp .lt 14, 3) := by decide +kernel
theorem dX5_account_13 : decode cX5_account 13 = .ok (.new 268, 3) := by decide +kernel
theorem dX5_account_16 : decode cX5_account 16 = .ok (.dup, 1) := by decide +kernel
theorem dX5_account_17 : decode cX5_account 17 = .ok (.ldc_w 270, 3) := by decide +kernel
theorem dX5_account_20 : decode cX5_account 20 = .ok (.invokespecial 272, 3) := by decide +kernel
theorem dX5_account_23 : decode cX5_account 23 = .ok (.athrow, 1) := by decide +kernel
theorem dX5_account_24 : decode cX5_account 24 = .ok (.aload_n 0, 1) := by decide +kernel
theorem dX5_account_25 : decode cX5_account 25 = .ok (.getfield 25, 3) := by decide +kernel
theorem dX5_account_28 : decode cX5_account 28 = .ok (.iload_n 1, 1) := by decide +kernel
theorem dX5_account_29 : decode cX5_account 29 = .ok (.laload, 1) := by decide +kernel
theorem dX5_account_30 : decode cX5_account 30 = .ok (.lreturn, 1) := by decide +kernel
theorem dX5_owes_0 : decode cX5_owes 0 = .ok (.iload_n 1, 1) := by decide +kernel
theorem dX5_owes_1 : decode cX5_owes 1 = .ok (.ifCond .lt 12, 3) := by decide +kernel
theorem dX5_owes_4 : decode cX5_owes 4 = .ok (.iload_n 1, 1) := by decide +kernel
theorem dX5_owes_5 : decode cX5_owes 5 = .ok (.aload_n 0, 1) := by decide +kernel
theorem dX5_owes_6 : decode cX5_owes 6 = .ok (.getfield 29, 3) := by decide +kernel
theorem dX5_owes_9 : decode cX5_owes 9 = .ok (.arraylength, 1) := by decide +kernel
theorem dX5_owes_10 : decode cX5_owes 10 = .ok (.if_icmp .lt 14, 3) := by decide +kernel
theorem dX5_owes_13 : decode cX5_owes 13 = .ok (.new 268, 3) := by decide +kernel
theorem dX5_owes_16 : decode cX5_owes 16 = .ok (.dup, 1) := by decide +kernel
theorem dX5_owes_17 : decode cX5_owes 17 = .ok (.ldc_w 270, 3) := by decide +kernel
theorem dX5_owes_20 : decode cX5_owes 20 = .ok (.invokespecial 272, 3) := by decide +kernel
theorem dX5_owes_23 : decode cX5_owes 23 = .ok (.athrow, 1) := by decide +kernel
theorem dX5_owes_24 : decode cX5_owes 24 = .ok (.aload_n 0, 1) := by decide +kernel
theorem dX5_owes_25 : decode cX5_owes 25 = .ok (.getfield 29, 3) := by decide +kernel
theorem dX5_owes_28 : decode cX5_owes 28 = .ok (.iload_n 1, 1) := by decide +kernel
theorem dX5_owes_29 : decode cX5_owes 29 = .ok (.iaload, 1) := by decide +kernel
theorem dX5_owes_30 : decode cX5_owes 30 = .ok (.ireturn, 1) := by decide +kernel
set_option maxRecDepth 20000 in
theorem ggX5_holds_X5_needRange : GoodIn wsX5_holds wsX5_needRange := goodIn_ca (goodIn_r _ [9, 10, 11] (by decide +kernel) (by decide +kernel)) (goodIn_sub (fun _ h => List.mem_cons_of_mem _ (List.mem_append_right _ h)) (by decide +kernel))
set_option maxRecDepth 20000 in
theorem gX5_holds_X5_needRange : GoodIn wsX5_holds (va_wsS RX5 50 yX5_needRange wsX5_needRange) := goodIn_app (goodIn_of _ (by decide +kernel)) ggX5_holds_X5_needRange
set_option maxRecDepth 20000 in
theorem ggX5_holds_Jx4a65c_size_8abf5 : GoodIn wsX5_holds wsJx4a65c_size_8abf5 := goodIn_r _ [16, 17, 73, 74, 75] (by decide +kernel) (by decide +kernel)
set_option maxRecDepth 20000 in
theorem gX5_holds_Jx4a65c_size_8abf5 : GoodIn wsX5_holds (wsV RX5 54 RJx4a65c yJx4a65c_size_8abf5 wsJx4a65c_size_8abf5) := goodIn_app (goodIn_of _ (by decide +kernel)) ggX5_holds_Jx4a65c_size_8abf5
set_option maxRecDepth 20000 in
theorem ggX5_holds_Jx4a65c_get_915e3 : GoodIn wsX5_holds wsJx4a65c_get_915e3 := goodIn_r _ [21, 17, 22, 23, 24, 25, 26, 27, 28, 29, 30, 31, 32, 15, 33, 34, 73, 74, 75] (by decide +kernel) (by decide +kernel)
set_option maxRecDepth 20000 in
theorem gX5_holds_Jx4a65c_get_915e3 : GoodIn wsX5_holds (wsV RX5 260 RJx4a65c yJx4a65c_get_915e3 wsJx4a65c_get_915e3) := goodIn_app (goodIn_of _ (by decide +kernel)) ggX5_holds_Jx4a65c_get_915e3
set_option maxRecDepth 20000 in
theorem ggX5_holds_X2_isLiveOf : GoodIn wsX5_holds wsX2_isLiveOf := goodIn_r _ [39, 40, 41, 42, 43, 44, 45, 46, 47, 48, 49, 50, 51, 52, 64, 65, 66, 67, 68, 69, 70, 71, 72, 76, 77, 78, 79, 80, 81, 82, 83, 84, 85, 86, 87, 88, 89, 90, 91] (by decide +kernel) (by decide +kernel)
set_option maxRecDepth 20000 in
theorem gX5_holds_X2_isLiveOf : GoodIn wsX5_holds (wsV RX5 273 RX2 yX2_isLiveOf wsX2_isLiveOf) := goodIn_app (goodIn_of _ (by decide +kernel)) ggX5_holds_X2_isLiveOf
theorem dX5_holds_0 : decode cX5_holds 0 = .ok (.iload_n 1, 1) := by decide +kernel
theorem dX5_holds_1 : decode cX5_holds 1 = .ok (.ifCond .lt 9, 3) := by decide +kernel
theorem dX5_holds_4 : decode cX5_holds 4 = .ok (.iload_n 1, 1) := by decide +kernel
theorem dX5_holds_5 : decode cX5_holds 5 = .ok (.bipush 6, 2) := by decide +kernel
theorem dX5_holds_7 : decode cX5_holds 7 = .ok (.if_icmp .lt 14, 3) := by decide +kernel
theorem dX5_holds_10 : decode cX5_holds 10 = .ok (.new 268, 3) := by decide +kernel
theorem dX5_holds_13 : decode cX5_holds 13 = .ok (.dup, 1) := by decide +kernel
theorem dX5_holds_14 : decode cX5_holds 14 = .ok (.ldc_w 270, 3) := by decide +kernel
theorem dX5_holds_17 : decode cX5_holds 17 = .ok (.invokespecial 272, 3) := by decide +kernel
theorem dX5_holds_20 : decode cX5_holds 20 = .ok (.athrow, 1) := by decide +kernel
theorem dX5_holds_21 : decode cX5_holds 21 = .ok (.iload_n 2, 1) := by decide +kernel
theorem dX5_holds_22 : decode cX5_holds 22 = .ok (.iconst 0, 1) := by decide +kernel
theorem dX5_holds_23 : decode cX5_holds 23 = .ok (.iconst 2, 1) := by decide +kernel
theorem dX5_holds_24 : decode cX5_holds 24 = .ok (.invokestatic 50, 3) := by decide +kernel
theorem dX5_holds_27 : decode cX5_holds 27 = .ok (.iload_n 3, 1) := by decide +kernel
theorem dX5_holds_28 : decode cX5_holds 28 = .ok (.iconst 0, 1) := by decide +kernel
theorem dX5_holds_29 : decode cX5_holds 29 = .ok (.iconst 2, 1) := by decide +kernel
theorem dX5_holds_30 : decode cX5_holds 30 = .ok (.invokestatic 50, 3) := by decide +kernel
theorem dX5_holds_33 : decode cX5_holds 33 = .ok (.iconst 0, 1) := by decide +kernel
theorem dX5_holds_34 : decode cX5_holds 34 = .ok (.istore 4, 2) := by decide +kernel
theorem dX5_holds_36 : decode cX5_holds 36 = .ok (.iconst 0, 1) := by decide +kernel
theorem dX5_holds_37 : decode cX5_holds 37 = .ok (.istore 5, 2) := by decide +kernel
theorem dX5_holds_39 : decode cX5_holds 39 = .ok (.iload 5, 2) := by decide +kernel
theorem dX5_holds_41 : decode cX5_holds 41 = .ok (.aload_n 0, 1) := by decide +kernel
theorem dX5_holds_42 : decode cX5_holds 42 = .ok (.getfield 19, 3) := by decide +kernel
theorem dX5_holds_45 : decode cX5_holds 45 = .ok (.invokevirtual 54, 3) := by decide +kernel
theorem dX5_holds_48 : decode cX5_holds 48 = .ok (.if_icmp .ge 44, 3) := by decide +kernel
theorem dX5_holds_51 : decode cX5_holds 51 = .ok (.aload_n 0, 1) := by decide +kernel
theorem dX5_holds_52 : decode cX5_holds 52 = .ok (.getfield 19, 3) := by decide +kernel
theorem dX5_holds_55 : decode cX5_holds 55 = .ok (.iload 5, 2) := by decide +kernel
theorem dX5_holds_57 : decode cX5_holds 57 = .ok (.invokevirtual 260, 3) := by decide +kernel
theorem dX5_holds_60 : decode cX5_holds 60 = .ok (.checkcast 119, 3) := by decide +kernel
theorem dX5_holds_63 : decode cX5_holds 63 = .ok (.astore 6, 2) := by decide +kernel
theorem dX5_holds_65 : decode cX5_holds 65 = .ok (.aload 6, 2) := by decide +kernel
theorem dX5_holds_67 : decode cX5_holds 67 = .ok (.iload_n 1, 1) := by decide +kernel
theorem dX5_holds_68 : decode cX5_holds 68 = .ok (.iload_n 2, 1) := by decide +kernel
theorem dX5_holds_69 : decode cX5_holds 69 = .ok (.iload_n 3, 1) := by decide +kernel
theorem dX5_holds_70 : decode cX5_holds 70 = .ok (.invokevirtual 273, 3) := by decide +kernel
theorem dX5_holds_73 : decode cX5_holds 73 = .ok (.ifCond .eq 13, 3) := by decide +kernel
theorem dX5_holds_76 : decode cX5_holds 76 = .ok (.iload 4, 2) := by decide +kernel
theorem dX5_holds_78 : decode cX5_holds 78 = .ok (.aload 6, 2) := by decide +kernel
theorem dX5_holds_80 : decode cX5_holds 80 = .ok (.getfield 118, 3) := by decide +kernel
theorem dX5_holds_83 : decode cX5_holds 83 = .ok (.iadd, 1) := by decide +kernel
theorem dX5_holds_84 : decode cX5_holds 84 = .ok (.istore 4, 2) := by decide +kernel
theorem dX5_holds_86 : decode cX5_holds 86 = .ok (.iinc 5 1, 3) := by decide +kernel
theorem dX5_holds_89 : decode cX5_holds 89 = .ok (.goto (-50), 3) := by decide +kernel
theorem dX5_holds_92 : decode cX5_holds 92 = .ok (.iload 4, 2) := by decide +kernel
theorem dX5_holds_94 : decode cX5_holds 94 = .ok (.ireturn, 1) := by decide +kernel
set_option maxRecDepth 20000 in
theorem ggX5_ownerOn_X5_findReceipt : GoodIn wsX5_ownerOn wsX5_findReceipt := goodIn_ca (goodIn_r _ [10, 11, 12, 13, 14, 15, 16, 17, 18, 19, 20, 21, 22, 23, 24, 25, 26, 27, 28, 29, 30, 31, 32, 33, 34, 35, 36, 37, 43, 44, 45, 46, 47, 48, 49, 50, 51, 52, 53, 66, 67, 68] (by decide +kernel) (by decide +kernel)) (goodIn_sub (fun _ h => List.mem_cons_of_mem _ (List.mem_append_left _ (List.mem_append_right _ h))) (by decide +kernel))
set_option maxRecDepth 20000 in
theorem gX5_ownerOn_X5_findReceipt : GoodIn wsX5_ownerOn (wsV RX5 114 RX5 yX5_findReceipt wsX5_findReceipt) := goodIn_app (goodIn_of _ (by decide +kernel)) ggX5_ownerOn_X5_findReceipt
set_option maxRecDepth 20000 in
theorem ggX5_ownerOn_X5_needRange : GoodIn wsX5_ownerOn wsX5_needRange := goodIn_ca (goodIn_r _ [40, 41, 42] (by decide +kernel) (by decide +kernel)) (goodIn_sub (fun _ h => List.mem_cons_of_mem _ (List.mem_append_right _ h)) (by decide +kernel))
set_option maxRecDepth 20000 in
theorem gX5_ownerOn_X5_needRange : GoodIn wsX5_ownerOn (va_wsS RX5 50 yX5_needRange wsX5_needRange) := goodIn_app (goodIn_of _ (by decide +kernel)) ggX5_ownerOn_X5_needRange
theorem dX5_ownerOn_0 : decode cX5_ownerOn 0 = .ok (.aload_n 0, 1) := by decide +kernel
theorem dX5_ownerOn_1 : decode cX5_ownerOn 1 = .ok (.iload_n 1, 1) := by decide +kernel
theorem dX5_ownerOn_2 : decode cX5_ownerOn 2 = .ok (.invokevirtual 114, 3) := by decide +kernel
theorem dX5_ownerOn_5 : decode cX5_ownerOn 5 = .ok (.astore_n 3, 1) := by decide +kernel
theorem dX5_ownerOn_6 : decode cX5_ownerOn 6 = .ok (.iload_n 2, 1) := by decide +kernel
theorem dX5_ownerOn_7 : decode cX5_ownerOn 7 = .ok (.iconst 0, 1) := by decide +kernel
theorem dX5_ownerOn_8 : decode cX5_ownerOn 8 = .ok (.aload_n 0, 1) := by decide +kernel
theorem dX5_ownerOn_9 : decode cX5_ownerOn 9 = .ok (.getfield 43, 3) := by decide +kernel
theorem dX5_ownerOn_12 : decode cX5_ownerOn 12 = .ok (.invokestatic 50, 3) := by decide +kernel
theorem dX5_ownerOn_15 : decode cX5_ownerOn 15 = .ok (.aload_n 3, 1) := by decide +kernel
theorem dX5_ownerOn_16 : decode cX5_ownerOn 16 = .ok (.getfield 277, 3) := by decide +kernel
theorem dX5_ownerOn_19 : decode cX5_ownerOn 19 = .ok (.astore 4, 2) := by decide +kernel
theorem dX5_ownerOn_21 : decode cX5_ownerOn 21 = .ok (.aload 4, 2) := by decide +kernel
theorem dX5_ownerOn_23 : decode cX5_ownerOn 23 = .ok (.ifnull 28, 3) := by decide +kernel
theorem dX5_ownerOn_26 : decode cX5_ownerOn 26 = .ok (.aload 4, 2) := by decide +kernel
theorem dX5_ownerOn_28 : decode cX5_ownerOn 28 = .ok (.getfield 281, 3) := by decide +kernel
theorem dX5_ownerOn_31 : decode cX5_ownerOn 31 = .ok (.iload_n 2, 1) := by decide +kernel
theorem dX5_ownerOn_32 : decode cX5_ownerOn 32 = .ok (.if_icmp .gt 9, 3) := by decide +kernel
theorem dX5_ownerOn_35 : decode cX5_ownerOn 35 = .ok (.aload 4, 2) := by decide +kernel
theorem dX5_ownerOn_37 : decode cX5_ownerOn 37 = .ok (.getfield 286, 3) := by decide +kernel
theorem dX5_ownerOn_40 : decode cX5_ownerOn 40 = .ok (.ireturn, 1) := by decide +kernel
theorem dX5_ownerOn_41 : decode cX5_ownerOn 41 = .ok (.aload 4, 2) := by decide +kernel
theorem dX5_ownerOn_43 : decode cX5_ownerOn 43 = .ok (.getfield 287, 3) := by decide +kernel
theorem dX5_ownerOn_46 : decode cX5_ownerOn 46 = .ok (.astore 4, 2) := by decide +kernel
theorem dX5_ownerOn_48 : decode cX5_ownerOn 48 = .ok (.goto (-27), 3) := by decide +kernel
theorem dX5_ownerOn_51 : decode cX5_ownerOn 51 = .ok (.iconst (-1), 1) := by decide +kernel
theorem dX5_ownerOn_52 : decode cX5_ownerOn 52 = .ok (.ireturn, 1) := by decide +kernel
theorem dX5_needRange_0 : decode cX5_needRange 0 = .ok (.iload_n 0, 1) := by decide +kernel
theorem dX5_needRange_1 : decode cX5_needRange 1 = .ok (.iload_n 1, 1) := by decide +kernel
theorem dX5_needRange_2 : decode cX5_needRange 2 = .ok (.if_icmp .lt 8, 3) := by decide +kernel
theorem dX5_needRange_5 : decode cX5_needRange 5 = .ok (.iload_n 0, 1) := by decide +kernel
theorem dX5_needRange_6 : decode cX5_needRange 6 = .ok (.iload_n 2, 1) := by decide +kernel
theorem dX5_needRange_7 : decode cX5_needRange 7 = .ok (.if_icmp .le 14, 3) := by decide +kernel
theorem dX5_needRange_10 : decode cX5_needRange 10 = .ok (.new 198, 3) := by decide +kernel
theorem dX5_needRange_13 : decode cX5_needRange 13 = .ok (.dup, 1) := by decide +kernel
theorem dX5_needRange_14 : decode cX5_needRange 14 = .ok (.ldc_w 290, 3) := by decide +kernel
theorem dX5_needRange_17 : decode cX5_needRange 17 = .ok (.invokespecial 202, 3) := by decide +kernel
theorem dX5_needRange_20 : decode cX5_needRange 20 = .ok (.athrow, 1) := by decide +kernel
theorem dX5_needRange_21 : decode cX5_needRange 21 = .ok (.return_, 1) := by decide +kernel
set_option maxRecDepth 20000 in
theorem ggX5_needFreeFor_X2_isLive : GoodIn wsX5_needFreeFor wsX2_isLive := goodIn_r _ [7, 8, 20, 21, 22, 23, 24, 25, 26, 27, 28] (by decide +kernel) (by decide +kernel)
set_option maxRecDepth 20000 in
theorem gX5_needFreeFor_X2_isLive : GoodIn wsX5_needFreeFor (wsV RX5 164 RX2 yX2_isLive wsX2_isLive) := goodIn_app (goodIn_of _ (by decide +kernel)) ggX5_needFreeFor_X2_isLive
set_option maxRecDepth 20000 in
theorem ggX5_needFreeFor_X2_isPledged : GoodIn wsX5_needFreeFor wsX2_isPledged := goodIn_r _ [12, 13, 20, 21, 22, 23, 24, 25, 26, 27, 28] (by decide +kernel) (by decide +kernel)
set_option maxRecDepth 20000 in
theorem gX5_needFreeFor_X2_isPledged : GoodIn wsX5_needFreeFor (wsV RX5 123 RX2 yX2_isPledged wsX2_isPledged) := goodIn_app (goodIn_of _ (by decide +kernel)) ggX5_needFreeFor_X2_isPledged
