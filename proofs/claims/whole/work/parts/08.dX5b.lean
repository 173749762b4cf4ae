set_option maxRecDepth 20000 in
theorem ggX5_needFreeFor_X2_holder : GoodIn wsX5_needFreeFor wsX2_holder := goodIn_r _ [17, 18, 19, 20, 21, 22, 23, 24, 25, 26, 27, 28, 29, 30, 31] (by decide +kernel) (by decide +kernel)
set_option maxRecDepth 20000 in
theorem gX5_needFreeFor_X2_holder : GoodIn wsX5_needFreeFor (wsV RX5 140 RX2 yX2_holder wsX2_holder) := goodIn_app (goodIn_of _ (by decide +kernel)) ggX5_needFreeFor_X2_holder
theorem dX5_needFreeFor_0 : decode cX5_needFreeFor 0 = .ok (.aload_n 0, 1) := by decide +kernel
theorem dX5_needFreeFor_1 : decode cX5_needFreeFor 1 = .ok (.invokevirtual 164, 3) := by decide +kernel
theorem dX5_needFreeFor_4 : decode cX5_needFreeFor 4 = .ok (.ifCond .eq 18, 3) := by decide +kernel
theorem dX5_needFreeFor_7 : decode cX5_needFreeFor 7 = .ok (.aload_n 0, 1) := by decide +kernel
theorem dX5_needFreeFor_8 : decode cX5_needFreeFor 8 = .ok (.invokevirtual 123, 3) := by decide +kernel
theorem dX5_needFreeFor_11 : decode cX5_needFreeFor 11 = .ok (.ifCond .ne 11, 3) := by decide +kernel
theorem dX5_needFreeFor_14 : decode cX5_needFreeFor 14 = .ok (.aload_n 0, 1) := by decide +kernel
theorem dX5_needFreeFor_15 : decode cX5_needFreeFor 15 = .ok (.invokevirtual 140, 3) := by decide +kernel
theorem dX5_needFreeFor_18 : decode cX5_needFreeFor 18 = .ok (.iload_n 1, 1) := by decide +kernel
theorem dX5_needFreeFor_19 : decode cX5_needFreeFor 19 = .ok (.if_icmp .ne 14, 3) := by decide +kernel
theorem dX5_needFreeFor_22 : decode cX5_needFreeFor 22 = .ok (.new 58, 3) := by decide +kernel
theorem dX5_needFreeFor_25 : decode cX5_needFreeFor 25 = .ok (.dup, 1) := by decide +kernel
theorem dX5_needFreeFor_26 : decode cX5_needFreeFor 26 = .ok (.ldc_w 292, 3) := by decide +kernel
theorem dX5_needFreeFor_29 : decode cX5_needFreeFor 29 = .ok (.invokespecial 62, 3) := by decide +kernel
theorem dX5_needFreeFor_32 : decode cX5_needFreeFor 32 = .ok (.athrow, 1) := by decide +kernel
theorem dX5_needFreeFor_33 : decode cX5_needFreeFor 33 = .ok (.return_, 1) := by decide +kernel
set_option maxRecDepth 20000 in
theorem ggX5_findSilo_Jx4a65c_size_8abf5 : GoodIn wsX5_findSilo wsJx4a65c_size_8abf5 := goodIn_r _ [9, 10, 39, 40, 41] (by decide +kernel) (by decide +kernel)
set_option maxRecDepth 20000 in
theorem gX5_findSilo_Jx4a65c_size_8abf5 : GoodIn wsX5_findSilo (wsV RX5 54 RJx4a65c yJx4a65c_size_8abf5 wsJx4a65c_size_8abf5) := goodIn_app (goodIn_of _ (by decide +kernel)) ggX5_findSilo_Jx4a65c_size_8abf5
set_option maxRecDepth 20000 in
theorem ggX5_findSilo_Jx4a65c_get_915e3 : GoodIn wsX5_findSilo wsJx4a65c_get_915e3 := goodIn_r _ [14, 10, 15, 16, 17, 18, 19, 20, 21, 22, 23, 24, 25, 8, 26, 27, 39, 40, 41] (by decide +kernel) (by decide +kernel)
set_option maxRecDepth 20000 in
theorem gX5_findSilo_Jx4a65c_get_915e3 : GoodIn wsX5_findSilo (wsV RX5 260 RJx4a65c yJx4a65c_get_915e3 wsJx4a65c_get_915e3) := goodIn_app (goodIn_of _ (by decide +kernel)) ggX5_findSilo_Jx4a65c_get_915e3
theorem dX5_findSilo_0 : decode cX5_findSilo 0 = .ok (.iload_n 1, 1) := by decide +kernel
theorem dX5_findSilo_1 : decode cX5_findSilo 1 = .ok (.ifCond .lt 14, 3) := by decide +kernel
theorem dX5_findSilo_4 : decode cX5_findSilo 4 = .ok (.iload_n 1, 1) := by decide +kernel
theorem dX5_findSilo_5 : decode cX5_findSilo 5 = .ok (.aload_n 0, 1) := by decide +kernel
theorem dX5_findSilo_6 : decode cX5_findSilo 6 = .ok (.getfield 10, 3) := by decide +kernel
theorem dX5_findSilo_9 : decode cX5_findSilo 9 = .ok (.invokevirtual 54, 3) := by decide +kernel
theorem dX5_findSilo_12 : decode cX5_findSilo 12 = .ok (.if_icmp .lt 14, 3) := by decide +kernel
theorem dX5_findSilo_15 : decode cX5_findSilo 15 = .ok (.new 268, 3) := by decide +kernel
theorem dX5_findSilo_18 : decode cX5_findSilo 18 = .ok (.dup, 1) := by decide +kernel
theorem dX5_findSilo_19 : decode cX5_findSilo 19 = .ok (.ldc_w 294, 3) := by decide +kernel
theorem dX5_findSilo_22 : decode cX5_findSilo 22 = .ok (.invokespecial 272, 3) := by decide +kernel
theorem dX5_findSilo_25 : decode cX5_findSilo 25 = .ok (.athrow, 1) := by decide +kernel
theorem dX5_findSilo_26 : decode cX5_findSilo 26 = .ok (.aload_n 0, 1) := by decide +kernel
theorem dX5_findSilo_27 : decode cX5_findSilo 27 = .ok (.getfield 10, 3) := by decide +kernel
theorem dX5_findSilo_30 : decode cX5_findSilo 30 = .ok (.iload_n 1, 1) := by decide +kernel
theorem dX5_findSilo_31 : decode cX5_findSilo 31 = .ok (.invokevirtual 260, 3) := by decide +kernel
theorem dX5_findSilo_34 : decode cX5_findSilo 34 = .ok (.checkcast 65, 3) := by decide +kernel
theorem dX5_findSilo_37 : decode cX5_findSilo 37 = .ok (.areturn, 1) := by decide +kernel
set_option maxRecDepth 20000 in
theorem ggX5_findDelivery_Jx4a65c_size_8abf5 : GoodIn wsX5_findDelivery wsJx4a65c_size_8abf5 := goodIn_r _ [9, 10, 39, 40, 41] (by decide +kernel) (by decide +kernel)
set_option maxRecDepth 20000 in
theorem gX5_findDelivery_Jx4a65c_size_8abf5 : GoodIn wsX5_findDelivery (wsV RX5 54 RJx4a65c yJx4a65c_size_8abf5 wsJx4a65c_size_8abf5) := goodIn_app (goodIn_of _ (by decide +kernel)) ggX5_findDelivery_Jx4a65c_size_8abf5
set_option maxRecDepth 20000 in
theorem ggX5_findDelivery_Jx4a65c_get_915e3 : GoodIn wsX5_findDelivery wsJx4a65c_get_915e3 := goodIn_r _ [14, 10, 15, 16, 17, 18, 19, 20, 21, 22, 23, 24, 25, 8, 26, 27, 39, 40, 41] (by decide +kernel) (by decide +kernel)
set_option maxRecDepth 20000 in
theorem gX5_findDelivery_Jx4a65c_get_915e3 : GoodIn wsX5_findDelivery (wsV RX5 260 RJx4a65c yJx4a65c_get_915e3 wsJx4a65c_get_915e3) := goodIn_app (goodIn_of _ (by decide +kernel)) ggX5_findDelivery_Jx4a65c_get_915e3
theorem dX5_findDelivery_0 : decode cX5_findDelivery 0 = .ok (.iload_n 1, 1) := by decide +kernel
theorem dX5_findDelivery_1 : decode cX5_findDelivery 1 = .ok (.ifCond .lt 14, 3) := by decide +kernel
theorem dX5_findDelivery_4 : decode cX5_findDelivery 4 = .ok (.iload_n 1, 1) := by decide +kernel
theorem dX5_findDelivery_5 : decode cX5_findDelivery 5 = .ok (.aload_n 0, 1) := by decide +kernel
theorem dX5_findDelivery_6 : decode cX5_findDelivery 6 = .ok (.getfield 16, 3) := by decide +kernel
theorem dX5_findDelivery_9 : decode cX5_findDelivery 9 = .ok (.invokevirtual 54, 3) := by decide +kernel
theorem dX5_findDelivery_12 : decode cX5_findDelivery 12 = .ok (.if_icmp .lt 14, 3) := by decide +kernel
theorem dX5_findDelivery_15 : decode cX5_findDelivery 15 = .ok (.new 268, 3) := by decide +kernel
theorem dX5_findDelivery_18 : decode cX5_findDelivery 18 = .ok (.dup, 1) := by decide +kernel
theorem dX5_findDelivery_19 : decode cX5_findDelivery 19 = .ok (.ldc_w 296, 3) := by decide +kernel
theorem dX5_findDelivery_22 : decode cX5_findDelivery 22 = .ok (.invokespecial 272, 3) := by decide +kernel
theorem dX5_findDelivery_25 : decode cX5_findDelivery 25 = .ok (.athrow, 1) := by decide +kernel
theorem dX5_findDelivery_26 : decode cX5_findDelivery 26 = .ok (.aload_n 0, 1) := by decide +kernel
theorem dX5_findDelivery_27 : decode cX5_findDelivery 27 = .ok (.getfield 16, 3) := by decide +kernel
theorem dX5_findDelivery_30 : decode cX5_findDelivery 30 = .ok (.iload_n 1, 1) := by decide +kernel
theorem dX5_findDelivery_31 : decode cX5_findDelivery 31 = .ok (.invokevirtual 260, 3) := by decide +kernel
theorem dX5_findDelivery_34 : decode cX5_findDelivery 34 = .ok (.checkcast 93, 3) := by decide +kernel
theorem dX5_findDelivery_37 : decode cX5_findDelivery 37 = .ok (.areturn, 1) := by decide +kernel
set_option maxRecDepth 20000 in
theorem ggX5_findReceipt_Jx4a65c_size_8abf5 : GoodIn wsX5_findReceipt wsJx4a65c_size_8abf5 := goodIn_r _ [9, 10, 39, 40, 41] (by decide +kernel) (by decide +kernel)
set_option maxRecDepth 20000 in
theorem gX5_findReceipt_Jx4a65c_size_8abf5 : GoodIn wsX5_findReceipt (wsV RX5 54 RJx4a65c yJx4a65c_size_8abf5 wsJx4a65c_size_8abf5) := goodIn_app (goodIn_of _ (by decide +kernel)) ggX5_findReceipt_Jx4a65c_size_8abf5
set_option maxRecDepth 20000 in
theorem ggX5_findReceipt_Jx4a65c_get_915e3 : GoodIn wsX5_findReceipt wsJx4a65c_get_915e3 := goodIn_r _ [14, 10, 15, 16, 17, 18, 19, 20, 21, 22, 23, 24, 25, 8, 26, 27, 39, 40, 41] (by decide +kernel) (by decide +kernel)
set_option maxRecDepth 20000 in
theorem gX5_findReceipt_Jx4a65c_get_915e3 : GoodIn wsX5_findReceipt (wsV RX5 260 RJx4a65c yJx4a65c_get_915e3 wsJx4a65c_get_915e3) := goodIn_app (goodIn_of _ (by decide +kernel)) ggX5_findReceipt_Jx4a65c_get_915e3
theorem dX5_findReceipt_0 : decode cX5_findReceipt 0 = .ok (.iload_n 1, 1) := by decide +kernel
theorem dX5_findReceipt_1 : decode cX5_findReceipt 1 = .ok (.ifCond .lt 14, 3) := by decide +kernel
theorem dX5_findReceipt_4 : decode cX5_findReceipt 4 = .ok (.iload_n 1, 1) := by decide +kernel
theorem dX5_findReceipt_5 : decode cX5_findReceipt 5 = .ok (.aload_n 0, 1) := by decide +kernel
theorem dX5_findReceipt_6 : decode cX5_findReceipt 6 = .ok (.getfield 19, 3) := by decide +kernel
theorem dX5_findReceipt_9 : decode cX5_findReceipt 9 = .ok (.invokevirtual 54, 3) := by decide +kernel
theorem dX5_findReceipt_12 : decode cX5_findReceipt 12 = .ok (.if_icmp .lt 14, 3) := by decide +kernel
theorem dX5_findReceipt_15 : decode cX5_findReceipt 15 = .ok (.new 268, 3) := by decide +kernel
theorem dX5_findReceipt_18 : decode cX5_findReceipt 18 = .ok (.dup, 1) := by decide +kernel
theorem dX5_findReceipt_19 : decode cX5_findReceipt 19 = .ok (.ldc_w 298, 3) := by decide +kernel
theorem dX5_findReceipt_22 : decode cX5_findReceipt 22 = .ok (.invokespecial 272, 3) := by decide +kernel
theorem dX5_findReceipt_25 : decode cX5_findReceipt 25 = .ok (.athrow, 1) := by decide +kernel
theorem dX5_findReceipt_26 : decode cX5_findReceipt 26 = .ok (.aload_n 0, 1) := by decide +kernel
theorem dX5_findReceipt_27 : decode cX5_findReceipt 27 = .ok (.getfield 19, 3) := by decide +kernel
theorem dX5_findReceipt_30 : decode cX5_findReceipt 30 = .ok (.iload_n 1, 1) := by decide +kernel
theorem dX5_findReceipt_31 : decode cX5_findReceipt 31 = .ok (.invokevirtual 260, 3) := by decide +kernel
theorem dX5_findReceipt_34 : decode cX5_findReceipt 34 = .ok (.checkcast 119, 3) := by decide +kernel
theorem dX5_findReceipt_37 : decode cX5_findReceipt 37 = .ok (.areturn, 1) := by decide +kernel
set_option maxRecDepth 20000 in
theorem ggX5_findContract_Jx4a65c_size_8abf5 : GoodIn wsX5_findContract wsJx4a65c_size_8abf5 := goodIn_r _ [9, 10, 39, 40, 41] (by decide +kernel) (by decide +kernel)
set_option maxRecDepth 20000 in
theorem gX5_findContract_Jx4a65c_size_8abf5 : GoodIn wsX5_findContract (wsV RX5 54 RJx4a65c yJx4a65c_size_8abf5 wsJx4a65c_size_8abf5) := goodIn_app (goodIn_of _ (by decide +kernel)) ggX5_findContract_Jx4a65c_size_8abf5
set_option maxRecDepth 20000 in
theorem ggX5_findContract_Jx4a65c_get_915e3 : GoodIn wsX5_findContract wsJx4a65c_get_915e3 := goodIn_r _ [14, 10, 15, 16, 17, 18, 19, 20, 21, 22, 23, 24, 25, 8, 26, 27, 39, 40, 41] (by decide +kernel) (by decide +kernel)
set_option maxRecDepth 20000 in
theorem gX5_findContract_Jx4a65c_get_915e3 : GoodIn wsX5_findContract (wsV RX5 260 RJx4a65c yJx4a65c_get_915e3 wsJx4a65c_get_915e3) := goodIn_app (goodIn_of _ (by decide +kernel)) ggX5_findContract_Jx4a65c_get_915e3
theorem dX5_findContract_0 : decode cX5_findContract 0 = .ok (.iload_n 1, 1) := by decide +kernel
theorem dX5_findContract_1 : decode cX5_findContract 1 = .ok (.ifCond .lt 14, 3) := by decide +kernel
theorem dX5_findContract_4 : decode cX5_findContract 4 = .ok (.iload_n 1, 1) := by decide +kernel
theorem dX5_findContract_5 : decode cX5_findContract 5 = .ok (.aload_n 0, 1) := by decide +kernel
theorem dX5_findContract_6 : decode cX5_findContract 6 = .ok (.getfield 22, 3) := by decide +kernel
theorem dX5_findContract_9 : decode cX5_findContract 9 = .ok (.invokevirtual 54, 3) := by decide +kernel
theorem dX5_findContract_12 : decode cX5_findContract 12 = .ok (.if_icmp .lt 14, 3) := by decide +kernel
theorem dX5_findContract_15 : decode cX5_findContract 15 = .ok (.new 268, 3) := by decide +kernel
theorem dX5_findContract_18 : decode cX5_findContract 18 = .ok (.dup, 1) := by decide +kernel
theorem dX5_findContract_19 : decode cX5_findContract 19 = .ok (.ldc_w 300, 3) := by decide +kernel
theorem dX5_findContract_22 : decode cX5_findContract 22 = .ok (.invokespecial 272, 3) := by decide +kernel
theorem dX5_findContract_25 : decode cX5_findContract 25 = .ok (.athrow, 1) := by decide +kernel
theorem dX5_findContract_26 : decode cX5_findContract 26 = .ok (.aload_n 0, 1) := by decide +kernel
theorem dX5_findContract_27 : decode cX5_findContract 27 = .ok (.getfield 22, 3) := by decide +kernel
theorem dX5_findContract_30 : decode cX5_findContract 30 = .ok (.iload_n 1, 1) := by decide +kernel
theorem dX5_findContract_31 : decode cX5_findContract 31 = .ok (.invokevirtual 260, 3) := by decide +kernel
theorem dX5_findContract_34 : decode cX5_findContract 34 = .ok (.checkcast 205, 3) := by decide +kernel
theorem dX5_findContract_37 : decode cX5_findContract 37 = .ok (.areturn, 1) := by decide +kernel
set_option maxRecDepth 20000 in
theorem ggX5_receiptsAreFull_Jx4a65c_size_8abf5 : GoodIn wsX5_receiptsAreFull wsJx4a65c_size_8abf5 := goodIn_r _ [6, 7, 19, 20, 21] (by decide +kernel) (by decide +kernel)
set_option maxRecDepth 20000 in
theorem gX5_receiptsAreFull_Jx4a65c_size_8abf5 : GoodIn wsX5_receiptsAreFull (wsV RX5 54 RJx4a65c yJx4a65c_size_8abf5 wsJx4a65c_size_8abf5) := goodIn_app (goodIn_of _ (by decide +kernel)) ggX5_receiptsAreFull_Jx4a65c_size_8abf5
theorem dX5_receiptsAreFull_0 : decode cX5_receiptsAreFull 0 = .ok (.aload_n 0, 1) := by decide +kernel
theorem dX5_receiptsAreFull_1 : decode cX5_receiptsAreFull 1 = .ok (.getfield 19, 3) := by decide +kernel
theorem dX5_receiptsAreFull_4 : decode cX5_receiptsAreFull 4 = .ok (.invokevirtual 54, 3) := by decide +kernel
theorem dX5_receiptsAreFull_7 : decode cX5_receiptsAreFull 7 = .ok (.bipush 80, 2) := by decide +kernel
theorem dX5_receiptsAreFull_9 : decode cX5_receiptsAreFull 9 = .ok (.if_icmp .lt 7, 3) := by decide +kernel
theorem dX5_receiptsAreFull_12 : decode cX5_receiptsAreFull 12 = .ok (.iconst 1, 1) := by decide +kernel
theorem dX5_receiptsAreFull_13 : decode cX5_receiptsAreFull 13 = .ok (.goto 4, 3) := by decide +kernel
theorem dX5_receiptsAreFull_16 : decode cX5_receiptsAreFull 16 = .ok (.iconst 0, 1) := by decide +kernel
theorem dX5_receiptsAreFull_17 : decode cX5_receiptsAreFull 17 = .ok (.ireturn, 1) := by decide +kernel
theorem dX5_pay_0 : decode cX5_pay 0 = .ok (.iload_n 1, 1) := by decide +kernel
theorem dX5_pay_1 : decode cX5_pay 1 = .ok (.ifCond .lt 45, 3) := by decide +kernel
theorem dX5_pay_4 : decode cX5_pay 4 = .ok (.iload_n 1, 1) := by decide +kernel
theorem dX5_pay_5 : decode cX5_pay 5 = .ok (.aload_n 0, 1) := by decide +kernel
theorem dX5_pay_6 : decode cX5_pay 6 = .ok (.getfield 25, 3) := by decide +kernel
theorem dX5_pay_9 : decode cX5_pay 9 = .ok (.arraylength, 1) := by decide +kernel
theorem dX5_pay_10 : decode cX5_pay 10 = .ok (.if_icmp .ge 36, 3) := by decide +kernel
theorem dX5_pay_13 : decode cX5_pay 13 = .ok (.iload_n 2, 1) := by decide +kernel
theorem dX5_pay_14 : decode cX5_pay 14 = .ok (.ifCond .lt 32, 3) := by decide +kernel
theorem dX5_pay_17 : decode cX5_pay 17 = .ok (.iload_n 2, 1) := by decide +kernel
theorem dX5_pay_18 : decode cX5_pay 18 = .ok (.aload_n 0, 1) := by decide +kernel
theorem dX5_pay_19 : decode cX5_pay 19 = .ok (.getfield 25, 3) := by decide +kernel
theorem dX5_pay_22 : decode cX5_pay 22 = .ok (.arraylength, 1) := by decide +kernel
theorem dX5_pay_23 : decode cX5_pay 23 = .ok (.if_icmp .ge 23, 3) := by decide +kernel
theorem dX5_pay_26 : decode cX5_pay 26 = .ok (.aload_n 0, 1) := by decide +kernel
theorem dX5_pay_27 : decode cX5_pay 27 = .ok (.getfield 25, 3) := by decide +kernel
theorem dX5_pay_30 : decode cX5_pay 30 = .ok (.iload_n 1, 1) := by decide +kernel
theorem dX5_pay_31 : decode cX5_pay 31 = .ok (.dup2, 1) := by decide +kernel
theorem dX5_pay_32 : decode cX5_pay 32 = .ok (.laload, 1) := by decide +kernel
theorem dX5_pay_33 : decode cX5_pay 33 = .ok (.lload_n 3, 1) := by decide +kernel
theorem dX5_pay_34 : decode cX5_pay 34 = .ok (.lsub, 1) := by decide +kernel
theorem dX5_pay_35 : decode cX5_pay 35 = .ok (.lastore, 1) := by decide +kernel
theorem dX5_pay_36 : decode cX5_pay 36 = .ok (.aload_n 0, 1) := by decide +kernel
theorem dX5_pay_37 : decode cX5_pay 37 = .ok (.getfield 25, 3) := by decide +kernel
theorem dX5_pay_40 : decode cX5_pay 40 = .ok (.iload_n 2, 1) := by decide +kernel
theorem dX5_pay_41 : decode cX5_pay 41 = .ok (.dup2, 1) := by decide +kernel
theorem dX5_pay_42 : decode cX5_pay 42 = .ok (.laload, 1) := by decide +kernel
theorem dX5_pay_43 : decode cX5_pay 43 = .ok (.lload_n 3, 1) := by decide +kernel
theorem dX5_pay_44 : decode cX5_pay 44 = .ok (.ladd, 1) := by decide +kernel
theorem dX5_pay_45 : decode cX5_pay 45 = .ok (.lastore, 1) := by decide +kernel
theorem dX5_pay_46 : decode cX5_pay 46 = .ok (.return_, 1) := by decide +kernel
theorem dX5_owe_0 : decode cX5_owe 0 = .ok (.iload_n 1, 1) := by decide +kernel
theorem dX5_owe_1 : decode cX5_owe 1 = .ok (.ifCond .lt 22, 3) := by decide +kernel
theorem dX5_owe_4 : decode cX5_owe 4 = .ok (.iload_n 1, 1) := by decide +kernel
theorem dX5_owe_5 : decode cX5_owe 5 = .ok (.aload_n 0, 1) := by decide +kernel
theorem dX5_owe_6 : decode cX5_owe 6 = .ok (.getfield 29, 3) := by decide +kernel
theorem dX5_owe_9 : decode cX5_owe 9 = .ok (.arraylength, 1) := by decide +kernel
theorem dX5_owe_10 : decode cX5_owe 10 = .ok (.if_icmp .ge 13, 3) := by decide +kernel
theorem dX5_owe_13 : decode cX5_owe 13 = .ok (.aload_n 0, 1) := by decide +kernel
theorem dX5_owe_14 : decode cX5_owe 14 = .ok (.getfield 29, 3) := by decide +kernel
theorem dX5_owe_17 : decode cX5_owe 17 = .ok (.iload_n 1, 1) := by decide +kernel
theorem dX5_owe_18 : decode cX5_owe 18 = .ok (.dup2, 1) := by decide +kernel
theorem dX5_owe_19 : decode cX5_owe 19 = .ok (.iaload, 1) := by decide +kernel
theorem dX5_owe_20 : decode cX5_owe 20 = .ok (.iload_n 2, 1) := by decide +kernel
theorem dX5_owe_21 : decode cX5_owe 21 = .ok (.iadd, 1) := by decide +kernel
theorem dX5_owe_22 : decode cX5_owe 22 = .ok (.iastore, 1) := by decide +kernel
theorem dX5_owe_23 : decode cX5_owe 23 = .ok (.return_, 1) := by decide +kernel
theorem dX5_gradeOf_0 : decode cX5_gradeOf 0 = .ok (.iload_n 0, 1) := by decide +kernel
theorem dX5_gradeOf_1 : decode cX5_gradeOf 1 = .ok (.sipush 140, 3) := by decide +kernel
theorem dX5_gradeOf_4 : decode cX5_gradeOf 4 = .ok (.if_icmp .gt 5, 3) := by decide +kernel
theorem dX5_gradeOf_7 : decode cX5_gradeOf 7 = .ok (.iconst 0, 1) := by decide +kernel
theorem dX5_gradeOf_8 : decode cX5_gradeOf 8 = .ok (.ireturn, 1) := by decide +kernel
theorem dX5_gradeOf_9 : decode cX5_gradeOf 9 = .ok (.iload_n 0, 1) := by decide +kernel
theorem dX5_gradeOf_10 : decode cX5_gradeOf 10 = .ok (.sipush 180, 3) := by decide +kernel
theorem dX5_gradeOf_13 : decode cX5_gradeOf 13 = .ok (.if_icmp .gt 7, 3) := by decide +kernel
theorem dX5_gradeOf_16 : decode cX5_gradeOf 16 = .ok (.iconst 1, 1) := by decide +kernel
theorem dX5_gradeOf_17 : decode cX5_gradeOf 17 = .ok (.goto 4, 3) := by decide +kernel
theorem dX5_gradeOf_20 : decode cX5_gradeOf 20 = .ok (.iconst 2, 1) := by decide +kernel
theorem dX5_gradeOf_21 : decode cX5_gradeOf 21 = .ok (.ireturn, 1) := by decide +kernel
theorem dX5_dryWeight_0 : decode cX5_dryWeight 0 = .ok (.iload_n 1, 1) := by decide +kernel
theorem dX5_dryWeight_1 : decode cX5_dryWeight 1 = .ok (.sipush 140, 3) := by decide +kernel
theorem dX5_dryWeight_4 : decode cX5_dryWeight 4 = .ok (.if_icmp .gt 5, 3) := by decide +kernel
theorem dX5_dryWeight_7 : decode cX5_dryWeight 7 = .ok (.iload_n 0, 1) := by decide +kernel
theorem dX5_dryWeight_8 : decode cX5_dryWeight 8 = .ok (.ireturn, 1) := by decide +kernel
theorem dX5_dryWeight_9 : decode cX5_dryWeight 9 = .ok (.iload_n 0, 1) := by decide +kernel
theorem dX5_dryWeight_10 : decode cX5_dryWeight 10 = .ok (.sipush 1000, 3) := by decide +kernel
theorem dX5_dryWeight_13 : decode cX5_dryWeight 13 = .ok (.iload_n 1, 1) := by decide +kernel
theorem dX5_dryWeight_14 : decode cX5_dryWeight 14 = .ok (.isub, 1) := by decide +kernel
theorem dX5_dryWeight_15 : decode cX5_dryWeight 15 = .ok (.imul, 1) := by decide +kernel
theorem dX5_dryWeight_16 : decode cX5_dryWeight 16 = .ok (.sipush 860, 3) := by decide +kernel
theorem dX5_dryWeight_19 : decode cX5_dryWeight 19 = .ok (.idiv, 1) := by decide +kernel
theorem dX5_dryWeight_20 : decode cX5_dryWeight 20 = .ok (.ireturn, 1) := by decide +kernel
set_option maxRecDepth 20000 in
theorem ggX5_siloFor_Jx4a65c_size_8abf5 : GoodIn wsX5_siloFor wsJx4a65c_size_8abf5 := goodIn_r _ [7, 8, 54, 55, 56] (by decide +kernel) (by decide +kernel)
set_option maxRecDepth 20000 in
theorem gX5_siloFor_Jx4a65c_size_8abf5 : GoodIn wsX5_siloFor (wsV RX5 54 RJx4a65c yJx4a65c_size_8abf5 wsJx4a65c_size_8abf5) := goodIn_app (goodIn_of _ (by decide +kernel)) ggX5_siloFor_Jx4a65c_size_8abf5
set_option maxRecDepth 20000 in
theorem ggX5_siloFor_Jx4a65c_get_915e3 : GoodIn wsX5_siloFor wsJx4a65c_get_915e3 := goodIn_r _ [12, 8, 13, 14, 15, 16, 17, 18, 19, 20, 21, 22, 23, 6, 24, 25, 54, 55, 56] (by decide +kernel) (by decide +kernel)
set_option maxRecDepth 20000 in
theorem gX5_siloFor_Jx4a65c_get_915e3 : GoodIn wsX5_siloFor (wsV RX5 260 RJx4a65c yJx4a65c_get_915e3 wsJx4a65c_get_915e3) := goodIn_app (goodIn_of _ (by decide +kernel)) ggX5_siloFor_Jx4a65c_get_915e3
set_option maxRecDepth 20000 in
theorem ggX5_siloFor_X3_isOf : GoodIn wsX5_siloFor wsX3_isOf := goodIn_r _ [30, 31, 32, 33, 57, 58, 59, 60, 61, 62] (by decide +kernel) (by decide +kernel)
set_option maxRecDepth 20000 in
theorem gX5_siloFor_X3_isOf : GoodIn wsX5_siloFor (wsV RX5 182 RX3 yX3_isOf wsX3_isOf) := goodIn_app (goodIn_of _ (by decide +kernel)) ggX5_siloFor_X3_isOf
set_option maxRecDepth 20000 in
theorem ggX5_siloFor_X3_hasRoomFor : GoodIn wsX5_siloFor wsX3_hasRoomFor := goodIn_r _ [37, 38, 31, 57, 58, 59, 60, 61, 62] (by decide +kernel) (by decide +kernel)
set_option maxRecDepth 20000 in
theorem gX5_siloFor_X3_hasRoomFor : GoodIn wsX5_siloFor (wsV RX5 302 RX3 yX3_hasRoomFor wsX3_hasRoomFor) := goodIn_app (goodIn_of _ (by decide +kernel)) ggX5_siloFor_X3_hasRoomFor
set_option maxRecDepth 20000 in
theorem ggX5_siloFor_X3_isEmpty : GoodIn wsX5_siloFor wsX3_isEmpty := goodIn_r _ [42, 31, 57, 58, 59, 60, 61, 62] (by decide +kernel) (by decide +kernel)
set_option maxRecDepth 20000 in
theorem gX5_siloFor_X3_isEmpty : GoodIn wsX5_siloFor (wsV RX5 254 RX3 yX3_isEmpty wsX3_isEmpty) := goodIn_app (goodIn_of _ (by decide +kernel)) ggX5_siloFor_X3_isEmpty
theorem dX5_siloFor_0 : decode cX5_siloFor 0 = .ok (.iconst 0, 1) := by decide +kernel
theorem dX5_siloFor_1 : decode cX5_siloFor 1 = .ok (.istore 4, 2) := by decide +kernel
theorem dX5_siloFor_3 : decode cX5_siloFor 3 = .ok (.iload 4, 2) := by decide +kernel
theorem dX5_siloFor_5 : decode cX5_siloFor 5 = .ok (.aload_n 0, 1) := by decide +kernel
theorem dX5_siloFor_6 : decode cX5_siloFor 6 = .ok (.getfield 10, 3) := by decide +kernel
theorem dX5_siloFor_9 : decode cX5_siloFor 9 = .ok (.invokevirtual 54, 3) := by decide +kernel
theorem dX5_siloFor_12 : decode cX5_siloFor 12 = .ok (.if_icmp .ge 45, 3) := by decide +kernel
theorem dX5_siloFor_15 : decode cX5_siloFor 15 = .ok (.aload_n 0, 1) := by decide +kernel
theorem dX5_siloFor_16 : decode cX5_siloFor 16 = .ok (.getfield 10, 3) := by decide +kernel
theorem dX5_siloFor_19 : decode cX5_siloFor 19 = .ok (.iload 4, 2) := by decide +kernel
theorem dX5_siloFor_21 : decode cX5_siloFor 21 = .ok (.invokevirtual 260, 3) := by decide +kernel
theorem dX5_siloFor_24 : decode cX5_siloFor 24 = .ok (.checkcast 65, 3) := by decide +kernel
theorem dX5_siloFor_27 : decode cX5_siloFor 27 = .ok (.astore 5, 2) := by decide +kernel
theorem dX5_siloFor_29 : decode cX5_siloFor 29 = .ok (.aload 5, 2) := by decide +kernel
theorem dX5_siloFor_31 : decode cX5_siloFor 31 = .ok (.iload_n 1, 1) := by decide +kernel
theorem dX5_siloFor_32 : decode cX5_siloFor 32 = .ok (.iload_n 2, 1) := by decide +kernel
theorem dX5_siloFor_33 : decode cX5_siloFor 33 = .ok (.invokevirtual 182, 3) := by decide +kernel
theorem dX5_siloFor_36 : decode cX5_siloFor 36 = .ok (.ifCond .eq 15, 3) := by decide +kernel
theorem dX5_siloFor_39 : decode cX5_siloFor 39 = .ok (.aload 5, 2) := by decide +kernel
theorem dX5_siloFor_41 : decode cX5_siloFor 41 = .ok (.iload_n 3, 1) := by decide +kernel
theorem dX5_siloFor_42 : decode cX5_siloFor 42 = .ok (.invokevirtual 302, 3) := by decide +kernel
theorem dX5_siloFor_45 : decode cX5_siloFor 45 = .ok (.ifCond .eq 6, 3) := by decide +kernel
theorem dX5_siloFor_48 : decode cX5_siloFor 48 = .ok (.aload 5, 2) := by decide +kernel
theorem dX5_siloFor_50 : decode cX5_siloFor 50 = .ok (.areturn, 1) := by decide +kernel
theorem dX5_siloFor_51 : decode cX5_siloFor 51 = .ok (.iinc 4 1, 3) := by decide +kernel
theorem dX5_siloFor_54 : decode cX5_siloFor 54 = .ok (.goto (-51), 3) := by decide +kernel
theorem dX5_siloFor_57 : decode cX5_siloFor 57 = .ok (.iconst 0, 1) := by decide +kernel
theorem dX5_siloFor_58 : decode cX5_siloFor 58 = .ok (.istore 4, 2) := by decide +kernel
theorem dX5_siloFor_60 : decode cX5_siloFor 60 = .ok (.iload 4, 2) := by decide +kernel
theorem dX5_siloFor_62 : decode cX5_siloFor 62 = .ok (.aload_n 0, 1) := by decide +kernel
theorem dX5_siloFor_63 : decode cX5_siloFor 63 = .ok (.getfield 10, 3) := by decide +kernel
theorem dX5_siloFor_66 : decode cX5_siloFor 66 = .ok (.invokevirtual 54, 3) := by decide +kernel
theorem dX5_siloFor_69 : decode cX5_siloFor 69 = .ok (.if_icmp .ge 43, 3) := by decide +kernel
theorem dX5_siloFor_72 : decode cX5_siloFor 72 = .ok (.aload_n 0, 1) := by decide +kernel
theorem dX5_siloFor_73 : decode cX5_siloFor 73 = .ok (.getfield 10, 3) := by decide +kernel
theorem dX5_siloFor_76 : decode cX5_siloFor 76 = .ok (.iload 4, 2) := by decide +kernel
theorem dX5_siloFor_78 : decode cX5_siloFor 78 = .ok (.invokevirtual 260, 3) := by decide +kernel
theorem dX5_siloFor_81 : decode cX5_siloFor 81 = .ok (.checkcast 65, 3) := by decide +kernel
theorem dX5_siloFor_84 : decode cX5_siloFor 84 = .ok (.astore 5, 2) := by decide +kernel
theorem dX5_siloFor_86 : decode cX5_siloFor 86 = .ok (.aload 5, 2) := by decide +kernel
theorem dX5_siloFor_88 : decode cX5_siloFor 88 = .ok (.invokevirtual 254, 3) := by decide +kernel
theorem dX5_siloFor_91 : decode cX5_siloFor 91 = .ok (.ifCond .eq 15, 3) := by decide +kernel
theorem dX5_siloFor_94 : decode cX5_siloFor 94 = .ok (.aload 5, 2) := by decide +kernel
theorem dX5_siloFor_96 : decode cX5_siloFor 96 = .ok (.iload_n 3, 1) := by decide +kernel
theorem dX5_siloFor_97 : decode cX5_siloFor 97 = .ok (.invokevirtual 302, 3) := by decide +kernel
theorem dX5_siloFor_100 : decode cX5_siloFor 100 = .ok (.ifCond .eq 6, 3) := by decide +kernel
theorem dX5_siloFor_103 : decode cX5_siloFor 103 = .ok (.aload 5, 2) := by decide +kernel
theorem dX5_siloFor_105 : decode cX5_siloFor 105 = .ok (.areturn, 1) := by decide +kernel
theorem dX5_siloFor_106 : decode cX5_siloFor 106 = .ok (.iinc 4 1, 3) := by decide +kernel
theorem dX5_siloFor_109 : decode cX5_siloFor 109 = .ok (.goto (-49), 3) := by decide +kernel
theorem dX5_siloFor_112 : decode cX5_siloFor 112 = .ok (.aconst_null, 1) := by decide +kernel
theorem dX5_siloFor_113 : decode cX5_siloFor 113 = .ok (.areturn, 1) := by decide +kernel
set_option maxRecDepth 20000 in
theorem ggX5_putIn_X5_makeReceipt : GoodIn wsX5_putIn wsX5_makeReceipt := goodIn_r _ [9, 10, 11, 12, 13, 14, 15, 16, 17, 18, 19, 20, 21, 22, 23, 24, 25, 26, 27, 28, 29, 30, 31, 32, 33, 34, 35, 36, 37, 38, 39, 40, 41, 42, 43, 44, 45, 46, 47, 48, 49, 50, 51, 52, 53, 54, 55, 56, 57, 58, 59, 60, 61, 62, 63, 64, 65, 66, 67, 68, 69, 70, 71, 72, 73, 74, 75, 76, 77, 78, 79, 80, 81, 82, 83, 84, 85, 86, 87, 88, 89, 90, 91, 92, 93, 94, 95, 96, 97, 98, 112, 113, 114, 115, 116, 117, 118, 119, 120, 121, 122, 123, 124, 125, 126, 127, 128, 129, 130, 131, 132, 133, 134, 135, 136, 137] (by decide +kernel) (by decide +kernel)
set_option maxRecDepth 20000 in
theorem gX5_putIn_X5_makeReceipt : GoodIn wsX5_putIn (wsV RX5 306 RX5 yX5_makeReceipt wsX5_makeReceipt) := goodIn_app (goodIn_of _ (by decide +kernel)) ggX5_putIn_X5_makeReceipt
theorem dX5_putIn_0 : decode cX5_putIn 0 = .ok (.aload_n 1, 1) := by decide +kernel
theorem dX5_putIn_1 : decode cX5_putIn 1 = .ok (.getfield 176, 3) := by decide +kernel
theorem dX5_putIn_4 : decode cX5_putIn 4 = .ok (.dup, 1) := by decide +kernel
theorem dX5_putIn_5 : decode cX5_putIn 5 = .ok (.getfield 251, 3) := by decide +kernel
theorem dX5_putIn_8 : decode cX5_putIn 8 = .ok (.iload_n 2, 1) := by decide +kernel
theorem dX5_putIn_9 : decode cX5_putIn 9 = .ok (.iadd, 1) := by decide +kernel
theorem dX5_putIn_10 : decode cX5_putIn 10 = .ok (.putfield 251, 3) := by decide +kernel
theorem dX5_putIn_13 : decode cX5_putIn 13 = .ok (.aload_n 0, 1) := by decide +kernel
theorem dX5_putIn_14 : decode cX5_putIn 14 = .ok (.aload_n 1, 1) := by decide +kernel
theorem dX5_putIn_15 : decode cX5_putIn 15 = .ok (.aload_n 1, 1) := by decide +kernel
theorem dX5_putIn_16 : decode cX5_putIn 16 = .ok (.getfield 188, 3) := by decide +kernel
theorem dX5_putIn_19 : decode cX5_putIn 19 = .ok (.iload_n 2, 1) := by decide +kernel
theorem dX5_putIn_20 : decode cX5_putIn 20 = .ok (.invokevirtual 306, 3) := by decide +kernel
theorem dX5_putIn_23 : decode cX5_putIn 23 = .ok (.getfield 132, 3) := by decide +kernel
theorem dX5_putIn_26 : decode cX5_putIn 26 = .ok (.ireturn, 1) := by decide +kernel
set_option maxRecDepth 20000 in
theorem ggX5_takeFrom_X2_isLive : GoodIn wsX5_takeFrom wsX2_isLive := goodIn_r _ [9, 10, 18, 19, 20, 21, 22, 23, 24, 25, 26] (by decide +kernel) (by decide +kernel)
set_option maxRecDepth 20000 in
theorem gX5_takeFrom_X2_isLive : GoodIn wsX5_takeFrom (wsV RX5 164 RX2 yX2_isLive wsX2_isLive) := goodIn_app (goodIn_of _ (by decide +kernel)) ggX5_takeFrom_X2_isLive
set_option maxRecDepth 20000 in
theorem ggX5_takeFrom_X2_endPledge : GoodIn wsX5_takeFrom wsX2_endPledge := goodIn_r _ [14, 15, 16, 17, 18, 19, 20, 21, 22, 23, 24, 25, 26] (by decide +kernel) (by decide +kernel)
set_option maxRecDepth 20000 in
theorem gX5_takeFrom_X2_endPledge : GoodIn wsX5_takeFrom (wsV RX5 161 RX2 yX2_endPledge wsX2_endPledge) := goodIn_app (goodIn_of _ (by decide +kernel)) ggX5_takeFrom_X2_endPledge
theorem dX5_takeFrom_0 : decode cX5_takeFrom 0 = .ok (.aload_n 1, 1) := by decide +kernel
theorem dX5_takeFrom_1 : decode cX5_takeFrom 1 = .ok (.dup, 1) := by decide +kernel
theorem dX5_takeFrom_2 : decode cX5_takeFrom 2 = .ok (.getfield 118, 3) := by decide +kernel
theorem dX5_takeFrom_5 : decode cX5_takeFrom 5 = .ok (.iload_n 2, 1) := by decide +kernel
theorem dX5_takeFrom_6 : decode cX5_takeFrom 6 = .ok (.isub, 1) := by decide +kernel
theorem dX5_takeFrom_7 : decode cX5_takeFrom 7 = .ok (.putfield 118, 3) := by decide +kernel
theorem dX5_takeFrom_10 : decode cX5_takeFrom 10 = .ok (.aload_n 1, 1) := by decide +kernel
theorem dX5_takeFrom_11 : decode cX5_takeFrom 11 = .ok (.getfield 220, 3) := by decide +kernel
theorem dX5_takeFrom_14 : decode cX5_takeFrom 14 = .ok (.getfield 176, 3) := by decide +kernel
theorem dX5_takeFrom_17 : decode cX5_takeFrom 17 = .ok (.dup, 1) := by decide +kernel
theorem dX5_takeFrom_18 : decode cX5_takeFrom 18 = .ok (.getfield 251, 3) := by decide +kernel
theorem dX5_takeFrom_21 : decode cX5_takeFrom 21 = .ok (.iload_n 2, 1) := by decide +kernel
theorem dX5_takeFrom_22 : decode cX5_takeFrom 22 = .ok (.isub, 1) := by decide +kernel
theorem dX5_takeFrom_23 : decode cX5_takeFrom 23 = .ok (.putfield 251, 3) := by decide +kernel
theorem dX5_takeFrom_26 : decode cX5_takeFrom 26 = .ok (.aload_n 1, 1) := by decide +kernel
theorem dX5_takeFrom_27 : decode cX5_takeFrom 27 = .ok (.invokevirtual 164, 3) := by decide +kernel
theorem dX5_takeFrom_30 : decode cX5_takeFrom 30 = .ok (.ifCond .ne 7, 3) := by decide +kernel
theorem dX5_takeFrom_33 : decode cX5_takeFrom 33 = .ok (.aload_n 1, 1) := by decide +kernel
theorem dX5_takeFrom_34 : decode cX5_takeFrom 34 = .ok (.invokevirtual 161, 3) := by decide +kernel
theorem dX5_takeFrom_37 : decode cX5_takeFrom 37 = .ok (.return_, 1) := by decide +kernel
set_option maxRecDepth 20000 in
theorem ggX5_makeReceipt_Jx4a65c_size_8abf5 : GoodIn wsX5_makeReceipt wsJx4a65c_size_8abf5 := goodIn_r _ [14, 15, 113, 114, 115] (by decide +kernel) (by decide +kernel)
set_option maxRecDepth 20000 in
theorem gX5_makeReceipt_Jx4a65c_size_8abf5 : GoodIn wsX5_makeReceipt (wsV RX5 54 RJx4a65c yJx4a65c_size_8abf5 wsJx4a65c_size_8abf5) := goodIn_app (goodIn_of _ (by decide +kernel)) ggX5_makeReceipt_Jx4a65c_size_8abf5
set_option maxRecDepth 20000 in
theorem ggX5_makeReceipt_X4_init : GoodIn wsX5_makeReceipt wsX4_init := goodIn_r _ [18, 19, 20, 21, 22, 23, 24, 110, 111, 112] (by decide +kernel) (by decide +kernel)
set_option maxRecDepth 20000 in
theorem gX5_makeReceipt_X4_init : GoodIn wsX5_makeReceipt (wsX4_init) := ggX5_makeReceipt_X4_init
set_option maxRecDepth 20000 in
theorem ggX5_makeReceipt_X2_init : GoodIn wsX5_makeReceipt wsX2_init := goodIn_r _ [27, 28, 20, 21, 29, 30, 31, 32, 33, 34, 35, 90, 91, 92, 93, 94, 95, 96, 97, 98] (by decide +kernel) (by decide +kernel)
set_option maxRecDepth 20000 in
theorem gX5_makeReceipt_X2_init : GoodIn wsX5_makeReceipt (wsX2_init) := ggX5_makeReceipt_X2_init
set_option maxRecDepth 20000 in
theorem ggX5_makeReceipt_Jx4a65c_add_9ea2d : GoodIn wsX5_makeReceipt wsJx4a65c_add_9ea2d := goodIn_r _ [39, 40, 41, 42, 15, 43, 44, 45, 13, 46, 47, 48, 49, 50, 51, 52, 53, 54, 55, 56, 57, 58, 59, 60, 61, 62, 63, 64, 65, 66, 67, 68, 69, 70, 71, 72, 73, 74, 75, 76, 77, 78, 79, 80, 81, 82, 83, 84, 85, 86, 87, 88, 89, 113, 114, 115] (by decide +kernel) (by decide +kernel)
set_option maxRecDepth 20000 in
theorem gX5_makeReceipt_Jx4a65c_add_9ea2d : GoodIn wsX5_makeReceipt (wsV RX5 70 RJx4a65c yJx4a65c_add_9ea2d wsJx4a65c_add_9ea2d) := goodIn_app (goodIn_of _ (by decide +kernel)) ggX5_makeReceipt_Jx4a65c_add_9ea2d
theorem dX5_makeReceipt_0 : decode cX5_makeReceipt 0 = .ok (.new 119, 3) := by decide +kernel
theorem dX5_makeReceipt_3 : decode cX5_makeReceipt 3 = .ok (.dup, 1) := by decide +kernel
theorem dX5_makeReceipt_4 : decode cX5_makeReceipt 4 = .ok (.aload_n 0, 1) := by decide +kernel
theorem dX5_makeReceipt_5 : decode cX5_makeReceipt 5 = .ok (.getfield 19, 3) := by decide +kernel
theorem dX5_makeReceipt_8 : decode cX5_makeReceipt 8 = .ok (.invokevirtual 54, 3) := by decide +kernel
theorem dX5_makeReceipt_11 : decode cX5_makeReceipt 11 = .ok (.aload_n 1, 1) := by decide +kernel
theorem dX5_makeReceipt_12 : decode cX5_makeReceipt 12 = .ok (.new 282, 3) := by decide +kernel
theorem dX5_makeReceipt_15 : decode cX5_makeReceipt 15 = .ok (.dup, 1) := by decide +kernel
theorem dX5_makeReceipt_16 : decode cX5_makeReceipt 16 = .ok (.aload_n 0, 1) := by decide +kernel
theorem dX5_makeReceipt_17 : decode cX5_makeReceipt 17 = .ok (.getfield 43, 3) := by decide +kernel
theorem dX5_makeReceipt_20 : decode cX5_makeReceipt 20 = .ok (.iload_n 2, 1) := by decide +kernel
theorem dX5_makeReceipt_21 : decode cX5_makeReceipt 21 = .ok (.aconst_null, 1) := by decide +kernel
theorem dX5_makeReceipt_22 : decode cX5_makeReceipt 22 = .ok (.invokespecial 310, 3) := by decide +kernel
theorem dX5_makeReceipt_25 : decode cX5_makeReceipt 25 = .ok (.invokespecial 313, 3) := by decide +kernel
theorem dX5_makeReceipt_28 : decode cX5_makeReceipt 28 = .ok (.astore 4, 2) := by decide +kernel
theorem dX5_makeReceipt_30 : decode cX5_makeReceipt 30 = .ok (.aload 4, 2) := by decide +kernel
theorem dX5_makeReceipt_32 : decode cX5_makeReceipt 32 = .ok (.iload_n 3, 1) := by decide +kernel
theorem dX5_makeReceipt_33 : decode cX5_makeReceipt 33 = .ok (.putfield 118, 3) := by decide +kernel
theorem dX5_makeReceipt_36 : decode cX5_makeReceipt 36 = .ok (.aload_n 0, 1) := by decide +kernel
theorem dX5_makeReceipt_37 : decode cX5_makeReceipt 37 = .ok (.getfield 19, 3) := by decide +kernel
theorem dX5_makeReceipt_40 : decode cX5_makeReceipt 40 = .ok (.aload 4, 2) := by decide +kernel
theorem dX5_makeReceipt_42 : decode cX5_makeReceipt 42 = .ok (.invokevirtual 70, 3) := by decide +kernel
theorem dX5_makeReceipt_45 : decode cX5_makeReceipt 45 = .ok (.pop, 1) := by decide +kernel
theorem dX5_makeReceipt_46 : decode cX5_makeReceipt 46 = .ok (.aload 4, 2) := by decide +kernel
theorem dX5_makeReceipt_48 : decode cX5_makeReceipt 48 = .ok (.areturn, 1) := by decide +kernel
set_option maxRecDepth 20000 in
theorem ggX5_splitOff_X2_holder : GoodIn wsX5_splitOff wsX2_holder := goodIn_r _ [8, 9, 10, 102, 103, 104, 105, 106, 107, 108, 109, 110, 111, 112, 113] (by decide +kernel) (by decide +kernel)
set_option maxRecDepth 20000 in
theorem gX5_splitOff_X2_holder : GoodIn wsX5_splitOff (wsV RX5 140 RX2 yX2_holder wsX2_holder) := goodIn_app (goodIn_of _ (by decide +kernel)) ggX5_splitOff_X2_holder
set_option maxRecDepth 20000 in
theorem ggX5_splitOff_X5_makeReceipt : GoodIn wsX5_splitOff wsX5_makeReceipt := goodIn_r _ [15, 16, 17, 7, 18, 19, 20, 21, 22, 3, 23, 24, 25, 26, 27, 28, 29, 30, 31, 32, 33, 34, 35, 36, 37, 38, 39, 40, 41, 42, 43, 9, 44, 45, 46, 47, 48, 49, 50, 51, 52, 53, 54, 55, 56, 57, 58, 59, 60, 61, 62, 63, 64, 65, 66, 67, 68, 69, 70, 71, 72, 73, 74, 75, 76, 77, 78, 79, 80, 81, 82, 83, 84, 85, 86, 87, 88, 89, 90, 91, 92, 93, 94, 95, 96, 97, 98, 99, 100, 101, 102, 103, 104, 105, 106, 107, 108, 109, 110, 114, 115, 116, 117, 118, 119, 120, 121, 122, 123, 124, 111, 112, 113, 125, 126, 127] (by decide +kernel) (by decide +kernel)
set_option maxRecDepth 20000 in
theorem gX5_splitOff_X5_makeReceipt : GoodIn wsX5_splitOff (wsV RX5 306 RX5 yX5_makeReceipt wsX5_makeReceipt) := goodIn_app (goodIn_of _ (by decide +kernel)) ggX5_splitOff_X5_makeReceipt
theorem dX5_splitOff_0 : decode cX5_splitOff 0 = .ok (.aload_n 0, 1) := by decide +kernel
theorem dX5_splitOff_1 : decode cX5_splitOff 1 = .ok (.aload_n 1, 1) := by decide +kernel
theorem dX5_splitOff_2 : decode cX5_splitOff 2 = .ok (.getfield 220, 3) := by decide +kernel
theorem dX5_splitOff_5 : decode cX5_splitOff 5 = .ok (.aload_n 1, 1) := by decide +kernel
theorem dX5_splitOff_6 : decode cX5_splitOff 6 = .ok (.invokevirtual 140, 3) := by decide +kernel
theorem dX5_splitOff_9 : decode cX5_splitOff 9 = .ok (.iload_n 2, 1) := by decide +kernel
theorem dX5_splitOff_10 : decode cX5_splitOff 10 = .ok (.invokevirtual 306, 3) := by decide +kernel
theorem dX5_splitOff_13 : decode cX5_splitOff 13 = .ok (.astore_n 3, 1) := by decide +kernel
theorem dX5_splitOff_14 : decode cX5_splitOff 14 = .ok (.aload_n 3, 1) := by decide +kernel
theorem dX5_splitOff_15 : decode cX5_splitOff 15 = .ok (.aload_n 1, 1) := by decide +kernel
theorem dX5_splitOff_16 : decode cX5_splitOff 16 = .ok (.getfield 226, 3) := by decide +kernel
theorem dX5_splitOff_19 : decode cX5_splitOff 19 = .ok (.putfield 226, 3) := by decide +kernel
theorem dX5_splitOff_22 : decode cX5_splitOff 22 = .ok (.aload_n 1, 1) := by decide +kernel
theorem dX5_splitOff_23 : decode cX5_splitOff 23 = .ok (.dup, 1) := by decide +kernel
theorem dX5_splitOff_24 : decode cX5_splitOff 24 = .ok (.getfield 118, 3) := by decide +kernel
theorem dX5_splitOff_27 : decode cX5_splitOff 27 = .ok (.iload_n 2, 1) := by decide +kernel
theorem dX5_splitOff_28 : decode cX5_splitOff 28 = .ok (.isub, 1) := by decide +kernel
theorem dX5_splitOff_29 : decode cX5_splitOff 29 = .ok (.putfield 118, 3) := by decide +kernel
theorem dX5_splitOff_32 : decode cX5_splitOff 32 = .ok (.aload_n 3, 1) := by decide +kernel
theorem dX5_splitOff_33 : decode cX5_splitOff 33 = .ok (.areturn, 1) := by decide +kernel
set_option maxRecDepth 20000 in
theorem ggX5_changeHolder_X4_init : GoodIn wsX5_changeHolder wsX4_init := goodIn_r _ [12, 13, 14, 15, 16, 17, 18, 28, 29, 30] (by decide +kernel) (by decide +kernel)
set_option maxRecDepth 20000 in
theorem gX5_changeHolder_X4_init : GoodIn wsX5_changeHolder (wsX4_init) := ggX5_changeHolder_X4_init
theorem dX5_changeHolder_0 : decode cX5_changeHolder 0 = .ok (.aload_n 1, 1) := by decide +kernel
theorem dX5_changeHolder_1 : decode cX5_changeHolder 1 = .ok (.aconst_null, 1) := by decide +kernel
theorem dX5_changeHolder_2 : decode cX5_changeHolder 2 = .ok (.putfield 226, 3) := by decide +kernel
theorem dX5_changeHolder_5 : decode cX5_changeHolder 5 = .ok (.aload_n 1, 1) := by decide +kernel
theorem dX5_changeHolder_6 : decode cX5_changeHolder 6 = .ok (.getfield 277, 3) := by decide +kernel
theorem dX5_changeHolder_9 : decode cX5_changeHolder 9 = .ok (.astore_n 3, 1) := by decide +kernel
theorem dX5_changeHolder_10 : decode cX5_changeHolder 10 = .ok (.aload_n 3, 1) := by decide +kernel
theorem dX5_changeHolder_11 : decode cX5_changeHolder 11 = .ok (.getfield 281, 3) := by decide +kernel
theorem dX5_changeHolder_14 : decode cX5_changeHolder 14 = .ok (.aload_n 0, 1) := by decide +kernel
theorem dX5_changeHolder_15 : decode cX5_changeHolder 15 = .ok (.getfield 43, 3) := by decide +kernel
theorem dX5_changeHolder_18 : decode cX5_changeHolder 18 = .ok (.if_icmp .eq 13, 3) := by decide +kernel
theorem dX5_changeHolder_21 : decode cX5_changeHolder 21 = .ok (.aload_n 0, 1) := by decide +kernel
theorem dX5_changeHolder_22 : decode cX5_changeHolder 22 = .ok (.getfield 46, 3) := by decide +kernel
theorem dX5_changeHolder_25 : decode cX5_changeHolder 25 = .ok (.sipush 4096, 3) := by decide +kernel
theorem dX5_changeHolder_28 : decode cX5_changeHolder 28 = .ok (.if_icmp .lt 11, 3) := by decide +kernel
theorem dX5_changeHolder_31 : decode cX5_changeHolder 31 = .ok (.aload_n 3, 1) := by decide +kernel
theorem dX5_changeHolder_32 : decode cX5_changeHolder 32 = .ok (.iload_n 2, 1) := by decide +kernel
theorem dX5_changeHolder_33 : decode cX5_changeHolder 33 = .ok (.putfield 286, 3) := by decide +kernel
theorem dX5_changeHolder_36 : decode cX5_changeHolder 36 = .ok (.goto 30, 3) := by decide +kernel
theorem dX5_changeHolder_39 : decode cX5_changeHolder 39 = .ok (.aload_n 1, 1) := by decide +kernel
theorem dX5_changeHolder_40 : decode cX5_changeHolder 40 = .ok (.new 282, 3) := by decide +kernel
theorem dX5_changeHolder_43 : decode cX5_changeHolder 43 = .ok (.dup, 1) := by decide +kernel
theorem dX5_changeHolder_44 : decode cX5_changeHolder 44 = .ok (.aload_n 0, 1) := by decide +kernel
theorem dX5_changeHolder_45 : decode cX5_changeHolder 45 = .ok (.getfield 43, 3) := by decide +kernel
theorem dX5_changeHolder_48 : decode cX5_changeHolder 48 = .ok (.iload_n 2, 1) := by decide +kernel
theorem dX5_changeHolder_49 : decode cX5_changeHolder 49 = .ok (.aload_n 3, 1) := by decide +kernel
theorem dX5_changeHolder_50 : decode cX5_changeHolder 50 = .ok (.invokespecial 310, 3) := by decide +kernel
theorem dX5_changeHolder_53 : decode cX5_changeHolder 53 = .ok (.putfield 277, 3) := by decide +kernel
theorem dX5_changeHolder_56 : decode cX5_changeHolder 56 = .ok (.aload_n 0, 1) := by decide +kernel
theorem dX5_changeHolder_57 : decode cX5_changeHolder 57 = .ok (.dup, 1) := by decide +kernel
theorem dX5_changeHolder_58 : decode cX5_changeHolder 58 = .ok (.getfield 46, 3) := by decide +kernel
theorem dX5_changeHolder_61 : decode cX5_changeHolder 61 = .ok (.iconst 1, 1) := by decide +kernel
theorem dX5_changeHolder_62 : decode cX5_changeHolder 62 = .ok (.iadd, 1) := by decide +kernel
theorem dX5_changeHolder_63 : decode cX5_changeHolder 63 = .ok (.putfield 46, 3) := by decide +kernel
theorem dX5_changeHolder_66 : decode cX5_changeHolder 66 = .ok (.return_, 1) := by decide +kernel
set_option maxRecDepth 20000 in
theorem ggX5_takeBack_Jx4a65c_size_8abf5 : GoodIn wsX5_takeBack wsJx4a65c_size_8abf5 := goodIn_r _ [10, 11, 110, 111, 112] (by decide +kernel) (by decide +kernel)
set_option maxRecDepth 20000 in
theorem gX5_takeBack_Jx4a65c_size_8abf5 : GoodIn wsX5_takeBack (wsV RX5 54 RJx4a65c yJx4a65c_size_8abf5 wsJx4a65c_size_8abf5) := goodIn_app (goodIn_of _ (by decide +kernel)) ggX5_takeBack_Jx4a65c_size_8abf5
set_option maxRecDepth 20000 in
theorem ggX5_takeBack_Jx4a65c_get_915e3 : GoodIn wsX5_takeBack wsJx4a65c_get_915e3 := goodIn_r _ [15, 11, 16, 17, 18, 19, 20, 21, 22, 23, 24, 25, 26, 9, 27, 28, 110, 111, 112] (by decide +kernel) (by decide +kernel)
set_option maxRecDepth 20000 in
theorem gX5_takeBack_Jx4a65c_get_915e3 : GoodIn wsX5_takeBack (wsV RX5 260 RJx4a65c yJx4a65c_get_915e3 wsJx4a65c_get_915e3) := goodIn_app (goodIn_of _ (by decide +kernel)) ggX5_takeBack_Jx4a65c_get_915e3
set_option maxRecDepth 20000 in
theorem ggX5_takeBack_X5_takeBackFrom : GoodIn wsX5_takeBack wsX5_takeBackFrom := goodIn_r _ [33, 34, 35, 36, 37, 38, 39, 40, 41, 42, 43, 44, 45, 46, 47, 48, 32, 49, 50, 51, 52, 53, 54, 55, 56, 57, 58, 59, 60, 61, 62, 63, 64, 3, 5, 65, 66, 67, 68, 69, 70, 71, 72, 73, 74, 75, 76, 77, 94, 95, 96, 97, 98, 99, 100, 101, 102, 113, 114, 115, 83, 84, 85, 86, 87, 88, 89, 90, 91, 92, 93, 116, 117, 118, 119, 120, 121, 122, 123, 124, 125, 126, 103, 104, 105, 106, 107, 108, 109, 127, 128, 129, 130, 131, 132] (by decide +kernel) (by decide +kernel)
set_option maxRecDepth 20000 in
theorem gX5_takeBack_X5_takeBackFrom : GoodIn wsX5_takeBack (wsV RX5 316 RX5 yX5_takeBackFrom wsX5_takeBackFrom) := goodIn_app (goodIn_of _ (by decide +kernel)) ggX5_takeBack_X5_takeBackFrom
set_option maxRecDepth 20000 in
theorem ggX5_takeBack_X2_holder : GoodIn wsX5_takeBack wsX2_holder := goodIn_r _ [43, 44, 45, 94, 95, 96, 97, 98, 99, 100, 101, 102, 113, 114, 115] (by decide +kernel) (by decide +kernel)
set_option maxRecDepth 20000 in
theorem gX5_takeBack_X2_holder : GoodIn wsX5_takeBack (wsV RX5 140 RX2 yX2_holder wsX2_holder) := goodIn_app (goodIn_of _ (by decide +kernel)) ggX5_takeBack_X2_holder
set_option maxRecDepth 20000 in
theorem ggX5_takeBack_X5_owe : GoodIn wsX5_takeBack wsX5_owe := goodIn_r _ [81, 82, 83, 84, 85, 86, 87, 88, 89, 90, 91, 92, 93] (by decide +kernel) (by decide +kernel)
set_option maxRecDepth 20000 in
theorem gX5_takeBack_X5_owe : GoodIn wsX5_takeBack (wsV RX5 190 RX5 yX5_owe wsX5_owe) := goodIn_app (goodIn_of _ (by decide +kernel)) ggX5_takeBack_X5_owe
theorem dX5_takeBack_0 : decode cX5_takeBack 0 = .ok (.iload_n 2, 1) := by decide +kernel
theorem dX5_takeBack_1 : decode cX5_takeBack 1 = .ok (.istore_n 3, 1) := by decide +kernel
theorem dX5_takeBack_2 : decode cX5_takeBack 2 = .ok (.iconst 0, 1) := by decide +kernel
theorem dX5_takeBack_3 : decode cX5_takeBack 3 = .ok (.istore 4, 2) := by decide +kernel
theorem dX5_takeBack_5 : decode cX5_takeBack 5 = .ok (.iload 4, 2) := by decide +kernel
theorem dX5_takeBack_7 : decode cX5_takeBack 7 = .ok (.aload_n 0, 1) := by decide +kernel
theorem dX5_takeBack_8 : decode cX5_takeBack 8 = .ok (.getfield 19, 3) := by decide +kernel
theorem dX5_takeBack_11 : decode cX5_takeBack 11 = .ok (.invokevirtual 54, 3) := by decide +kernel
theorem dX5_takeBack_14 : decode cX5_takeBack 14 = .ok (.if_icmp .ge 50, 3) := by decide +kernel
theorem dX5_takeBack_17 : decode cX5_takeBack 17 = .ok (.iload_n 3, 1) := by decide +kernel
theorem dX5_takeBack_18 : decode cX5_takeBack 18 = .ok (.ifCond .le 46, 3) := by decide +kernel
theorem dX5_takeBack_21 : decode cX5_takeBack 21 = .ok (.aload_n 0, 1) := by decide +kernel
theorem dX5_takeBack_22 : decode cX5_takeBack 22 = .ok (.getfield 19, 3) := by decide +kernel
theorem dX5_takeBack_25 : decode cX5_takeBack 25 = .ok (.iload 4, 2) := by decide +kernel
theorem dX5_takeBack_27 : decode cX5_takeBack 27 = .ok (.invokevirtual 260, 3) := by decide +kernel
theorem dX5_takeBack_30 : decode cX5_takeBack 30 = .ok (.checkcast 119, 3) := by decide +kernel
theorem dX5_takeBack_33 : decode cX5_takeBack 33 = .ok (.astore 5, 2) := by decide +kernel
theorem dX5_takeBack_35 : decode cX5_takeBack 35 = .ok (.aload 5, 2) := by decide +kernel
theorem dX5_takeBack_37 : decode cX5_takeBack 37 = .ok (.getfield 220, 3) := by decide +kernel
theorem dX5_takeBack_40 : decode cX5_takeBack 40 = .ok (.aload_n 1, 1) := by decide +kernel
theorem dX5_takeBack_41 : decode cX5_takeBack 41 = .ok (.if_acmp .ne 17, 3) := by decide +kernel
theorem dX5_takeBack_44 : decode cX5_takeBack 44 = .ok (.iload_n 3, 1) := by decide +kernel
theorem dX5_takeBack_45 : decode cX5_takeBack 45 = .ok (.aload_n 0, 1) := by decide +kernel
theorem dX5_takeBack_46 : decode cX5_takeBack 46 = .ok (.aload 5, 2) := by decide +kernel
theorem dX5_takeBack_48 : decode cX5_takeBack 48 = .ok (.aload_n 1, 1) := by decide +kernel
theorem dX5_takeBack_49 : decode cX5_takeBack 49 = .ok (.getfield 188, 3) := by decide +kernel
theorem dX5_takeBack_52 : decode cX5_takeBack 52 = .ok (.iload_n 3, 1) := by decide +kernel
theorem dX5_takeBack_53 : decode cX5_takeBack 53 = .ok (.invokevirtual 316, 3) := by decide +kernel
theorem dX5_takeBack_56 : decode cX5_takeBack 56 = .ok (.isub, 1) := by decide +kernel
theorem dX5_takeBack_57 : decode cX5_takeBack 57 = .ok (.istore_n 3, 1) := by decide +kernel
theorem dX5_takeBack_58 : decode cX5_takeBack 58 = .ok (.iinc 4 1, 3) := by decide +kernel
theorem dX5_takeBack_61 : decode cX5_takeBack 61 = .ok (.goto (-56), 3) := by decide +kernel
theorem dX5_takeBack_64 : decode cX5_takeBack 64 = .ok (.iconst 0, 1) := by decide +kernel
theorem dX5_takeBack_65 : decode cX5_takeBack 65 = .ok (.istore 4, 2) := by decide +kernel
theorem dX5_takeBack_67 : decode cX5_takeBack 67 = .ok (.iload 4, 2) := by decide +kernel
theorem dX5_takeBack_69 : decode cX5_takeBack 69 = .ok (.aload_n 0, 1) := by decide +kernel
theorem dX5_takeBack_70 : decode cX5_takeBack 70 = .ok (.getfield 19, 3) := by decide +kernel
theorem dX5_takeBack_73 : decode cX5_takeBack 73 = .ok (.invokevirtual 54, 3) := by decide +kernel
theorem dX5_takeBack_76 : decode cX5_takeBack 76 = .ok (.if_icmp .ge 68, 3) := by decide +kernel
theorem dX5_takeBack_79 : decode cX5_takeBack 79 = .ok (.iload_n 3, 1) := by decide +kernel
theorem dX5_takeBack_80 : decode cX5_takeBack 80 = .ok (.ifCond .le 64, 3) := by decide +kernel
theorem dX5_takeBack_83 : decode cX5_takeBack 83 = .ok (.aload_n 0, 1) := by decide +kernel
theorem dX5_takeBack_84 : decode cX5_takeBack 84 = .ok (.getfield 19, 3) := by decide +kernel
theorem dX5_takeBack_87 : decode cX5_takeBack 87 = .ok (.iload 4, 2) := by decide +kernel
theorem dX5_takeBack_89 : decode cX5_takeBack 89 = .ok (.invokevirtual 260, 3) := by decide +kernel
theorem dX5_takeBack_92 : decode cX5_takeBack 92 = .ok (.checkcast 119, 3) := by decide +kernel
theorem dX5_takeBack_95 : decode cX5_takeBack 95 = .ok (.astore 5, 2) := by decide +kernel
theorem dX5_takeBack_97 : decode cX5_takeBack 97 = .ok (.aload 5, 2) := by decide +kernel
theorem dX5_takeBack_99 : decode cX5_takeBack 99 = .ok (.getfield 220, 3) := by decide +kernel
theorem dX5_takeBack_102 : decode cX5_takeBack 102 = .ok (.getfield 176, 3) := by decide +kernel
theorem dX5_takeBack_105 : decode cX5_takeBack 105 = .ok (.aload_n 1, 1) := by decide +kernel
theorem dX5_takeBack_106 : decode cX5_takeBack 106 = .ok (.getfield 176, 3) := by decide +kernel
theorem dX5_takeBack_109 : decode cX5_takeBack 109 = .ok (.if_acmp .ne 29, 3) := by decide +kernel
theorem dX5_takeBack_112 : decode cX5_takeBack 112 = .ok (.aload 5, 2) := by decide +kernel
theorem dX5_takeBack_114 : decode cX5_takeBack 114 = .ok (.invokevirtual 140, 3) := by decide +kernel
theorem dX5_takeBack_117 : decode cX5_takeBack 117 = .ok (.aload_n 1, 1) := by decide +kernel
theorem dX5_takeBack_118 : decode cX5_takeBack 118 = .ok (.getfield 188, 3) := by decide +kernel
theorem dX5_takeBack_121 : decode cX5_takeBack 121 = .ok (.if_icmp .ne 17, 3) := by decide +kernel
theorem dX5_takeBack_124 : decode cX5_takeBack 124 = .ok (.iload_n 3, 1) := by decide +kernel
theorem dX5_takeBack_125 : decode cX5_takeBack 125 = .ok (.aload_n 0, 1) := by decide +kernel
theorem dX5_takeBack_126 : decode cX5_takeBack 126 = .ok (.aload 5, 2) := by decide +kernel
theorem dX5_takeBack_128 : decode cX5_takeBack 128 = .ok (.aload_n 1, 1) := by decide +kernel
theorem dX5_takeBack_129 : decode cX5_takeBack 129 = .ok (.getfield 188, 3) := by decide +kernel
theorem dX5_takeBack_132 : decode cX5_takeBack 132 = .ok (.iload_n 3, 1) := by decide +kernel
theorem dX5_takeBack_133 : decode cX5_takeBack 133 = .ok (.invokevirtual 316, 3) := by decide +kernel
theorem dX5_takeBack_136 : decode cX5_takeBack 136 = .ok (.isub, 1) := by decide +kernel
theorem dX5_takeBack_137 : decode cX5_takeBack 137 = .ok (.istore_n 3, 1) := by decide +kernel
theorem dX5_takeBack_138 : decode cX5_takeBack 138 = .ok (.iinc 4 1, 3) := by decide +kernel
theorem dX5_takeBack_141 : decode cX5_takeBack 141 = .ok (.goto (-74), 3) := by decide +kernel
theorem dX5_takeBack_144 : decode cX5_takeBack 144 = .ok (.aload_n 0, 1) := by decide +kernel
theorem dX5_takeBack_145 : decode cX5_takeBack 145 = .ok (.aload_n 1, 1) := by decide +kernel
theorem dX5_takeBack_146 : decode cX5_takeBack 146 = .ok (.getfield 188, 3) := by decide +kernel
theorem dX5_takeBack_149 : decode cX5_takeBack 149 = .ok (.iload_n 3, 1) := by decide +kernel
theorem dX5_takeBack_150 : decode cX5_takeBack 150 = .ok (.invokevirtual 190, 3) := by decide +kernel
theorem dX5_takeBack_153 : decode cX5_takeBack 153 = .ok (.return_, 1) := by decide +kernel
set_option maxRecDepth 20000 in
theorem ggX5_takeBackFrom_X2_holder : GoodIn wsX5_takeBackFrom wsX2_holder := goodIn_r _ [10, 11, 12, 48, 49, 50, 51, 52, 53, 54, 55, 56, 57, 58, 59] (by decide +kernel) (by decide +kernel)
set_option maxRecDepth 20000 in
theorem gX5_takeBackFrom_X2_holder : GoodIn wsX5_takeBackFrom (wsV RX5 140 RX2 yX2_holder wsX2_holder) := goodIn_app (goodIn_of _ (by decide +kernel)) ggX5_takeBackFrom_X2_holder
set_option maxRecDepth 20000 in
theorem ggX5_takeBackFrom_X5_payForTaken : GoodIn wsX5_takeBackFrom wsX5_payForTaken := goodIn_r _ [17, 18, 19, 20, 21, 22, 23, 6, 7, 8, 9, 10, 11, 12, 24, 25, 26, 16, 27, 28, 48, 49, 50, 51, 52, 53, 54, 55, 56, 60, 61, 62, 63, 64, 65, 66, 67, 68, 69, 70, 71, 72, 73, 74, 75, 76, 77, 78, 79, 80, 81, 57, 58, 59] (by decide +kernel) (by decide +kernel)
set_option maxRecDepth 20000 in
theorem gX5_takeBackFrom_X5_payForTaken : GoodIn wsX5_takeBackFrom (wsV RX5 325 RX5 yX5_payForTaken wsX5_payForTaken) := goodIn_app (goodIn_of _ (by decide +kernel)) ggX5_takeBackFrom_X5_payForTaken
set_option maxRecDepth 20000 in
theorem ggX5_takeBackFrom_X5_takeFrom : GoodIn wsX5_takeBackFrom wsX5_takeFrom := goodIn_r _ [32, 1, 33, 34, 35, 36, 37, 38, 9, 39, 40, 41, 42, 43, 44, 45, 46, 47, 48, 49, 50, 51, 52, 53, 54, 55, 56, 82, 83, 84, 85, 86, 87, 88, 89, 90, 91, 92, 93, 94] (by decide +kernel) (by decide +kernel)
set_option maxRecDepth 20000 in
theorem gX5_takeBackFrom_X5_takeFrom : GoodIn wsX5_takeBackFrom (wsV RX5 169 RX5 yX5_takeFrom wsX5_takeFrom) := goodIn_app (goodIn_of _ (by decide +kernel)) ggX5_takeBackFrom_X5_takeFrom
theorem dX5_takeBackFrom_0 : decode cX5_takeBackFrom 0 = .ok (.aload_n 1, 1) := by decide +kernel
theorem dX5_takeBackFrom_1 : decode cX5_takeBackFrom 1 = .ok (.getfield 118, 3) := by decide +kernel
theorem dX5_takeBackFrom_4 : decode cX5_takeBackFrom 4 = .ok (.iload_n 3, 1) := by decide +kernel
theorem dX5_takeBackFrom_5 : decode cX5_takeBackFrom 5 = .ok (.invokestatic 320, 3) := by decide +kernel
theorem dX5_takeBackFrom_8 : decode cX5_takeBackFrom 8 = .ok (.istore 4, 2) := by decide +kernel
theorem dX5_takeBackFrom_10 : decode cX5_takeBackFrom 10 = .ok (.aload_n 1, 1) := by decide +kernel
theorem dX5_takeBackFrom_11 : decode cX5_takeBackFrom 11 = .ok (.invokevirtual 140, 3) := by decide +kernel
theorem dX5_takeBackFrom_14 : decode cX5_takeBackFrom 14 = .ok (.iload_n 2, 1) := by decide +kernel
theorem dX5_takeBackFrom_15 : decode cX5_takeBackFrom 15 = .ok (.if_icmp .eq 11, 3) := by decide +kernel
theorem dX5_takeBackFrom_18 : decode cX5_takeBackFrom 18 = .ok (.aload_n 0, 1) := by decide +kernel
theorem dX5_takeBackFrom_19 : decode cX5_takeBackFrom 19 = .ok (.aload_n 1, 1) := by decide +kernel
theorem dX5_takeBackFrom_20 : decode cX5_takeBackFrom 20 = .ok (.iload_n 2, 1) := by decide +kernel
theorem dX5_takeBackFrom_21 : decode cX5_takeBackFrom 21 = .ok (.iload 4, 2) := by decide +kernel
theorem dX5_takeBackFrom_23 : decode cX5_takeBackFrom 23 = .ok (.invokevirtual 325, 3) := by decide +kernel
theorem dX5_takeBackFrom_26 : decode cX5_takeBackFrom 26 = .ok (.aload_n 0, 1) := by decide +kernel
theorem dX5_takeBackFrom_27 : decode cX5_takeBackFrom 27 = .ok (.aload_n 1, 1) := by decide +kernel
theorem dX5_takeBackFrom_28 : decode cX5_takeBackFrom 28 = .ok (.iload 4, 2) := by decide +kernel
theorem dX5_takeBackFrom_30 : decode cX5_takeBackFrom 30 = .ok (.invokevirtual 169, 3) := by decide +kernel
theorem dX5_takeBackFrom_33 : decode cX5_takeBackFrom 33 = .ok (.iload 4, 2) := by decide +kernel
theorem dX5_takeBackFrom_35 : decode cX5_takeBackFrom 35 = .ok (.ireturn, 1) := by decide +kernel
set_option maxRecDepth 20000 in
theorem ggX5_payForTaken_X2_holder : GoodIn wsX5_payForTaken wsX2_holder := goodIn_r _ [11, 12, 13, 20, 21, 22, 23, 24, 25, 26, 27, 28, 51, 52, 53] (by decide +kernel) (by decide +kernel)
set_option maxRecDepth 20000 in
theorem gX5_payForTaken_X2_holder : GoodIn wsX5_payForTaken (wsV RX5 140 RX2 yX2_holder wsX2_holder) := goodIn_app (goodIn_of _ (by decide +kernel)) ggX5_payForTaken_X2_holder
set_option maxRecDepth 20000 in
theorem ggX5_payForTaken_X5_pay : GoodIn wsX5_payForTaken wsX5_pay := goodIn_r _ [18, 19, 29, 30, 31, 32, 33, 34, 35, 36, 37, 38, 39] (by decide +kernel) (by decide +kernel)
set_option maxRecDepth 20000 in
theorem gX5_payForTaken_X5_pay : GoodIn wsX5_payForTaken (wsV RX5 143 RX5 yX5_pay wsX5_pay) := goodIn_app (goodIn_of _ (by decide +kernel)) ggX5_payForTaken_X5_pay
theorem dX5_payForTaken_0 : decode cX5_payForTaken 0 = .ok (.aload_n 1, 1) := by decide +kernel
theorem dX5_payForTaken_1 : decode cX5_payForTaken 1 = .ok (.getfield 226, 3) := by decide +kernel
theorem dX5_payForTaken_4 : decode cX5_payForTaken 4 = .ok (.astore 4, 2) := by decide +kernel
theorem dX5_payForTaken_6 : decode cX5_payForTaken 6 = .ok (.aload 4, 2) := by decide +kernel
theorem dX5_payForTaken_8 : decode cX5_payForTaken 8 = .ok (.ifnonnull 23, 3) := by decide +kernel
theorem dX5_payForTaken_11 : decode cX5_payForTaken 11 = .ok (.aload_n 0, 1) := by decide +kernel
theorem dX5_payForTaken_12 : decode cX5_payForTaken 12 = .ok (.iload_n 2, 1) := by decide +kernel
theorem dX5_payForTaken_13 : decode cX5_payForTaken 13 = .ok (.aload_n 1, 1) := by decide +kernel
theorem dX5_payForTaken_14 : decode cX5_payForTaken 14 = .ok (.invokevirtual 140, 3) := by decide +kernel
theorem dX5_payForTaken_17 : decode cX5_payForTaken 17 = .ok (.iload_n 3, 1) := by decide +kernel
theorem dX5_payForTaken_18 : decode cX5_payForTaken 18 = .ok (.i2l, 1) := by decide +kernel
theorem dX5_payForTaken_19 : decode cX5_payForTaken 19 = .ok (.aload_n 0, 1) := by decide +kernel
theorem dX5_payForTaken_20 : decode cX5_payForTaken 20 = .ok (.getfield 37, 3) := by decide +kernel
theorem dX5_payForTaken_23 : decode cX5_payForTaken 23 = .ok (.i2l, 1) := by decide +kernel
theorem dX5_payForTaken_24 : decode cX5_payForTaken 24 = .ok (.lmul, 1) := by decide +kernel
theorem dX5_payForTaken_25 : decode cX5_payForTaken 25 = .ok (.invokevirtual 143, 3) := by decide +kernel
theorem dX5_payForTaken_28 : decode cX5_payForTaken 28 = .ok (.goto 47, 3) := by decide +kernel
theorem dX5_payForTaken_31 : decode cX5_payForTaken 31 = .ok (.aload_n 0, 1) := by decide +kernel
theorem dX5_payForTaken_32 : decode cX5_payForTaken 32 = .ok (.aload 4, 2) := by decide +kernel
theorem dX5_payForTaken_34 : decode cX5_payForTaken 34 = .ok (.getfield 329, 3) := by decide +kernel
theorem dX5_payForTaken_37 : decode cX5_payForTaken 37 = .ok (.aload_n 1, 1) := by decide +kernel
theorem dX5_payForTaken_38 : decode cX5_payForTaken 38 = .ok (.invokevirtual 140, 3) := by decide +kernel
theorem dX5_payForTaken_41 : decode cX5_payForTaken 41 = .ok (.iload_n 3, 1) := by decide +kernel
theorem dX5_payForTaken_42 : decode cX5_payForTaken 42 = .ok (.i2l, 1) := by decide +kernel
theorem dX5_payForTaken_43 : decode cX5_payForTaken 43 = .ok (.aload 4, 2) := by decide +kernel
theorem dX5_payForTaken_45 : decode cX5_payForTaken 45 = .ok (.getfield 214, 3) := by decide +kernel
theorem dX5_payForTaken_48 : decode cX5_payForTaken 48 = .ok (.i2l, 1) := by decide +kernel
theorem dX5_payForTaken_49 : decode cX5_payForTaken 49 = .ok (.lmul, 1) := by decide +kernel
theorem dX5_payForTaken_50 : decode cX5_payForTaken 50 = .ok (.invokevirtual 143, 3) := by decide +kernel
theorem dX5_payForTaken_53 : decode cX5_payForTaken 53 = .ok (.aload 4, 2) := by decide +kernel
theorem dX5_payForTaken_55 : decode cX5_payForTaken 55 = .ok (.dup, 1) := by decide +kernel
theorem dX5_payForTaken_56 : decode cX5_payForTaken 56 = .ok (.getfield 241, 3) := by decide +kernel
theorem dX5_payForTaken_59 : decode cX5_payForTaken 59 = .ok (.iload_n 3, 1) := by decide +kernel
theorem dX5_payForTaken_60 : decode cX5_payForTaken 60 = .ok (.isub, 1) := by decide +kernel
theorem dX5_payForTaken_61 : decode cX5_payForTaken 61 = .ok (.putfield 241, 3) := by decide +kernel
theorem dX5_payForTaken_64 : decode cX5_payForTaken 64 = .ok (.aload 4, 2) := by decide +kernel
theorem dX5_payForTaken_66 : decode cX5_payForTaken 66 = .ok (.dup, 1) := by decide +kernel
theorem dX5_payForTaken_67 : decode cX5_payForTaken 67 = .ok (.getfield 244, 3) := by decide +kernel
theorem dX5_payForTaken_70 : decode cX5_payForTaken 70 = .ok (.iload_n 3, 1) := by decide +kernel
theorem dX5_payForTaken_71 : decode cX5_payForTaken 71 = .ok (.iadd, 1) := by decide +kernel
theorem dX5_payForTaken_72 : decode cX5_payForTaken 72 = .ok (.putfield 244, 3) := by decide +kernel
theorem dX5_payForTaken_75 : decode cX5_payForTaken 75 = .ok (.return_, 1) := by decide +kernel
set_option maxRecDepth 20000 in
theorem ggX5_passOneDay_Jx4a65c_size_8abf5 : GoodIn wsX5_passOneDay wsJx4a65c_size_8abf5 := goodIn_r _ [14, 15, 243, 244, 245] (by decide +kernel) (by decide +kernel)
set_option maxRecDepth 20000 in
theorem gX5_passOneDay_Jx4a65c_size_8abf5 : GoodIn wsX5_passOneDay (wsV RX5 54 RJx4a65c yJx4a65c_size_8abf5 wsJx4a65c_size_8abf5) := goodIn_app (goodIn_of _ (by decide +kernel)) ggX5_passOneDay_Jx4a65c_size_8abf5
set_option maxRecDepth 20000 in
theorem ggX5_passOneDay_Jx4a65c_get_915e3 : GoodIn wsX5_passOneDay wsJx4a65c_get_915e3 := goodIn_r _ [19, 15, 20, 21, 22, 23, 24, 25, 26, 27, 28, 29, 30, 13, 31, 32, 243, 244, 245] (by decide +kernel) (by decide +kernel)
set_option maxRecDepth 20000 in
theorem gX5_passOneDay_Jx4a65c_get_915e3 : GoodIn wsX5_passOneDay (wsV RX5 260 RJx4a65c yJx4a65c_get_915e3 wsJx4a65c_get_915e3) := goodIn_app (goodIn_of _ (by decide +kernel)) ggX5_passOneDay_Jx4a65c_get_915e3
set_option maxRecDepth 20000 in
theorem ggX5_passOneDay_X5_shrink : GoodIn wsX5_passOneDay wsX5_shrink := goodIn_r _ [37, 38, 39, 40, 4, 5, 41, 42, 43, 10, 11, 12, 13, 14, 15, 16, 17, 18, 19, 20, 21, 22, 23, 24, 25, 26, 27, 28, 29, 30, 31, 32, 44, 45, 46, 47, 48, 49, 50, 51, 52, 53, 54, 36, 55, 56, 57, 58, 59, 60, 61, 62, 63, 64, 65, 66, 67, 68, 69, 70, 71, 72, 73, 74, 75, 76, 246, 247, 248, 249, 250, 251, 221, 222, 223, 224, 225, 226, 227, 228, 229, 230, 231, 252, 253, 254, 255, 256, 257, 258, 259, 260, 243, 244, 245, 261, 262, 263, 264, 265, 266, 267] (by decide +kernel) (by decide +kernel)
set_option maxRecDepth 20000 in
theorem gX5_passOneDay_X5_shrink : GoodIn wsX5_passOneDay (wsV RX5 332 RX5 yX5_shrink wsX5_shrink) := goodIn_app (goodIn_of _ (by decide +kernel)) ggX5_passOneDay_X5_shrink
set_option maxRecDepth 20000 in
theorem ggX5_passOneDay_X5_forfeitIfDue : GoodIn wsX5_passOneDay wsX5_forfeitIfDue := goodIn_r _ [80, 81, 1, 82, 83, 84, 85, 47, 86, 66, 62, 63, 64, 65, 67, 68, 87, 88, 89, 36, 90, 91, 92, 93, 94, 95, 96, 97, 98, 99, 100, 101, 102, 103, 104, 105, 106, 107, 252, 253, 254, 255, 256, 257, 258, 259, 260, 221, 222, 223, 224, 225, 226, 227, 228, 229, 230, 231, 268, 269, 270] (by decide +kernel) (by decide +kernel)
set_option maxRecDepth 20000 in
theorem gX5_passOneDay_X5_forfeitIfDue : GoodIn wsX5_passOneDay (wsV RX5 336 RX5 yX5_forfeitIfDue wsX5_forfeitIfDue) := goodIn_app (goodIn_of _ (by decide +kernel)) ggX5_passOneDay_X5_forfeitIfDue
set_option maxRecDepth 20000 in
theorem ggX5_passOneDay_X5_settle : GoodIn wsX5_passOneDay wsX5_settle := goodIn_r _ [111, 112, 9, 113, 114, 115, 116, 117, 118, 119, 120, 121, 36, 122, 4, 5, 123, 124, 41, 91, 10, 11, 12, 13, 14, 15, 16, 17, 18, 19, 20, 21, 22, 23, 24, 25, 26, 27, 28, 29, 30, 31, 32, 83, 84, 85, 47, 86, 66, 125, 126, 127, 128, 49, 129, 130, 50, 51, 131, 132, 133, 134, 135, 136, 137, 138, 139, 140, 141, 142, 143, 144, 145, 146, 56, 147, 148, 149, 150, 151, 152, 153, 154, 155, 156, 96, 97, 98, 1, 99, 100, 101, 102, 103, 104, 105, 106, 107, 157, 158, 159, 160, 161, 67, 68, 162, 163, 164, 165, 166, 167, 168, 169, 170, 171, 172, 173, 174, 175, 176, 177, 178, 179, 180, 181, 182, 183, 184, 185, 186, 187, 188, 189, 190, 191, 192, 193, 194, 195, 196, 197, 198, 199, 200, 201, 202, 203, 204, 205, 206, 207, 208, 209, 210, 211, 212, 213, 214, 215, 87, 88, 89, 90, 92, 93, 94, 95, 216, 217, 218, 219, 220, 232, 233, 234, 235, 236, 237, 238, 239, 240, 241, 242, 221, 222, 223, 224, 225, 226, 227, 228, 229, 230, 231, 252, 253, 254, 255, 256, 257, 258, 259, 260, 243, 244, 245, 268, 269, 270, 261, 262, 263, 264, 265, 266, 267, 246, 247, 248, 249, 250, 251] (by decide +kernel) (by decide +kernel)
set_option maxRecDepth 20000 in
theorem gX5_passOneDay_X5_settle : GoodIn wsX5_passOneDay (wsV RX5 340 RX5 yX5_settle wsX5_settle) := goodIn_app (goodIn_of _ (by decide +kernel)) ggX5_passOneDay_X5_settle
theorem dX5_passOneDay_0 : decode cX5_passOneDay 0 = .ok (.aload_n 0, 1) := by decide +kernel
theorem dX5_passOneDay_1 : decode cX5_passOneDay 1 = .ok (.dup, 1) := by decide +kernel
theorem dX5_passOneDay_2 : decode cX5_passOneDay 2 = .ok (.getfield 43, 3) := by decide +kernel
theorem dX5_passOneDay_5 : decode cX5_passOneDay 5 = .ok (.iconst 1, 1) := by decide +kernel
theorem dX5_passOneDay_6 : decode cX5_passOneDay 6 = .ok (.iadd, 1) := by decide +kernel
theorem dX5_passOneDay_7 : decode cX5_passOneDay 7 = .ok (.putfield 43, 3) := by decide +kernel
theorem dX5_passOneDay_10 : decode cX5_passOneDay 10 = .ok (.iconst 0, 1) := by decide +kernel
theorem dX5_passOneDay_11 : decode cX5_passOneDay 11 = .ok (.istore_n 1, 1) := by decide +kernel
theorem dX5_passOneDay_12 : decode cX5_passOneDay 12 = .ok (.iload_n 1, 1) := by decide +kernel
theorem dX5_passOneDay_13 : decode cX5_passOneDay 13 = .ok (.aload_n 0, 1) := by decide +kernel
theorem dX5_passOneDay_14 : decode cX5_passOneDay 14 = .ok (.getfield 10, 3) := by decide +kernel
theorem dX5_passOneDay_17 : decode cX5_passOneDay 17 = .ok (.invokevirtual 54, 3) := by decide +kernel
theorem dX5_passOneDay_20 : decode cX5_passOneDay 20 = .ok (.if_icmp .ge 24, 3) := by decide +kernel
theorem dX5_passOneDay_23 : decode cX5_passOneDay 23 = .ok (.aload_n 0, 1) := by decide +kernel
theorem dX5_passOneDay_24 : decode cX5_passOneDay 24 = .ok (.aload_n 0, 1) := by decide +kernel
theorem dX5_passOneDay_25 : decode cX5_passOneDay 25 = .ok (.getfield 10, 3) := by decide +kernel
theorem dX5_passOneDay_28 : decode cX5_passOneDay 28 = .ok (.iload_n 1, 1) := by decide +kernel
theorem dX5_passOneDay_29 : decode cX5_passOneDay 29 = .ok (.invokevirtual 260, 3) := by decide +kernel
theorem dX5_passOneDay_32 : decode cX5_passOneDay 32 = .ok (.checkcast 65, 3) := by decide +kernel
theorem dX5_passOneDay_35 : decode cX5_passOneDay 35 = .ok (.invokevirtual 332, 3) := by decide +kernel
theorem dX5_passOneDay_38 : decode cX5_passOneDay 38 = .ok (.iinc 1 1, 3) := by decide +kernel
theorem dX5_passOneDay_41 : decode cX5_passOneDay 41 = .ok (.goto (-29), 3) := by decide +kernel
theorem dX5_passOneDay_44 : decode cX5_passOneDay 44 = .ok (.iconst 0, 1) := by decide +kernel
theorem dX5_passOneDay_45 : decode cX5_passOneDay 45 = .ok (.istore_n 1, 1) := by decide +kernel
theorem dX5_passOneDay_46 : decode cX5_passOneDay 46 = .ok (.iload_n 1, 1) := by decide +kernel
theorem dX5_passOneDay_47 : decode cX5_passOneDay 47 = .ok (.aload_n 0, 1) := by decide +kernel
theorem dX5_passOneDay_48 : decode cX5_passOneDay 48 = .ok (.getfield 19, 3) := by decide +kernel
theorem dX5_passOneDay_51 : decode cX5_passOneDay 51 = .ok (.invokevirtual 54, 3) := by decide +kernel
theorem dX5_passOneDay_54 : decode cX5_passOneDay 54 = .ok (.if_icmp .ge 24, 3) := by decide +kernel
theorem dX5_passOneDay_57 : decode cX5_passOneDay 57 = .ok (.aload_n 0, 1) := by decide +kernel
theorem dX5_passOneDay_58 : decode cX5_passOneDay 58 = .ok (.aload_n 0, 1) := by decide +kernel
theorem dX5_passOneDay_59 : decode cX5_passOneDay 59 = .ok (.getfield 19, 3) := by decide +kernel
theorem dX5_passOneDay_62 : decode cX5_passOneDay 62 = .ok (.iload_n 1, 1) := by decide +kernel
theorem dX5_passOneDay_63 : decode cX5_passOneDay 63 = .ok (.invokevirtual 260, 3) := by decide +kernel
theorem dX5_passOneDay_66 : decode cX5_passOneDay 66 = .ok (.checkcast 119, 3) := by decide +kernel
theorem dX5_passOneDay_69 : decode cX5_passOneDay 69 = .ok (.invokevirtual 336, 3) := by decide +kernel
theorem dX5_passOneDay_72 : decode cX5_passOneDay 72 = .ok (.iinc 1 1, 3) := by decide +kernel
theorem dX5_passOneDay_75 : decode cX5_passOneDay 75 = .ok (.goto (-29), 3) := by decide +kernel
theorem dX5_passOneDay_78 : decode cX5_passOneDay 78 = .ok (.iconst 0, 1) := by decide +kernel
theorem dX5_passOneDay_79 : decode cX5_passOneDay 79 = .ok (.istore_n 1, 1) := by decide +kernel
theorem dX5_passOneDay_80 : decode cX5_passOneDay 80 = .ok (.iload_n 1, 1) := by decide +kernel
theorem dX5_passOneDay_81 : decode cX5_passOneDay 81 = .ok (.aload_n 0, 1) := by decide +kernel
theorem dX5_passOneDay_82 : decode cX5_passOneDay 82 = .ok (.getfield 22, 3) := by decide +kernel
theorem dX5_passOneDay_85 : decode cX5_passOneDay 85 = .ok (.invokevirtual 54, 3) := by decide +kernel
theorem dX5_passOneDay_88 : decode cX5_passOneDay 88 = .ok (.if_icmp .ge 44, 3) := by decide +kernel
theorem dX5_passOneDay_91 : decode cX5_passOneDay 91 = .ok (.aload_n 0, 1) := by decide +kernel
theorem dX5_passOneDay_92 : decode cX5_passOneDay 92 = .ok (.getfield 22, 3) := by decide +kernel
theorem dX5_passOneDay_95 : decode cX5_passOneDay 95 = .ok (.iload_n 1, 1) := by decide +kernel
theorem dX5_passOneDay_96 : decode cX5_passOneDay 96 = .ok (.invokevirtual 260, 3) := by decide +kernel
theorem dX5_passOneDay_99 : decode cX5_passOneDay 99 = .ok (.checkcast 205, 3) := by decide +kernel
theorem dX5_passOneDay_102 : decode cX5_passOneDay 102 = .ok (.astore_n 2, 1) := by decide +kernel
theorem dX5_passOneDay_103 : decode cX5_passOneDay 103 = .ok (.aload_n 2, 1) := by decide +kernel
theorem dX5_passOneDay_104 : decode cX5_passOneDay 104 = .ok (.getfield 211, 3) := by decide +kernel
theorem dX5_passOneDay_107 : decode cX5_passOneDay 107 = .ok (.aload_n 0, 1) := by decide +kernel
theorem dX5_passOneDay_108 : decode cX5_passOneDay 108 = .ok (.getfield 43, 3) := by decide +kernel
theorem dX5_passOneDay_111 : decode cX5_passOneDay 111 = .ok (.if_icmp .ne 15, 3) := by decide +kernel
theorem dX5_passOneDay_114 : decode cX5_passOneDay 114 = .ok (.aload_n 2, 1) := by decide +kernel
theorem dX5_passOneDay_115 : decode cX5_passOneDay 115 = .ok (.getfield 237, 3) := by decide +kernel
theorem dX5_passOneDay_118 : decode cX5_passOneDay 118 = .ok (.ifCond .ne 8, 3) := by decide +kernel
theorem dX5_passOneDay_121 : decode cX5_passOneDay 121 = .ok (.aload_n 0, 1) := by decide +kernel
theorem dX5_passOneDay_122 : decode cX5_passOneDay 122 = .ok (.aload_n 2, 1) := by decide +kernel
theorem dX5_passOneDay_123 : decode cX5_passOneDay 123 = .ok (.invokevirtual 340, 3) := by decide +kernel
theorem dX5_passOneDay_126 : decode cX5_passOneDay 126 = .ok (.iinc 1 1, 3) := by decide +kernel
theorem dX5_passOneDay_129 : decode cX5_passOneDay 129 = .ok (.goto (-49), 3) := by decide +kernel
theorem dX5_passOneDay_132 : decode cX5_passOneDay 132 = .ok (.return_, 1) := by decide +kernel
set_option maxRecDepth 20000 in
theorem ggX5_shrink_Jx4a65c_size_8abf5 : GoodIn wsX5_shrink wsJx4a65c_size_8abf5 := goodIn_r _ [13, 14, 92, 93, 94] (by decide +kernel) (by decide +kernel)
set_option maxRecDepth 20000 in
theorem gX5_shrink_Jx4a65c_size_8abf5 : GoodIn wsX5_shrink (wsV RX5 54 RJx4a65c yJx4a65c_size_8abf5 wsJx4a65c_size_8abf5) := goodIn_app (goodIn_of _ (by decide +kernel)) ggX5_shrink_Jx4a65c_size_8abf5
set_option maxRecDepth 20000 in
theorem ggX5_shrink_Jx4a65c_get_915e3 : GoodIn wsX5_shrink wsJx4a65c_get_915e3 := goodIn_r _ [18, 14, 19, 20, 21, 22, 23, 24, 25, 26, 27, 28, 29, 12, 30, 31, 92, 93, 94] (by decide +kernel) (by decide +kernel)
set_option maxRecDepth 20000 in
theorem gX5_shrink_Jx4a65c_get_915e3 : GoodIn wsX5_shrink (wsV RX5 260 RJx4a65c yJx4a65c_get_915e3 wsJx4a65c_get_915e3) := goodIn_app (goodIn_of _ (by decide +kernel)) ggX5_shrink_Jx4a65c_get_915e3
set_option maxRecDepth 20000 in
theorem ggX5_shrink_X2_isLiveIn : GoodIn wsX5_shrink wsX2_isLiveIn := goodIn_r _ [36, 37, 38, 39, 83, 84, 85, 86, 87, 88, 89, 90, 91, 95, 96, 97, 98, 99, 100, 101] (by decide +kernel) (by decide +kernel)
set_option maxRecDepth 20000 in
theorem gX5_shrink_X2_isLiveIn : GoodIn wsX5_shrink (wsV RX5 264 RX2 yX2_isLiveIn wsX2_isLiveIn) := goodIn_app (goodIn_of _ (by decide +kernel)) ggX5_shrink_X2_isLiveIn
set_option maxRecDepth 20000 in
theorem ggX5_shrink_X5_takeFrom : GoodIn wsX5_shrink wsX5_takeFrom := goodIn_r _ [44, 6, 45, 46, 1, 47, 48, 49, 35, 50, 37, 51, 52, 53, 54, 55, 56, 57, 83, 84, 85, 86, 87, 88, 89, 90, 91, 95, 96, 97, 98, 99, 100, 101, 66, 67, 68, 69, 70, 71] (by decide +kernel) (by decide +kernel)
set_option maxRecDepth 20000 in
theorem gX5_shrink_X5_takeFrom : GoodIn wsX5_shrink (wsV RX5 169 RX5 yX5_takeFrom wsX5_takeFrom) := goodIn_app (goodIn_of _ (by decide +kernel)) ggX5_shrink_X5_takeFrom
set_option maxRecDepth 20000 in
theorem ggX5_shrink_X5_bearOneEach : GoodIn wsX5_shrink wsX5_bearOneEach := goodIn_r _ [61, 7, 62, 63, 64, 43, 65, 4, 5, 9, 10, 11, 12, 13, 14, 15, 16, 17, 18, 19, 20, 21, 22, 23, 24, 25, 26, 27, 28, 29, 30, 31, 32, 33, 34, 35, 36, 37, 38, 39, 40, 41, 42, 44, 6, 45, 46, 1, 47, 48, 49, 50, 51, 52, 53, 54, 55, 56, 57, 83, 84, 85, 86, 87, 88, 89, 90, 91, 72, 73, 74, 75, 76, 77, 78, 79, 80, 81, 82, 92, 93, 94, 95, 96, 97, 98, 99, 100, 101, 66, 67, 68, 69, 70, 71] (by decide +kernel) (by decide +kernel)
set_option maxRecDepth 20000 in
theorem gX5_shrink_X5_bearOneEach : GoodIn wsX5_shrink (wsV RX5 349 RX5 yX5_bearOneEach wsX5_bearOneEach) := goodIn_app (goodIn_of _ (by decide +kernel)) ggX5_shrink_X5_bearOneEach
theorem dX5_shrink_0 : decode cX5_shrink 0 = .ok (.aload_n 1, 1) := by decide +kernel
theorem dX5_shrink_1 : decode cX5_shrink 1 = .ok (.getfield 251, 3) := by decide +kernel
theorem dX5_shrink_4 : decode cX5_shrink 4 = .ok (.istore_n 2, 1) := by decide +kernel
theorem dX5_shrink_5 : decode cX5_shrink 5 = .ok (.iload_n 2, 1) := by decide +kernel
theorem dX5_shrink_6 : decode cX5_shrink 6 = .ok (.i2l, 1) := by decide +kernel
theorem dX5_shrink_7 : decode cX5_shrink 7 = .ok (.aload_n 0, 1) := by decide +kernel
theorem dX5_shrink_8 : decode cX5_shrink 8 = .ok (.getfield 33, 3) := by decide +kernel
theorem dX5_shrink_11 : decode cX5_shrink 11 = .ok (.i2l, 1) := by decide +kernel
theorem dX5_shrink_12 : decode cX5_shrink 12 = .ok (.lmul, 1) := by decide +kernel
theorem dX5_shrink_13 : decode cX5_shrink 13 = .ok (.ldc2_w 344, 3) := by decide +kernel
theorem dX5_shrink_16 : decode cX5_shrink 16 = .ok (.ldiv, 1) := by decide +kernel
theorem dX5_shrink_17 : decode cX5_shrink 17 = .ok (.l2i, 1) := by decide +kernel
theorem dX5_shrink_18 : decode cX5_shrink 18 = .ok (.istore_n 3, 1) := by decide +kernel
theorem dX5_shrink_19 : decode cX5_shrink 19 = .ok (.iload_n 2, 1) := by decide +kernel
theorem dX5_shrink_20 : decode cX5_shrink 20 = .ok (.ifCond .le 7, 3) := by decide +kernel
theorem dX5_shrink_23 : decode cX5_shrink 23 = .ok (.iload_n 3, 1) := by decide +kernel
theorem dX5_shrink_24 : decode cX5_shrink 24 = .ok (.ifCond .gt 4, 3) := by decide +kernel
theorem dX5_shrink_27 : decode cX5_shrink 27 = .ok (.return_, 1) := by decide +kernel
theorem dX5_shrink_28 : decode cX5_shrink 28 = .ok (.iload_n 3, 1) := by decide +kernel
theorem dX5_shrink_29 : decode cX5_shrink 29 = .ok (.istore 4, 2) := by decide +kernel
theorem dX5_shrink_31 : decode cX5_shrink 31 = .ok (.iconst 0, 1) := by decide +kernel
theorem dX5_shrink_32 : decode cX5_shrink 32 = .ok (.istore 5, 2) := by decide +kernel
theorem dX5_shrink_34 : decode cX5_shrink 34 = .ok (.iload 5, 2) := by decide +kernel
theorem dX5_shrink_36 : decode cX5_shrink 36 = .ok (.aload_n 0, 1) := by decide +kernel
theorem dX5_shrink_37 : decode cX5_shrink 37 = .ok (.getfield 19, 3) := by decide +kernel
theorem dX5_shrink_40 : decode cX5_shrink 40 = .ok (.invokevirtual 54, 3) := by decide +kernel
theorem dX5_shrink_43 : decode cX5_shrink 43 = .ok (.if_icmp .ge 77, 3) := by decide +kernel
theorem dX5_shrink_46 : decode cX5_shrink 46 = .ok (.aload_n 0, 1) := by decide +kernel
theorem dX5_shrink_47 : decode cX5_shrink 47 = .ok (.getfield 19, 3) := by decide +kernel
theorem dX5_shrink_50 : decode cX5_shrink 50 = .ok (.iload 5, 2) := by decide +kernel
theorem dX5_shrink_52 : decode cX5_shrink 52 = .ok (.invokevirtual 260, 3) := by decide +kernel
theorem dX5_shrink_55 : decode cX5_shrink 55 = .ok (.checkcast 119, 3) := by decide +kernel
theorem dX5_shrink_58 : decode cX5_shrink 58 = .ok (.astore 6, 2) := by decide +kernel
theorem dX5_shrink_60 : decode cX5_shrink 60 = .ok (.aload 6, 2) := by decide +kernel
theorem dX5_shrink_62 : decode cX5_shrink 62 = .ok (.aload_n 1, 1) := by decide +kernel
theorem dX5_shrink_63 : decode cX5_shrink 63 = .ok (.invokevirtual 264, 3) := by decide +kernel
theorem dX5_shrink_66 : decode cX5_shrink 66 = .ok (.ifCond .eq 48, 3) := by decide +kernel
theorem dX5_shrink_69 : decode cX5_shrink 69 = .ok (.iload_n 3, 1) := by decide +kernel
theorem dX5_shrink_70 : decode cX5_shrink 70 = .ok (.i2l, 1) := by decide +kernel
theorem dX5_shrink_71 : decode cX5_shrink 71 = .ok (.aload 6, 2) := by decide +kernel
theorem dX5_shrink_73 : decode cX5_shrink 73 = .ok (.getfield 118, 3) := by decide +kernel
theorem dX5_shrink_76 : decode cX5_shrink 76 = .ok (.i2l, 1) := by decide +kernel
theorem dX5_shrink_77 : decode cX5_shrink 77 = .ok (.lmul, 1) := by decide +kernel
theorem dX5_shrink_78 : decode cX5_shrink 78 = .ok (.lstore 7, 2) := by decide +kernel
theorem dX5_shrink_80 : decode cX5_shrink 80 = .ok (.lload 7, 2) := by decide +kernel
theorem dX5_shrink_82 : decode cX5_shrink 82 = .ok (.iload_n 2, 1) := by decide +kernel
theorem dX5_shrink_83 : decode cX5_shrink 83 = .ok (.i2l, 1) := by decide +kernel
theorem dX5_shrink_84 : decode cX5_shrink 84 = .ok (.ldiv, 1) := by decide +kernel
theorem dX5_shrink_85 : decode cX5_shrink 85 = .ok (.l2i, 1) := by decide +kernel
theorem dX5_shrink_86 : decode cX5_shrink 86 = .ok (.istore 9, 2) := by decide +kernel
theorem dX5_shrink_88 : decode cX5_shrink 88 = .ok (.aload 6, 2) := by decide +kernel
theorem dX5_shrink_90 : decode cX5_shrink 90 = .ok (.lload 7, 2) := by decide +kernel
theorem dX5_shrink_92 : decode cX5_shrink 92 = .ok (.iload_n 2, 1) := by decide +kernel
theorem dX5_shrink_93 : decode cX5_shrink 93 = .ok (.i2l, 1) := by decide +kernel
theorem dX5_shrink_94 : decode cX5_shrink 94 = .ok (.lrem, 1) := by decide +kernel
theorem dX5_shrink_95 : decode cX5_shrink 95 = .ok (.l2i, 1) := by decide +kernel
theorem dX5_shrink_96 : decode cX5_shrink 96 = .ok (.putfield 346, 3) := by decide +kernel
theorem dX5_shrink_99 : decode cX5_shrink 99 = .ok (.aload_n 0, 1) := by decide +kernel
theorem dX5_shrink_100 : decode cX5_shrink 100 = .ok (.aload 6, 2) := by decide +kernel
theorem dX5_shrink_102 : decode cX5_shrink 102 = .ok (.iload 9, 2) := by decide +kernel
theorem dX5_shrink_104 : decode cX5_shrink 104 = .ok (.invokevirtual 169, 3) := by decide +kernel
theorem dX5_shrink_107 : decode cX5_shrink 107 = .ok (.iload 4, 2) := by decide +kernel
theorem dX5_shrink_109 : decode cX5_shrink 109 = .ok (.iload 9, 2) := by decide +kernel
theorem dX5_shrink_111 : decode cX5_shrink 111 = .ok (.isub, 1) := by decide +kernel
theorem dX5_shrink_112 : decode cX5_shrink 112 = .ok (.istore 4, 2) := by decide +kernel
theorem dX5_shrink_114 : decode cX5_shrink 114 = .ok (.iinc 5 1, 3) := by decide +kernel
theorem dX5_shrink_117 : decode cX5_shrink 117 = .ok (.goto (-83), 3) := by decide +kernel
theorem dX5_shrink_120 : decode cX5_shrink 120 = .ok (.aload_n 0, 1) := by decide +kernel
theorem dX5_shrink_121 : decode cX5_shrink 121 = .ok (.aload_n 1, 1) := by decide +kernel
theorem dX5_shrink_122 : decode cX5_shrink 122 = .ok (.iload 4, 2) := by decide +kernel
theorem dX5_shrink_124 : decode cX5_shrink 124 = .ok (.invokevirtual 349, 3) := by decide +kernel
theorem dX5_shrink_127 : decode cX5_shrink 127 = .ok (.aload_n 1, 1) := by decide +kernel
theorem dX5_shrink_128 : decode cX5_shrink 128 = .ok (.dup, 1) := by decide +kernel
theorem dX5_shrink_129 : decode cX5_shrink 129 = .ok (.getfield 257, 3) := by decide +kernel
theorem dX5_shrink_132 : decode cX5_shrink 132 = .ok (.iload_n 3, 1) := by decide +kernel
theorem dX5_shrink_133 : decode cX5_shrink 133 = .ok (.iadd, 1) := by decide +kernel
theorem dX5_shrink_134 : decode cX5_shrink 134 = .ok (.putfield 257, 3) := by decide +kernel
theorem dX5_shrink_137 : decode cX5_shrink 137 = .ok (.return_, 1) := by decide +kernel
set_option maxRecDepth 20000 in
theorem ggX5_bearOneEach_X5_greatestRemainder : GoodIn wsX5_bearOneEach wsX5_greatestRemainder := goodIn_r _ [6, 7, 8, 1, 9, 10, 11, 12, 13, 14, 15, 16, 17, 18, 19, 20, 21, 22, 23, 24, 25, 26, 27, 28, 29, 30, 31, 32, 33, 34, 35, 36, 37, 38, 39, 68, 69, 70, 71, 72, 73, 74, 75, 76, 77, 78, 59, 60, 61, 62, 63, 64, 65, 66, 67, 79, 80, 81, 82, 83, 84, 85, 86, 87, 88] (by decide +kernel) (by decide +kernel)
set_option maxRecDepth 20000 in
theorem gX5_bearOneEach_X5_greatestRemainder : GoodIn wsX5_bearOneEach (wsV RX5 353 RX5 yX5_greatestRemainder wsX5_greatestRemainder) := goodIn_app (goodIn_of _ (by decide +kernel)) ggX5_bearOneEach_X5_greatestRemainder
set_option maxRecDepth 20000 in
theorem ggX5_bearOneEach_X5_takeFrom : GoodIn wsX5_bearOneEach wsX5_takeFrom := goodIn_r _ [43, 44, 45, 46, 47, 48, 49, 50, 35, 51, 37, 52, 53, 54, 55, 56, 57, 58, 59, 60, 61, 62, 63, 64, 65, 66, 67, 82, 83, 84, 85, 86, 87, 88, 89, 90, 91, 92, 93, 94] (by decide +kernel) (by decide +kernel)
set_option maxRecDepth 20000 in
theorem gX5_bearOneEach_X5_takeFrom : GoodIn wsX5_bearOneEach (wsV RX5 169 RX5 yX5_takeFrom wsX5_takeFrom) := goodIn_app (goodIn_of _ (by decide +kernel)) ggX5_bearOneEach_X5_takeFrom
theorem dX5_bearOneEach_0 : decode cX5_bearOneEach 0 = .ok (.iconst 0, 1) := by decide +kernel
theorem dX5_bearOneEach_1 : decode cX5_bearOneEach 1 = .ok (.istore_n 3, 1) := by decide +kernel
theorem dX5_bearOneEach_2 : decode cX5_bearOneEach 2 = .ok (.iload_n 3, 1) := by decide +kernel
theorem dX5_bearOneEach_3 : decode cX5_bearOneEach 3 = .ok (.iload_n 2, 1) := by decide +kernel
theorem dX5_bearOneEach_4 : decode cX5_bearOneEach 4 = .ok (.if_icmp .ge 40, 3) := by decide +kernel
theorem dX5_bearOneEach_7 : decode cX5_bearOneEach 7 = .ok (.iload_n 3, 1) := by decide +kernel
theorem dX5_bearOneEach_8 : decode cX5_bearOneEach 8 = .ok (.bipush 80, 2) := by decide +kernel
theorem dX5_bearOneEach_10 : decode cX5_bearOneEach 10 = .ok (.if_icmp .ge 34, 3) := by decide +kernel
theorem dX5_bearOneEach_13 : decode cX5_bearOneEach 13 = .ok (.aload_n 0, 1) := by decide +kernel
theorem dX5_bearOneEach_14 : decode cX5_bearOneEach 14 = .ok (.aload_n 1, 1) := by decide +kernel
theorem dX5_bearOneEach_15 : decode cX5_bearOneEach 15 = .ok (.invokevirtual 353, 3) := by decide +kernel
theorem dX5_bearOneEach_18 : decode cX5_bearOneEach 18 = .ok (.astore 4, 2) := by decide +kernel
theorem dX5_bearOneEach_20 : decode cX5_bearOneEach 20 = .ok (.aload 4, 2) := by decide +kernel
theorem dX5_bearOneEach_22 : decode cX5_bearOneEach 22 = .ok (.ifnull 16, 3) := by decide +kernel
theorem dX5_bearOneEach_25 : decode cX5_bearOneEach 25 = .ok (.aload 4, 2) := by decide +kernel
theorem dX5_bearOneEach_27 : decode cX5_bearOneEach 27 = .ok (.iconst (-1), 1) := by decide +kernel
theorem dX5_bearOneEach_28 : decode cX5_bearOneEach 28 = .ok (.putfield 346, 3) := by decide +kernel
theorem dX5_bearOneEach_31 : decode cX5_bearOneEach 31 = .ok (.aload_n 0, 1) := by decide +kernel
theorem dX5_bearOneEach_32 : decode cX5_bearOneEach 32 = .ok (.aload 4, 2) := by decide +kernel
theorem dX5_bearOneEach_34 : decode cX5_bearOneEach 34 = .ok (.iconst 1, 1) := by decide +kernel
theorem dX5_bearOneEach_35 : decode cX5_bearOneEach 35 = .ok (.invokevirtual 169, 3) := by decide +kernel
theorem dX5_bearOneEach_38 : decode cX5_bearOneEach 38 = .ok (.iinc 3 1, 3) := by decide +kernel
theorem dX5_bearOneEach_41 : decode cX5_bearOneEach 41 = .ok (.goto (-39), 3) := by decide +kernel
theorem dX5_bearOneEach_44 : decode cX5_bearOneEach 44 = .ok (.return_, 1) := by decide +kernel
set_option maxRecDepth 20000 in
theorem ggX5_greatestRemainder_Jx4a65c_size_8abf5 : GoodIn wsX5_greatestRemainder wsJx4a65c_size_8abf5 := goodIn_r _ [8, 9, 55, 56, 57] (by decide +kernel) (by decide +kernel)
set_option maxRecDepth 20000 in
theorem gX5_greatestRemainder_Jx4a65c_size_8abf5 : GoodIn wsX5_greatestRemainder (wsV RX5 54 RJx4a65c yJx4a65c_size_8abf5 wsJx4a65c_size_8abf5) := goodIn_app (goodIn_of _ (by decide +kernel)) ggX5_greatestRemainder_Jx4a65c_size_8abf5
set_option maxRecDepth 20000 in
theorem ggX5_greatestRemainder_Jx4a65c_get_915e3 : GoodIn wsX5_greatestRemainder wsJx4a65c_get_915e3 := goodIn_r _ [13, 9, 14, 15, 16, 17, 18, 19, 20, 21, 22, 23, 24, 7, 25, 26, 55, 56, 57] (by decide +kernel) (by decide +kernel)
set_option maxRecDepth 20000 in
theorem gX5_greatestRemainder_Jx4a65c_get_915e3 : GoodIn wsX5_greatestRemainder (wsV RX5 260 RJx4a65c yJx4a65c_get_915e3 wsJx4a65c_get_915e3) := goodIn_app (goodIn_of _ (by decide +kernel)) ggX5_greatestRemainder_Jx4a65c_get_915e3
set_option maxRecDepth 20000 in
theorem ggX5_greatestRemainder_X2_isLiveIn : GoodIn wsX5_greatestRemainder wsX2_isLiveIn := goodIn_r _ [31, 32, 33, 34, 46, 47, 48, 49, 50, 51, 52, 53, 54, 58, 59, 60, 61, 62, 63, 64] (by decide +kernel) (by decide +kernel)
set_option maxRecDepth 20000 in
theorem gX5_greatestRemainder_X2_isLiveIn : GoodIn wsX5_greatestRemainder (wsV RX5 264 RX2 yX2_isLiveIn wsX2_isLiveIn) := goodIn_app (goodIn_of _ (by decide +kernel)) ggX5_greatestRemainder_X2_isLiveIn
theorem dX5_greatestRemainder_0 : decode cX5_greatestRemainder 0 = .ok (.aconst_null, 1) := by decide +kernel
theorem dX5_greatestRemainder_1 : decode cX5_greatestRemainder 1 = .ok (.astore_n 2, 1) := by decide +kernel
theorem dX5_greatestRemainder_2 : decode cX5_greatestRemainder 2 = .ok (.iconst (-1), 1) := by decide +kernel
theorem dX5_greatestRemainder_3 : decode cX5_greatestRemainder 3 = .ok (.istore_n 3, 1) := by decide +kernel
theorem dX5_greatestRemainder_4 : decode cX5_greatestRemainder 4 = .ok (.iconst 0, 1) := by decide +kernel
theorem dX5_greatestRemainder_5 : decode cX5_greatestRemainder 5 = .ok (.istore 4, 2) := by decide +kernel
theorem dX5_greatestRemainder_7 : decode cX5_greatestRemainder 7 = .ok (.iload 4, 2) := by decide +kernel
theorem dX5_greatestRemainder_9 : decode cX5_greatestRemainder 9 = .ok (.aload_n 0, 1) := by decide +kernel
theorem dX5_greatestRemainder_10 : decode cX5_greatestRemainder 10 = .ok (.getfield 19, 3) := by decide +kernel
theorem dX5_greatestRemainder_13 : decode cX5_greatestRemainder 13 = .ok (.invokevirtual 54, 3) := by decide +kernel
theorem dX5_greatestRemainder_16 : decode cX5_greatestRemainder 16 = .ok (.if_icmp .ge 50, 3) := by decide +kernel
theorem dX5_greatestRemainder_19 : decode cX5_greatestRemainder 19 = .ok (.aload_n 0, 1) := by decide +kernel
theorem dX5_greatestRemainder_20 : decode cX5_greatestRemainder 20 = .ok (.getfield 19, 3) := by decide +kernel
theorem dX5_greatestRemainder_23 : decode cX5_greatestRemainder 23 = .ok (.iload 4, 2) := by decide +kernel
theorem dX5_greatestRemainder_25 : decode cX5_greatestRemainder 25 = .ok (.invokevirtual 260, 3) := by decide +kernel
theorem dX5_greatestRemainder_28 : decode cX5_greatestRemainder 28 = .ok (.checkcast 119, 3) := by decide +kernel
theorem dX5_greatestRemainder_31 : decode cX5_greatestRemainder 31 = .ok (.astore 5, 2) := by decide +kernel
theorem dX5_greatestRemainder_33 : decode cX5_greatestRemainder 33 = .ok (.aload 5, 2) := by decide +kernel
theorem dX5_greatestRemainder_35 : decode cX5_greatestRemainder 35 = .ok (.getfield 346, 3) := by decide +kernel
theorem dX5_greatestRemainder_38 : decode cX5_greatestRemainder 38 = .ok (.iload_n 3, 1) := by decide +kernel
theorem dX5_greatestRemainder_39 : decode cX5_greatestRemainder 39 = .ok (.if_icmp .le 21, 3) := by decide +kernel
theorem dX5_greatestRemainder_42 : decode cX5_greatestRemainder 42 = .ok (.aload 5, 2) := by decide +kernel
theorem dX5_greatestRemainder_44 : decode cX5_greatestRemainder 44 = .ok (.aload_n 1, 1) := by decide +kernel
theorem dX5_greatestRemainder_45 : decode cX5_greatestRemainder 45 = .ok (.invokevirtual 264, 3) := by decide +kernel
theorem dX5_greatestRemainder_48 : decode cX5_greatestRemainder 48 = .ok (.ifCond .eq 12, 3) := by decide +kernel
theorem dX5_greatestRemainder_51 : decode cX5_greatestRemainder 51 = .ok (.aload 5, 2) := by decide +kernel
theorem dX5_greatestRemainder_53 : decode cX5_greatestRemainder 53 = .ok (.astore_n 2, 1) := by decide +kernel
theorem dX5_greatestRemainder_54 : decode cX5_greatestRemainder 54 = .ok (.aload 5, 2) := by decide +kernel
theorem dX5_greatestRemainder_56 : decode cX5_greatestRemainder 56 = .ok (.getfield 346, 3) := by decide +kernel
theorem dX5_greatestRemainder_59 : decode cX5_greatestRemainder 59 = .ok (.istore_n 3, 1) := by decide +kernel
theorem dX5_greatestRemainder_60 : decode cX5_greatestRemainder 60 = .ok (.iinc 4 1, 3) := by decide +kernel
theorem dX5_greatestRemainder_63 : decode cX5_greatestRemainder 63 = .ok (.goto (-56), 3) := by decide +kernel
theorem dX5_greatestRemainder_66 : decode cX5_greatestRemainder 66 = .ok (.aload_n 2, 1) := by decide +kernel
theorem dX5_greatestRemainder_67 : decode cX5_greatestRemainder 67 = .ok (.areturn, 1) := by decide +kernel
set_option maxRecDepth 20000 in
theorem ggX5_forfeitIfDue_X2_isPledged : GoodIn wsX5_forfeitIfDue wsX2_isPledged := goodIn_r _ [8, 9, 38, 39, 40, 41, 42, 43, 44, 45, 46] (by decide +kernel) (by decide +kernel)
set_option maxRecDepth 20000 in
theorem gX5_forfeitIfDue_X2_isPledged : GoodIn wsX5_forfeitIfDue (wsV RX5 123 RX2 yX2_isPledged wsX2_isPledged) := goodIn_app (goodIn_of _ (by decide +kernel)) ggX5_forfeitIfDue_X2_isPledged
set_option maxRecDepth 20000 in
theorem ggX5_forfeitIfDue_X2_endPledge : GoodIn wsX5_forfeitIfDue wsX2_endPledge := goodIn_r _ [13, 9, 14, 15, 38, 39, 40, 41, 42, 43, 44, 45, 46] (by decide +kernel) (by decide +kernel)
set_option maxRecDepth 20000 in
theorem gX5_forfeitIfDue_X2_endPledge : GoodIn wsX5_forfeitIfDue (wsV RX5 161 RX2 yX2_endPledge wsX2_endPledge) := goodIn_app (goodIn_of _ (by decide +kernel)) ggX5_forfeitIfDue_X2_endPledge
set_option maxRecDepth 20000 in
theorem ggX5_forfeitIfDue_X5_changeHolder : GoodIn wsX5_forfeitIfDue wsX5_changeHolder := goodIn_r _ [20, 21, 22, 23, 2, 24, 25, 26, 27, 28, 29, 30, 31, 32, 33, 34, 35, 36, 37, 38, 39, 40, 41, 42, 43, 44, 45, 46, 58, 59, 60, 47, 48, 49, 50, 51, 52, 53, 54, 55, 56, 57] (by decide +kernel) (by decide +kernel)
set_option maxRecDepth 20000 in
theorem gX5_forfeitIfDue_X5_changeHolder : GoodIn wsX5_forfeitIfDue (wsV RX5 147 RX5 yX5_changeHolder wsX5_changeHolder) := goodIn_app (goodIn_of _ (by decide +kernel)) ggX5_forfeitIfDue_X5_changeHolder
theorem dX5_forfeitIfDue_0 : decode cX5_forfeitIfDue 0 = .ok (.aload_n 1, 1) := by decide +kernel
theorem dX5_forfeitIfDue_1 : decode cX5_forfeitIfDue 1 = .ok (.invokevirtual 123, 3) := by decide +kernel
theorem dX5_forfeitIfDue_4 : decode cX5_forfeitIfDue 4 = .ok (.ifCond .eq 29, 3) := by decide +kernel
theorem dX5_forfeitIfDue_7 : decode cX5_forfeitIfDue 7 = .ok (.aload_n 1, 1) := by decide +kernel
theorem dX5_forfeitIfDue_8 : decode cX5_forfeitIfDue 8 = .ok (.getfield 156, 3) := by decide +kernel
theorem dX5_forfeitIfDue_11 : decode cX5_forfeitIfDue 11 = .ok (.aload_n 0, 1) := by decide +kernel
theorem dX5_forfeitIfDue_12 : decode cX5_forfeitIfDue 12 = .ok (.getfield 43, 3) := by decide +kernel
theorem dX5_forfeitIfDue_15 : decode cX5_forfeitIfDue 15 = .ok (.if_icmp .ge 18, 3) := by decide +kernel
theorem dX5_forfeitIfDue_18 : decode cX5_forfeitIfDue 18 = .ok (.aload_n 1, 1) := by decide +kernel
theorem dX5_forfeitIfDue_19 : decode cX5_forfeitIfDue 19 = .ok (.getfield 150, 3) := by decide +kernel
theorem dX5_forfeitIfDue_22 : decode cX5_forfeitIfDue 22 = .ok (.istore_n 2, 1) := by decide +kernel
theorem dX5_forfeitIfDue_23 : decode cX5_forfeitIfDue 23 = .ok (.aload_n 1, 1) := by decide +kernel
theorem dX5_forfeitIfDue_24 : decode cX5_forfeitIfDue 24 = .ok (.invokevirtual 161, 3) := by decide +kernel
theorem dX5_forfeitIfDue_27 : decode cX5_forfeitIfDue 27 = .ok (.aload_n 0, 1) := by decide +kernel
theorem dX5_forfeitIfDue_28 : decode cX5_forfeitIfDue 28 = .ok (.aload_n 1, 1) := by decide +kernel
theorem dX5_forfeitIfDue_29 : decode cX5_forfeitIfDue 29 = .ok (.iload_n 2, 1) := by decide +kernel
theorem dX5_forfeitIfDue_30 : decode cX5_forfeitIfDue 30 = .ok (.invokevirtual 147, 3) := by decide +kernel
theorem dX5_forfeitIfDue_33 : decode cX5_forfeitIfDue 33 = .ok (.return_, 1) := by decide +kernel
set_option maxRecDepth 20000 in
theorem ggX5_settle_X5_handOver : GoodIn wsX5_settle wsX5_handOver := goodIn_r _ [13, 1, 14, 15, 6, 16, 17, 18, 5, 19, 20, 21, 22, 23, 24, 25, 26, 27, 28, 29, 30, 31, 32, 33, 34, 35, 36, 37, 38, 39, 40, 41, 42, 43, 44, 45, 46, 47, 48, 49, 50, 51, 52, 53, 54, 55, 56, 57, 58, 59, 60, 61, 62, 63, 64, 65, 66, 67, 68, 12, 69, 70, 71, 72, 73, 74, 75, 76, 77, 78, 79, 80, 81, 82, 83, 84, 85, 86, 87, 88, 89, 90, 91, 92, 93, 94, 95, 96, 97, 98, 99, 100, 101, 102, 103, 104, 105, 106, 107, 108, 109, 110, 111, 112, 113, 114, 115, 116, 117, 118, 119, 120, 121, 122, 123, 124, 125, 126, 127, 128, 129, 130, 131, 132, 133, 134, 135, 136, 137, 138, 139, 140, 141, 142, 143, 144, 145, 146, 147, 148, 149, 150, 151, 152, 153, 154, 155, 156, 157, 158, 159, 160, 161, 162, 163, 164, 165, 166, 172, 173, 174, 175, 176, 177, 178, 179, 180, 181, 182, 183, 184, 185, 186, 187, 188, 189, 190, 191, 192, 193, 194, 195, 196, 197, 198, 199, 200, 201, 202, 203, 204, 205, 206, 207, 208, 209, 210, 211, 212, 213, 214, 215, 216, 217, 218, 219, 220, 221] (by decide +kernel) (by decide +kernel)
set_option maxRecDepth 20000 in
theorem gX5_settle_X5_handOver : GoodIn wsX5_settle (wsV RX5 357 RX5 yX5_handOver wsX5_handOver) := goodIn_app (goodIn_of _ (by decide +kernel)) ggX5_settle_X5_handOver
set_option maxRecDepth 20000 in
theorem ggX5_settle_X5_pay : GoodIn wsX5_settle wsX5_pay := goodIn_r _ [170, 171, 183, 184, 185, 186, 187, 188, 189, 190, 191, 192, 193] (by decide +kernel) (by decide +kernel)
set_option maxRecDepth 20000 in
theorem gX5_settle_X5_pay : GoodIn wsX5_settle (wsV RX5 143 RX5 yX5_pay wsX5_pay) := goodIn_app (goodIn_of _ (by decide +kernel)) ggX5_settle_X5_pay
theorem dX5_settle_0 : decode cX5_settle 0 = .ok (.aload_n 0, 1) := by decide +kernel
theorem dX5_settle_1 : decode cX5_settle 1 = .ok (.aload_n 1, 1) := by decide +kernel
theorem dX5_settle_2 : decode cX5_settle 2 = .ok (.invokevirtual 357, 3) := by decide +kernel
theorem dX5_settle_5 : decode cX5_settle 5 = .ok (.istore_n 2, 1) := by decide +kernel
theorem dX5_settle_6 : decode cX5_settle 6 = .ok (.aload_n 1, 1) := by decide +kernel
theorem dX5_settle_7 : decode cX5_settle 7 = .ok (.getfield 210, 3) := by decide +kernel
theorem dX5_settle_10 : decode cX5_settle 10 = .ok (.iload_n 2, 1) := by decide +kernel
theorem dX5_settle_11 : decode cX5_settle 11 = .ok (.isub, 1) := by decide +kernel
theorem dX5_settle_12 : decode cX5_settle 12 = .ok (.istore_n 3, 1) := by decide +kernel
theorem dX5_settle_13 : decode cX5_settle 13 = .ok (.aload_n 1, 1) := by decide +kernel
theorem dX5_settle_14 : decode cX5_settle 14 = .ok (.iconst 1, 1) := by decide +kernel
theorem dX5_settle_15 : decode cX5_settle 15 = .ok (.putfield 237, 3) := by decide +kernel
theorem dX5_settle_18 : decode cX5_settle 18 = .ok (.aload_n 1, 1) := by decide +kernel
theorem dX5_settle_19 : decode cX5_settle 19 = .ok (.iload_n 3, 1) := by decide +kernel
theorem dX5_settle_20 : decode cX5_settle 20 = .ok (.putfield 241, 3) := by decide +kernel
theorem dX5_settle_23 : decode cX5_settle 23 = .ok (.aload_n 1, 1) := by decide +kernel
theorem dX5_settle_24 : decode cX5_settle 24 = .ok (.iload_n 2, 1) := by decide +kernel
theorem dX5_settle_25 : decode cX5_settle 25 = .ok (.putfield 244, 3) := by decide +kernel
theorem dX5_settle_28 : decode cX5_settle 28 = .ok (.aload_n 0, 1) := by decide +kernel
theorem dX5_settle_29 : decode cX5_settle 29 = .ok (.aload_n 1, 1) := by decide +kernel
theorem dX5_settle_30 : decode cX5_settle 30 = .ok (.getfield 361, 3) := by decide +kernel
theorem dX5_settle_33 : decode cX5_settle 33 = .ok (.aload_n 1, 1) := by decide +kernel
theorem dX5_settle_34 : decode cX5_settle 34 = .ok (.getfield 329, 3) := by decide +kernel
theorem dX5_settle_37 : decode cX5_settle 37 = .ok (.iload_n 3, 1) := by decide +kernel
theorem dX5_settle_38 : decode cX5_settle 38 = .ok (.i2l, 1) := by decide +kernel
theorem dX5_settle_39 : decode cX5_settle 39 = .ok (.aload_n 1, 1) := by decide +kernel
theorem dX5_settle_40 : decode cX5_settle 40 = .ok (.getfield 214, 3) := by decide +kernel
theorem dX5_settle_43 : decode cX5_settle 43 = .ok (.i2l, 1) := by decide +kernel
theorem dX5_settle_44 : decode cX5_settle 44 = .ok (.lmul, 1) := by decide +kernel
theorem dX5_settle_45 : decode cX5_settle 45 = .ok (.invokevirtual 143, 3) := by decide +kernel
theorem dX5_settle_48 : decode cX5_settle 48 = .ok (.aload_n 0, 1) := by decide +kernel
theorem dX5_settle_49 : decode cX5_settle 49 = .ok (.aload_n 1, 1) := by decide +kernel
theorem dX5_settle_50 : decode cX5_settle 50 = .ok (.getfield 329, 3) := by decide +kernel
theorem dX5_settle_53 : decode cX5_settle 53 = .ok (.aload_n 1, 1) := by decide +kernel
theorem dX5_settle_54 : decode cX5_settle 54 = .ok (.getfield 361, 3) := by decide +kernel
theorem dX5_settle_57 : decode cX5_settle 57 = .ok (.iload_n 2, 1) := by decide +kernel
theorem dX5_settle_58 : decode cX5_settle 58 = .ok (.i2l, 1) := by decide +kernel
theorem dX5_settle_59 : decode cX5_settle 59 = .ok (.aload_n 0, 1) := by decide +kernel
theorem dX5_settle_60 : decode cX5_settle 60 = .ok (.getfield 40, 3) := by decide +kernel
theorem dX5_settle_63 : decode cX5_settle 63 = .ok (.i2l, 1) := by decide +kernel
theorem dX5_settle_64 : decode cX5_settle 64 = .ok (.lmul, 1) := by decide +kernel
theorem dX5_settle_65 : decode cX5_settle 65 = .ok (.invokevirtual 143, 3) := by decide +kernel
theorem dX5_settle_68 : decode cX5_settle 68 = .ok (.return_, 1) := by decide +kernel
set_option maxRecDepth 20000 in
theorem ggX5_handOver_Jx4a65c_size_8abf5 : GoodIn wsX5_handOver wsJx4a65c_size_8abf5 := goodIn_r _ [14, 15, 189, 190, 191] (by decide +kernel) (by decide +kernel)
set_option maxRecDepth 20000 in
theorem gX5_handOver_Jx4a65c_size_8abf5 : GoodIn wsX5_handOver (wsV RX5 54 RJx4a65c yJx4a65c_size_8abf5 wsJx4a65c_size_8abf5) := goodIn_app (goodIn_of _ (by decide +kernel)) ggX5_handOver_Jx4a65c_size_8abf5
set_option maxRecDepth 20000 in
theorem ggX5_handOver_Jx4a65c_get_915e3 : GoodIn wsX5_handOver wsJx4a65c_get_915e3 := goodIn_r _ [19, 15, 20, 21, 22, 23, 24, 25, 26, 27, 28, 29, 30, 13, 31, 32, 189, 190, 191] (by decide +kernel) (by decide +kernel)
set_option maxRecDepth 20000 in
theorem gX5_handOver_Jx4a65c_get_915e3 : GoodIn wsX5_handOver (wsV RX5 260 RJx4a65c yJx4a65c_get_915e3 wsJx4a65c_get_915e3) := goodIn_app (goodIn_of _ (by decide +kernel)) ggX5_handOver_Jx4a65c_get_915e3
set_option maxRecDepth 20000 in
theorem ggX5_handOver_X2_isPledged : GoodIn wsX5_handOver wsX2_isPledged := goodIn_r _ [37, 38, 180, 181, 182, 183, 184, 185, 186, 187, 188] (by decide +kernel) (by decide +kernel)
set_option maxRecDepth 20000 in
theorem gX5_handOver_X2_isPledged : GoodIn wsX5_handOver (wsV RX5 123 RX2 yX2_isPledged wsX2_isPledged) := goodIn_app (goodIn_of _ (by decide +kernel)) ggX5_handOver_X2_isPledged
set_option maxRecDepth 20000 in
theorem ggX5_handOver_X2_isLiveOf : GoodIn wsX5_handOver wsX2_isLiveOf := goodIn_r _ [42, 43, 44, 45, 46, 47, 48, 49, 50, 51, 52, 53, 54, 55, 180, 181, 182, 183, 184, 185, 186, 187, 188, 192, 193, 194, 195, 196, 197, 198, 199, 200, 201, 202, 203, 204, 205, 206, 207] (by decide +kernel) (by decide +kernel)
set_option maxRecDepth 20000 in
theorem gX5_handOver_X2_isLiveOf : GoodIn wsX5_handOver (wsV RX5 273 RX2 yX2_isLiveOf wsX2_isLiveOf) := goodIn_app (goodIn_of _ (by decide +kernel)) ggX5_handOver_X2_isLiveOf
set_option maxRecDepth 20000 in
theorem ggX5_handOver_X5_receiptsAreFull : GoodIn wsX5_handOver wsX5_receiptsAreFull := goodIn_r _ [60, 2, 10, 11, 12, 13, 14, 15, 169, 170, 171, 172, 173, 174, 175, 176, 177, 178, 179, 189, 190, 191] (by decide +kernel) (by decide +kernel)
set_option maxRecDepth 20000 in
theorem gX5_handOver_X5_receiptsAreFull : GoodIn wsX5_handOver (wsV RX5 87 RX5 yX5_receiptsAreFull wsX5_receiptsAreFull) := goodIn_app (goodIn_of _ (by decide +kernel)) ggX5_handOver_X5_receiptsAreFull
set_option maxRecDepth 20000 in
theorem ggX5_handOver_X5_splitOff : GoodIn wsX5_handOver wsX5_splitOff := goodIn_r _ [64, 65, 9, 7, 66, 67, 68, 36, 69, 44, 45, 70, 71, 72, 59, 73, 74, 75, 2, 76, 77, 78, 79, 10, 11, 12, 13, 14, 15, 80, 81, 82, 83, 84, 85, 86, 87, 88, 89, 90, 91, 92, 93, 46, 38, 94, 95, 96, 97, 98, 99, 100, 101, 102, 32, 103, 104, 105, 106, 107, 108, 109, 110, 111, 112, 113, 114, 115, 116, 117, 118, 119, 120, 121, 122, 123, 124, 125, 126, 127, 128, 129, 130, 131, 132, 133, 134, 135, 136, 137, 138, 139, 140, 141, 142, 143, 144, 145, 146, 147, 148, 149, 180, 181, 182, 183, 184, 185, 186, 187, 188, 192, 193, 194, 169, 170, 171, 172, 173, 174, 175, 176, 177, 178, 179, 189, 190, 191] (by decide +kernel) (by decide +kernel)
set_option maxRecDepth 20000 in
theorem gX5_handOver_X5_splitOff : GoodIn wsX5_handOver (wsV RX5 128 RX5 yX5_splitOff wsX5_splitOff) := goodIn_app (goodIn_of _ (by decide +kernel)) ggX5_handOver_X5_splitOff
set_option maxRecDepth 20000 in
theorem ggX5_handOver_X5_changeHolder : GoodIn wsX5_handOver wsX5_changeHolder := goodIn_r _ [153, 9, 154, 155, 79, 156, 157, 76, 77, 78, 80, 81, 82, 83, 84, 85, 86, 87, 88, 180, 181, 182, 183, 184, 185, 186, 187, 188, 192, 193, 194, 169, 170, 171, 172, 173, 174, 175, 176, 177, 178, 179] (by decide +kernel) (by decide +kernel)
set_option maxRecDepth 20000 in
theorem gX5_handOver_X5_changeHolder : GoodIn wsX5_handOver (wsV RX5 147 RX5 yX5_changeHolder wsX5_changeHolder) := goodIn_app (goodIn_of _ (by decide +kernel)) ggX5_handOver_X5_changeHolder
theorem dX5_handOver_0 : decode cX5_handOver 0 = .ok (.aload_n 1, 1) := by decide +kernel
theorem dX5_handOver_1 : decode cX5_handOver 1 = .ok (.getfield 210, 3) := by decide +kernel
theorem dX5_handOver_4 : decode cX5_handOver 4 = .ok (.istore_n 2, 1) := by decide +kernel
theorem dX5_handOver_5 : decode cX5_handOver 5 = .ok (.aload_n 0, 1) := by decide +kernel
theorem dX5_handOver_6 : decode cX5_handOver 6 = .ok (.getfield 19, 3) := by decide +kernel
theorem dX5_handOver_9 : decode cX5_handOver 9 = .ok (.invokevirtual 54, 3) := by decide +kernel
theorem dX5_handOver_12 : decode cX5_handOver 12 = .ok (.istore_n 3, 1) := by decide +kernel
theorem dX5_handOver_13 : decode cX5_handOver 13 = .ok (.iconst 0, 1) := by decide +kernel
theorem dX5_handOver_14 : decode cX5_handOver 14 = .ok (.istore 4, 2) := by decide +kernel
theorem dX5_handOver_16 : decode cX5_handOver 16 = .ok (.iload 4, 2) := by decide +kernel
theorem dX5_handOver_18 : decode cX5_handOver 18 = .ok (.iload_n 3, 1) := by decide +kernel
theorem dX5_handOver_19 : decode cX5_handOver 19 = .ok (.if_icmp .ge 118, 3) := by decide +kernel
theorem dX5_handOver_22 : decode cX5_handOver 22 = .ok (.iload 4, 2) := by decide +kernel
theorem dX5_handOver_24 : decode cX5_handOver 24 = .ok (.aload_n 0, 1) := by decide +kernel
theorem dX5_handOver_25 : decode cX5_handOver 25 = .ok (.getfield 19, 3) := by decide +kernel
theorem dX5_handOver_28 : decode cX5_handOver 28 = .ok (.invokevirtual 54, 3) := by decide +kernel
theorem dX5_handOver_31 : decode cX5_handOver 31 = .ok (.if_icmp .ge 106, 3) := by decide +kernel
theorem dX5_handOver_34 : decode cX5_handOver 34 = .ok (.iload_n 2, 1) := by decide +kernel
theorem dX5_handOver_35 : decode cX5_handOver 35 = .ok (.ifCond .le 102, 3) := by decide +kernel
theorem dX5_handOver_38 : decode cX5_handOver 38 = .ok (.aload_n 0, 1) := by decide +kernel
theorem dX5_handOver_39 : decode cX5_handOver 39 = .ok (.getfield 19, 3) := by decide +kernel
theorem dX5_handOver_42 : decode cX5_handOver 42 = .ok (.iload 4, 2) := by decide +kernel
theorem dX5_handOver_44 : decode cX5_handOver 44 = .ok (.invokevirtual 260, 3) := by decide +kernel
theorem dX5_handOver_47 : decode cX5_handOver 47 = .ok (.checkcast 119, 3) := by decide +kernel
theorem dX5_handOver_50 : decode cX5_handOver 50 = .ok (.astore 5, 2) := by decide +kernel
theorem dX5_handOver_52 : decode cX5_handOver 52 = .ok (.aload 5, 2) := by decide +kernel
theorem dX5_handOver_54 : decode cX5_handOver 54 = .ok (.invokevirtual 123, 3) := by decide +kernel
theorem dX5_handOver_57 : decode cX5_handOver 57 = .ok (.ifCond .ne 74, 3) := by decide +kernel
theorem dX5_handOver_60 : decode cX5_handOver 60 = .ok (.aload 5, 2) := by decide +kernel
theorem dX5_handOver_62 : decode cX5_handOver 62 = .ok (.aload_n 1, 1) := by decide +kernel
theorem dX5_handOver_63 : decode cX5_handOver 63 = .ok (.getfield 329, 3) := by decide +kernel
theorem dX5_handOver_66 : decode cX5_handOver 66 = .ok (.aload_n 1, 1) := by decide +kernel
theorem dX5_handOver_67 : decode cX5_handOver 67 = .ok (.getfield 364, 3) := by decide +kernel
theorem dX5_handOver_70 : decode cX5_handOver 70 = .ok (.aload_n 1, 1) := by decide +kernel
theorem dX5_handOver_71 : decode cX5_handOver 71 = .ok (.getfield 365, 3) := by decide +kernel
theorem dX5_handOver_74 : decode cX5_handOver 74 = .ok (.invokevirtual 273, 3) := by decide +kernel
theorem dX5_handOver_77 : decode cX5_handOver 77 = .ok (.ifCond .eq 54, 3) := by decide +kernel
theorem dX5_handOver_80 : decode cX5_handOver 80 = .ok (.aload 5, 2) := by decide +kernel
theorem dX5_handOver_82 : decode cX5_handOver 82 = .ok (.getfield 118, 3) := by decide +kernel
theorem dX5_handOver_85 : decode cX5_handOver 85 = .ok (.iload_n 2, 1) := by decide +kernel
theorem dX5_handOver_86 : decode cX5_handOver 86 = .ok (.if_icmp .le 21, 3) := by decide +kernel
theorem dX5_handOver_89 : decode cX5_handOver 89 = .ok (.aload_n 0, 1) := by decide +kernel
theorem dX5_handOver_90 : decode cX5_handOver 90 = .ok (.invokevirtual 87, 3) := by decide +kernel
theorem dX5_handOver_93 : decode cX5_handOver 93 = .ok (.ifCond .eq 5, 3) := by decide +kernel
theorem dX5_handOver_96 : decode cX5_handOver 96 = .ok (.iload_n 2, 1) := by decide +kernel
theorem dX5_handOver_97 : decode cX5_handOver 97 = .ok (.ireturn, 1) := by decide +kernel
theorem dX5_handOver_98 : decode cX5_handOver 98 = .ok (.aload_n 0, 1) := by decide +kernel
theorem dX5_handOver_99 : decode cX5_handOver 99 = .ok (.aload 5, 2) := by decide +kernel
theorem dX5_handOver_101 : decode cX5_handOver 101 = .ok (.iload_n 2, 1) := by decide +kernel
theorem dX5_handOver_102 : decode cX5_handOver 102 = .ok (.invokevirtual 128, 3) := by decide +kernel
theorem dX5_handOver_105 : decode cX5_handOver 105 = .ok (.astore 5, 2) := by decide +kernel
theorem dX5_handOver_107 : decode cX5_handOver 107 = .ok (.aload_n 0, 1) := by decide +kernel
theorem dX5_handOver_108 : decode cX5_handOver 108 = .ok (.aload 5, 2) := by decide +kernel
theorem dX5_handOver_110 : decode cX5_handOver 110 = .ok (.aload_n 1, 1) := by decide +kernel
theorem dX5_handOver_111 : decode cX5_handOver 111 = .ok (.getfield 361, 3) := by decide +kernel
theorem dX5_handOver_114 : decode cX5_handOver 114 = .ok (.invokevirtual 147, 3) := by decide +kernel
theorem dX5_handOver_117 : decode cX5_handOver 117 = .ok (.aload 5, 2) := by decide +kernel
theorem dX5_handOver_119 : decode cX5_handOver 119 = .ok (.aload_n 1, 1) := by decide +kernel
theorem dX5_handOver_120 : decode cX5_handOver 120 = .ok (.putfield 226, 3) := by decide +kernel
theorem dX5_handOver_123 : decode cX5_handOver 123 = .ok (.iload_n 2, 1) := by decide +kernel
theorem dX5_handOver_124 : decode cX5_handOver 124 = .ok (.aload 5, 2) := by decide +kernel
theorem dX5_handOver_126 : decode cX5_handOver 126 = .ok (.getfield 118, 3) := by decide +kernel
theorem dX5_handOver_129 : decode cX5_handOver 129 = .ok (.isub, 1) := by decide +kernel
theorem dX5_handOver_130 : decode cX5_handOver 130 = .ok (.istore_n 2, 1) := by decide +kernel
theorem dX5_handOver_131 : decode cX5_handOver 131 = .ok (.iinc 4 1, 3) := by decide +kernel
theorem dX5_handOver_134 : decode cX5_handOver 134 = .ok (.goto (-118), 3) := by decide +kernel
theorem dX5_handOver_137 : decode cX5_handOver 137 = .ok (.iload_n 2, 1) := by decide +kernel
theorem dX5_handOver_138 : decode cX5_handOver 138 = .ok (.ireturn, 1) := by decide +kernel
