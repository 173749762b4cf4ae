theorem dX0_init_0 : decode cX0_init 0 = .ok (.aload_n 0, 1) := by decide +kernel
theorem dX0_init_1 : decode cX0_init 1 = .ok (.invokespecial 1, 3) := by decide +kernel
theorem dX0_init_4 : decode cX0_init 4 = .ok (.aload_n 0, 1) := by decide +kernel
theorem dX0_init_5 : decode cX0_init 5 = .ok (.iload_n 1, 1) := by decide +kernel
theorem dX0_init_6 : decode cX0_init 6 = .ok (.putfield 7, 3) := by decide +kernel
theorem dX0_init_9 : decode cX0_init 9 = .ok (.aload_n 0, 1) := by decide +kernel
theorem dX0_init_10 : decode cX0_init 10 = .ok (.iload_n 2, 1) := by decide +kernel
theorem dX0_init_11 : decode cX0_init 11 = .ok (.putfield 13, 3) := by decide +kernel
theorem dX0_init_14 : decode cX0_init 14 = .ok (.aload_n 0, 1) := by decide +kernel
theorem dX0_init_15 : decode cX0_init 15 = .ok (.iload_n 3, 1) := by decide +kernel
theorem dX0_init_16 : decode cX0_init 16 = .ok (.putfield 16, 3) := by decide +kernel
theorem dX0_init_19 : decode cX0_init 19 = .ok (.aload_n 0, 1) := by decide +kernel
theorem dX0_init_20 : decode cX0_init 20 = .ok (.iload 4, 2) := by decide +kernel
theorem dX0_init_22 : decode cX0_init 22 = .ok (.putfield 19, 3) := by decide +kernel
theorem dX0_init_25 : decode cX0_init 25 = .ok (.aload_n 0, 1) := by decide +kernel
theorem dX0_init_26 : decode cX0_init 26 = .ok (.iload 5, 2) := by decide +kernel
theorem dX0_init_28 : decode cX0_init 28 = .ok (.putfield 22, 3) := by decide +kernel
theorem dX0_init_31 : decode cX0_init 31 = .ok (.return_, 1) := by decide +kernel
theorem dX1_init_0 : decode cX1_init 0 = .ok (.aload_n 0, 1) := by decide +kernel
theorem dX1_init_1 : decode cX1_init 1 = .ok (.invokespecial 1, 3) := by decide +kernel
theorem dX1_init_4 : decode cX1_init 4 = .ok (.aload_n 0, 1) := by decide +kernel
theorem dX1_init_5 : decode cX1_init 5 = .ok (.iload_n 1, 1) := by decide +kernel
theorem dX1_init_6 : decode cX1_init 6 = .ok (.putfield 7, 3) := by decide +kernel
theorem dX1_init_9 : decode cX1_init 9 = .ok (.aload_n 0, 1) := by decide +kernel
theorem dX1_init_10 : decode cX1_init 10 = .ok (.iload_n 2, 1) := by decide +kernel
theorem dX1_init_11 : decode cX1_init 11 = .ok (.putfield 13, 3) := by decide +kernel
theorem dX1_init_14 : decode cX1_init 14 = .ok (.aload_n 0, 1) := by decide +kernel
theorem dX1_init_15 : decode cX1_init 15 = .ok (.iload_n 3, 1) := by decide +kernel
theorem dX1_init_16 : decode cX1_init 16 = .ok (.putfield 16, 3) := by decide +kernel
theorem dX1_init_19 : decode cX1_init 19 = .ok (.aload_n 0, 1) := by decide +kernel
theorem dX1_init_20 : decode cX1_init 20 = .ok (.iload 4, 2) := by decide +kernel
theorem dX1_init_22 : decode cX1_init 22 = .ok (.putfield 19, 3) := by decide +kernel
theorem dX1_init_25 : decode cX1_init 25 = .ok (.aload_n 0, 1) := by decide +kernel
theorem dX1_init_26 : decode cX1_init 26 = .ok (.aload 5, 2) := by decide +kernel
theorem dX1_init_28 : decode cX1_init 28 = .ok (.putfield 22, 3) := by decide +kernel
theorem dX1_init_31 : decode cX1_init 31 = .ok (.return_, 1) := by decide +kernel
theorem dX2_init_0 : decode cX2_init 0 = .ok (.aload_n 0, 1) := by decide +kernel
theorem dX2_init_1 : decode cX2_init 1 = .ok (.invokespecial 3, 3) := by decide +kernel
theorem dX2_init_4 : decode cX2_init 4 = .ok (.aload_n 0, 1) := by decide +kernel
theorem dX2_init_5 : decode cX2_init 5 = .ok (.iload_n 1, 1) := by decide +kernel
theorem dX2_init_6 : decode cX2_init 6 = .ok (.putfield 9, 3) := by decide +kernel
theorem dX2_init_9 : decode cX2_init 9 = .ok (.aload_n 0, 1) := by decide +kernel
theorem dX2_init_10 : decode cX2_init 10 = .ok (.aload_n 2, 1) := by decide +kernel
theorem dX2_init_11 : decode cX2_init 11 = .ok (.putfield 15, 3) := by decide +kernel
theorem dX2_init_14 : decode cX2_init 14 = .ok (.aload_n 0, 1) := by decide +kernel
theorem dX2_init_15 : decode cX2_init 15 = .ok (.aload_n 3, 1) := by decide +kernel
theorem dX2_init_16 : decode cX2_init 16 = .ok (.putfield 19, 3) := by decide +kernel
theorem dX2_init_19 : decode cX2_init 19 = .ok (.aload_n 0, 1) := by decide +kernel
theorem dX2_init_20 : decode cX2_init 20 = .ok (.iconst (-1), 1) := by decide +kernel
theorem dX2_init_21 : decode cX2_init 21 = .ok (.putfield 23, 3) := by decide +kernel
theorem dX2_init_24 : decode cX2_init 24 = .ok (.aload_n 0, 1) := by decide +kernel
theorem dX2_init_25 : decode cX2_init 25 = .ok (.iconst (-1), 1) := by decide +kernel
theorem dX2_init_26 : decode cX2_init 26 = .ok (.putfield 26, 3) := by decide +kernel
theorem dX2_init_29 : decode cX2_init 29 = .ok (.aload_n 0, 1) := by decide +kernel
theorem dX2_init_30 : decode cX2_init 30 = .ok (.iconst (-1), 1) := by decide +kernel
theorem dX2_init_31 : decode cX2_init 31 = .ok (.putfield 29, 3) := by decide +kernel
theorem dX2_init_34 : decode cX2_init 34 = .ok (.aload_n 0, 1) := by decide +kernel
theorem dX2_init_35 : decode cX2_init 35 = .ok (.iconst (-1), 1) := by decide +kernel
theorem dX2_init_36 : decode cX2_init 36 = .ok (.putfield 32, 3) := by decide +kernel
theorem dX2_init_39 : decode cX2_init 39 = .ok (.return_, 1) := by decide +kernel
theorem dX2_holder_0 : decode cX2_holder 0 = .ok (.aload_n 0, 1) := by decide +kernel
theorem dX2_holder_1 : decode cX2_holder 1 = .ok (.getfield 19, 3) := by decide +kernel
theorem dX2_holder_4 : decode cX2_holder 4 = .ok (.getfield 35, 3) := by decide +kernel
theorem dX2_holder_7 : decode cX2_holder 7 = .ok (.ireturn, 1) := by decide +kernel
theorem dX2_isLive_0 : decode cX2_isLive 0 = .ok (.aload_n 0, 1) := by decide +kernel
theorem dX2_isLive_1 : decode cX2_isLive 1 = .ok (.getfield 40, 3) := by decide +kernel
theorem dX2_isLive_4 : decode cX2_isLive 4 = .ok (.ifCond .le 7, 3) := by decide +kernel
theorem dX2_isLive_7 : decode cX2_isLive 7 = .ok (.iconst 1, 1) := by decide +kernel
theorem dX2_isLive_8 : decode cX2_isLive 8 = .ok (.goto 4, 3) := by decide +kernel
theorem dX2_isLive_11 : decode cX2_isLive 11 = .ok (.iconst 0, 1) := by decide +kernel
theorem dX2_isLive_12 : decode cX2_isLive 12 = .ok (.ireturn, 1) := by decide +kernel
theorem dX2_isLiveIn_0 : decode cX2_isLiveIn 0 = .ok (.aload_n 0, 1) := by decide +kernel
theorem dX2_isLiveIn_1 : decode cX2_isLiveIn 1 = .ok (.getfield 40, 3) := by decide +kernel
theorem dX2_isLiveIn_4 : decode cX2_isLiveIn 4 = .ok (.ifCond .le 18, 3) := by decide +kernel
theorem dX2_isLiveIn_7 : decode cX2_isLiveIn 7 = .ok (.aload_n 0, 1) := by decide +kernel
theorem dX2_isLiveIn_8 : decode cX2_isLiveIn 8 = .ok (.getfield 15, 3) := by decide +kernel
theorem dX2_isLiveIn_11 : decode cX2_isLiveIn 11 = .ok (.getfield 43, 3) := by decide +kernel
theorem dX2_isLiveIn_14 : decode cX2_isLiveIn 14 = .ok (.aload_n 1, 1) := by decide +kernel
theorem dX2_isLiveIn_15 : decode cX2_isLiveIn 15 = .ok (.if_acmp .ne 7, 3) := by decide +kernel
theorem dX2_isLiveIn_18 : decode cX2_isLiveIn 18 = .ok (.iconst 1, 1) := by decide +kernel
theorem dX2_isLiveIn_19 : decode cX2_isLiveIn 19 = .ok (.goto 4, 3) := by decide +kernel
theorem dX2_isLiveIn_22 : decode cX2_isLiveIn 22 = .ok (.iconst 0, 1) := by decide +kernel
theorem dX2_isLiveIn_23 : decode cX2_isLiveIn 23 = .ok (.ireturn, 1) := by decide +kernel
set_option maxRecDepth 20000 in
theorem ggX2_isLiveOf_X3_isOf : GoodIn wsX2_isLiveOf wsX3_isOf := goodIn_r _ [10, 11, 12, 13, 33, 34, 35, 36, 37, 38] (by decide +kernel) (by decide +kernel)
set_option maxRecDepth 20000 in
theorem gX2_isLiveOf_X3_isOf : GoodIn wsX2_isLiveOf (wsV RX2 49 RX3 yX3_isOf wsX3_isOf) := goodIn_app (goodIn_of _ (by decide +kernel)) ggX2_isLiveOf_X3_isOf
theorem dX2_isLiveOf_0 : decode cX2_isLiveOf 0 = .ok (.aload_n 0, 1) := by decide +kernel
theorem dX2_isLiveOf_1 : decode cX2_isLiveOf 1 = .ok (.getfield 40, 3) := by decide +kernel
theorem dX2_isLiveOf_4 : decode cX2_isLiveOf 4 = .ok (.ifCond .le 33, 3) := by decide +kernel
theorem dX2_isLiveOf_7 : decode cX2_isLiveOf 7 = .ok (.aload_n 0, 1) := by decide +kernel
theorem dX2_isLiveOf_8 : decode cX2_isLiveOf 8 = .ok (.getfield 19, 3) := by decide +kernel
theorem dX2_isLiveOf_11 : decode cX2_isLiveOf 11 = .ok (.getfield 35, 3) := by decide +kernel
theorem dX2_isLiveOf_14 : decode cX2_isLiveOf 14 = .ok (.iload_n 1, 1) := by decide +kernel
theorem dX2_isLiveOf_15 : decode cX2_isLiveOf 15 = .ok (.if_icmp .ne 22, 3) := by decide +kernel
theorem dX2_isLiveOf_18 : decode cX2_isLiveOf 18 = .ok (.aload_n 0, 1) := by decide +kernel
theorem dX2_isLiveOf_19 : decode cX2_isLiveOf 19 = .ok (.getfield 15, 3) := by decide +kernel
theorem dX2_isLiveOf_22 : decode cX2_isLiveOf 22 = .ok (.getfield 43, 3) := by decide +kernel
theorem dX2_isLiveOf_25 : decode cX2_isLiveOf 25 = .ok (.iload_n 2, 1) := by decide +kernel
theorem dX2_isLiveOf_26 : decode cX2_isLiveOf 26 = .ok (.iload_n 3, 1) := by decide +kernel
theorem dX2_isLiveOf_27 : decode cX2_isLiveOf 27 = .ok (.invokevirtual 49, 3) := by decide +kernel
theorem dX2_isLiveOf_30 : decode cX2_isLiveOf 30 = .ok (.ifCond .eq 7, 3) := by decide +kernel
theorem dX2_isLiveOf_33 : decode cX2_isLiveOf 33 = .ok (.iconst 1, 1) := by decide +kernel
theorem dX2_isLiveOf_34 : decode cX2_isLiveOf 34 = .ok (.goto 4, 3) := by decide +kernel
theorem dX2_isLiveOf_37 : decode cX2_isLiveOf 37 = .ok (.iconst 0, 1) := by decide +kernel
theorem dX2_isLiveOf_38 : decode cX2_isLiveOf 38 = .ok (.ireturn, 1) := by decide +kernel
theorem dX2_isPledged_0 : decode cX2_isPledged 0 = .ok (.aload_n 0, 1) := by decide +kernel
theorem dX2_isPledged_1 : decode cX2_isPledged 1 = .ok (.getfield 23, 3) := by decide +kernel
theorem dX2_isPledged_4 : decode cX2_isPledged 4 = .ok (.iconst (-1), 1) := by decide +kernel
theorem dX2_isPledged_5 : decode cX2_isPledged 5 = .ok (.if_icmp .eq 7, 3) := by decide +kernel
theorem dX2_isPledged_8 : decode cX2_isPledged 8 = .ok (.iconst 1, 1) := by decide +kernel
theorem dX2_isPledged_9 : decode cX2_isPledged 9 = .ok (.goto 4, 3) := by decide +kernel
theorem dX2_isPledged_12 : decode cX2_isPledged 12 = .ok (.iconst 0, 1) := by decide +kernel
theorem dX2_isPledged_13 : decode cX2_isPledged 13 = .ok (.ireturn, 1) := by decide +kernel
theorem dX2_endPledge_0 : decode cX2_endPledge 0 = .ok (.aload_n 0, 1) := by decide +kernel
theorem dX2_endPledge_1 : decode cX2_endPledge 1 = .ok (.iconst (-1), 1) := by decide +kernel
theorem dX2_endPledge_2 : decode cX2_endPledge 2 = .ok (.putfield 23, 3) := by decide +kernel
theorem dX2_endPledge_5 : decode cX2_endPledge 5 = .ok (.aload_n 0, 1) := by decide +kernel
theorem dX2_endPledge_6 : decode cX2_endPledge 6 = .ok (.iconst (-1), 1) := by decide +kernel
theorem dX2_endPledge_7 : decode cX2_endPledge 7 = .ok (.putfield 26, 3) := by decide +kernel
theorem dX2_endPledge_10 : decode cX2_endPledge 10 = .ok (.aload_n 0, 1) := by decide +kernel
theorem dX2_endPledge_11 : decode cX2_endPledge 11 = .ok (.iconst (-1), 1) := by decide +kernel
theorem dX2_endPledge_12 : decode cX2_endPledge 12 = .ok (.putfield 29, 3) := by decide +kernel
theorem dX2_endPledge_15 : decode cX2_endPledge 15 = .ok (.return_, 1) := by decide +kernel
theorem dX3_init_0 : decode cX3_init 0 = .ok (.aload_n 0, 1) := by decide +kernel
theorem dX3_init_1 : decode cX3_init 1 = .ok (.invokespecial 3, 3) := by decide +kernel
theorem dX3_init_4 : decode cX3_init 4 = .ok (.aload_n 0, 1) := by decide +kernel
theorem dX3_init_5 : decode cX3_init 5 = .ok (.iload_n 1, 1) := by decide +kernel
theorem dX3_init_6 : decode cX3_init 6 = .ok (.putfield 9, 3) := by decide +kernel
theorem dX3_init_9 : decode cX3_init 9 = .ok (.aload_n 0, 1) := by decide +kernel
theorem dX3_init_10 : decode cX3_init 10 = .ok (.iload_n 2, 1) := by decide +kernel
theorem dX3_init_11 : decode cX3_init 11 = .ok (.putfield 15, 3) := by decide +kernel
theorem dX3_init_14 : decode cX3_init 14 = .ok (.aload_n 0, 1) := by decide +kernel
theorem dX3_init_15 : decode cX3_init 15 = .ok (.iconst (-1), 1) := by decide +kernel
theorem dX3_init_16 : decode cX3_init 16 = .ok (.putfield 18, 3) := by decide +kernel
theorem dX3_init_19 : decode cX3_init 19 = .ok (.aload_n 0, 1) := by decide +kernel
theorem dX3_init_20 : decode cX3_init 20 = .ok (.iconst (-1), 1) := by decide +kernel
theorem dX3_init_21 : decode cX3_init 21 = .ok (.putfield 21, 3) := by decide +kernel
theorem dX3_init_24 : decode cX3_init 24 = .ok (.return_, 1) := by decide +kernel
theorem dX3_isEmpty_0 : decode cX3_isEmpty 0 = .ok (.aload_n 0, 1) := by decide +kernel
theorem dX3_isEmpty_1 : decode cX3_isEmpty 1 = .ok (.getfield 24, 3) := by decide +kernel
theorem dX3_isEmpty_4 : decode cX3_isEmpty 4 = .ok (.ifCond .gt 7, 3) := by decide +kernel
theorem dX3_isEmpty_7 : decode cX3_isEmpty 7 = .ok (.iconst 1, 1) := by decide +kernel
theorem dX3_isEmpty_8 : decode cX3_isEmpty 8 = .ok (.goto 4, 3) := by decide +kernel
theorem dX3_isEmpty_11 : decode cX3_isEmpty 11 = .ok (.iconst 0, 1) := by decide +kernel
theorem dX3_isEmpty_12 : decode cX3_isEmpty 12 = .ok (.ireturn, 1) := by decide +kernel
theorem dX3_isOf_0 : decode cX3_isOf 0 = .ok (.aload_n 0, 1) := by decide +kernel
theorem dX3_isOf_1 : decode cX3_isOf 1 = .ok (.getfield 24, 3) := by decide +kernel
theorem dX3_isOf_4 : decode cX3_isOf 4 = .ok (.ifCond .le 23, 3) := by decide +kernel
theorem dX3_isOf_7 : decode cX3_isOf 7 = .ok (.aload_n 0, 1) := by decide +kernel
theorem dX3_isOf_8 : decode cX3_isOf 8 = .ok (.getfield 18, 3) := by decide +kernel
theorem dX3_isOf_11 : decode cX3_isOf 11 = .ok (.iload_n 1, 1) := by decide +kernel
theorem dX3_isOf_12 : decode cX3_isOf 12 = .ok (.if_icmp .ne 15, 3) := by decide +kernel
theorem dX3_isOf_15 : decode cX3_isOf 15 = .ok (.aload_n 0, 1) := by decide +kernel
theorem dX3_isOf_16 : decode cX3_isOf 16 = .ok (.getfield 21, 3) := by decide +kernel
theorem dX3_isOf_19 : decode cX3_isOf 19 = .ok (.iload_n 2, 1) := by decide +kernel
theorem dX3_isOf_20 : decode cX3_isOf 20 = .ok (.if_icmp .ne 7, 3) := by decide +kernel
theorem dX3_isOf_23 : decode cX3_isOf 23 = .ok (.iconst 1, 1) := by decide +kernel
theorem dX3_isOf_24 : decode cX3_isOf 24 = .ok (.goto 4, 3) := by decide +kernel
theorem dX3_isOf_27 : decode cX3_isOf 27 = .ok (.iconst 0, 1) := by decide +kernel
theorem dX3_isOf_28 : decode cX3_isOf 28 = .ok (.ireturn, 1) := by decide +kernel
theorem dX3_hasRoomFor_0 : decode cX3_hasRoomFor 0 = .ok (.iload_n 1, 1) := by decide +kernel
theorem dX3_hasRoomFor_1 : decode cX3_hasRoomFor 1 = .ok (.aload_n 0, 1) := by decide +kernel
theorem dX3_hasRoomFor_2 : decode cX3_hasRoomFor 2 = .ok (.getfield 15, 3) := by decide +kernel
theorem dX3_hasRoomFor_5 : decode cX3_hasRoomFor 5 = .ok (.aload_n 0, 1) := by decide +kernel
theorem dX3_hasRoomFor_6 : decode cX3_hasRoomFor 6 = .ok (.getfield 24, 3) := by decide +kernel
theorem dX3_hasRoomFor_9 : decode cX3_hasRoomFor 9 = .ok (.isub, 1) := by decide +kernel
theorem dX3_hasRoomFor_10 : decode cX3_hasRoomFor 10 = .ok (.if_icmp .gt 7, 3) := by decide +kernel
theorem dX3_hasRoomFor_13 : decode cX3_hasRoomFor 13 = .ok (.iconst 1, 1) := by decide +kernel
theorem dX3_hasRoomFor_14 : decode cX3_hasRoomFor 14 = .ok (.goto 4, 3) := by decide +kernel
theorem dX3_hasRoomFor_17 : decode cX3_hasRoomFor 17 = .ok (.iconst 0, 1) := by decide +kernel
theorem dX3_hasRoomFor_18 : decode cX3_hasRoomFor 18 = .ok (.ireturn, 1) := by decide +kernel
theorem dX4_init_0 : decode cX4_init 0 = .ok (.aload_n 0, 1) := by decide +kernel
theorem dX4_init_1 : decode cX4_init 1 = .ok (.invokespecial 1, 3) := by decide +kernel
theorem dX4_init_4 : decode cX4_init 4 = .ok (.aload_n 0, 1) := by decide +kernel
theorem dX4_init_5 : decode cX4_init 5 = .ok (.iload_n 1, 1) := by decide +kernel
theorem dX4_init_6 : decode cX4_init 6 = .ok (.putfield 7, 3) := by decide +kernel
theorem dX4_init_9 : decode cX4_init 9 = .ok (.aload_n 0, 1) := by decide +kernel
theorem dX4_init_10 : decode cX4_init 10 = .ok (.iload_n 2, 1) := by decide +kernel
theorem dX4_init_11 : decode cX4_init 11 = .ok (.putfield 13, 3) := by decide +kernel
theorem dX4_init_14 : decode cX4_init 14 = .ok (.aload_n 0, 1) := by decide +kernel
theorem dX4_init_15 : decode cX4_init 15 = .ok (.aload_n 3, 1) := by decide +kernel
theorem dX4_init_16 : decode cX4_init 16 = .ok (.putfield 16, 3) := by decide +kernel
theorem dX4_init_19 : decode cX4_init 19 = .ok (.return_, 1) := by decide +kernel
set_option maxRecDepth 20000 in
theorem ggX5_init_Jx4a65c_init_da8c8 : GoodIn wsX5_init wsJx4a65c_init_da8c8 := goodIn_r _ [22, 23, 24, 25, 26, 27, 28, 29, 30, 31, 32, 33, 34, 2, 3, 35, 36, 37] (by decide +kernel) (by decide +kernel)
