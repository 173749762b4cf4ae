section
-- ===== PART A: goes FIRST, ahead of the names: the tables' words, and 'selects' of the private methods out of them =====
/-- a private method of a class that the tables say can be made, by its rows of tables_1 -/
def lw_okq (q : MethodName × Nat) : Prop := (q.1.cls ≠ "java/lang/invoke/MethodHandle" ∧ q.1.cls ≠ "java/lang/invoke/VarHandle") ∧ Cond.instantiable q.1.cls q.2 ∈ tables_1 ∧ Cond.privateMethod q.1 ∈ tables_1 ∧ Cond.instanceMethod q.1 ∈ tables_1
theorem lw_p0 : lw_okq (⟨"java/lang/Throwable", "fillInStackTrace", "(I)Ljava/lang/Throwable;"⟩, 6) := ⟨⟨by decide +kernel, by decide +kernel⟩, List.mem_of_getElem? (i := 153) (by decide +kernel), List.mem_of_getElem? (i := 151) (by decide +kernel), List.mem_of_getElem? (i := 152) (by decide +kernel)⟩
theorem lw_p1 : lw_okq (⟨"java/util/ArrayList", "add", "(Ljava/lang/Object;[Ljava/lang/Object;I)V"⟩, 3) := ⟨⟨by decide +kernel, by decide +kernel⟩, List.mem_of_getElem? (i := 32) (by decide +kernel), List.mem_of_getElem? (i := 232) (by decide +kernel), List.mem_of_getElem? (i := 233) (by decide +kernel)⟩
theorem lw_p2 : lw_okq (⟨"java/util/ArrayList", "grow", "()[Ljava/lang/Object;"⟩, 3) := ⟨⟨by decide +kernel, by decide +kernel⟩, List.mem_of_getElem? (i := 32) (by decide +kernel), List.mem_of_getElem? (i := 236) (by decide +kernel), List.mem_of_getElem? (i := 237) (by decide +kernel)⟩
theorem lw_p3 : lw_okq (⟨"java/util/ArrayList", "grow", "(I)[Ljava/lang/Object;"⟩, 3) := ⟨⟨by decide +kernel, by decide +kernel⟩, List.mem_of_getElem? (i := 32) (by decide +kernel), List.mem_of_getElem? (i := 240) (by decide +kernel), List.mem_of_getElem? (i := 241) (by decide +kernel)⟩
theorem lw_p4 : lw_okq (⟨"Grainledger", "siloFor", "(III)LGrainledger$Silo;"⟩, 11) := ⟨⟨by decide +kernel, by decide +kernel⟩, List.mem_of_getElem? (i := 24) (by decide +kernel), List.mem_of_getElem? (i := 307) (by decide +kernel), List.mem_of_getElem? (i := 308) (by decide +kernel)⟩
theorem lw_p5 : lw_okq (⟨"Grainledger", "receiptsAreFull", "()Z"⟩, 11) := ⟨⟨by decide +kernel, by decide +kernel⟩, List.mem_of_getElem? (i := 24) (by decide +kernel), List.mem_of_getElem? (i := 337) (by decide +kernel), List.mem_of_getElem? (i := 338) (by decide +kernel)⟩
theorem lw_p6 : lw_okq (⟨"Grainledger", "putIn", "(LGrainledger$Delivery;I)I"⟩, 11) := ⟨⟨by decide +kernel, by decide +kernel⟩, List.mem_of_getElem? (i := 24) (by decide +kernel), List.mem_of_getElem? (i := 376) (by decide +kernel), List.mem_of_getElem? (i := 377) (by decide +kernel)⟩
theorem lw_p7 : lw_okq (⟨"Grainledger", "makeReceipt", "(LGrainledger$Delivery;II)LGrainledger$Receipt;"⟩, 11) := ⟨⟨by decide +kernel, by decide +kernel⟩, List.mem_of_getElem? (i := 24) (by decide +kernel), List.mem_of_getElem? (i := 380) (by decide +kernel), List.mem_of_getElem? (i := 381) (by decide +kernel)⟩
theorem lw_p8 : lw_okq (⟨"Grainledger", "findReceipt", "(I)LGrainledger$Receipt;"⟩, 11) := ⟨⟨by decide +kernel, by decide +kernel⟩, List.mem_of_getElem? (i := 24) (by decide +kernel), List.mem_of_getElem? (i := 454) (by decide +kernel), List.mem_of_getElem? (i := 455) (by decide +kernel)⟩
theorem lw_p9 : lw_okq (⟨"Grainledger", "splitOff", "(LGrainledger$Receipt;I)LGrainledger$Receipt;"⟩, 11) := ⟨⟨by decide +kernel, by decide +kernel⟩, List.mem_of_getElem? (i := 24) (by decide +kernel), List.mem_of_getElem? (i := 479) (by decide +kernel), List.mem_of_getElem? (i := 480) (by decide +kernel)⟩
theorem lw_p10 : lw_okq (⟨"Grainledger", "pay", "(IIJ)V"⟩, 11) := ⟨⟨by decide +kernel, by decide +kernel⟩, List.mem_of_getElem? (i := 24) (by decide +kernel), List.mem_of_getElem? (i := 503) (by decide +kernel), List.mem_of_getElem? (i := 504) (by decide +kernel)⟩
theorem lw_p11 : lw_okq (⟨"Grainledger", "changeHolder", "(LGrainledger$Receipt;I)V"⟩, 11) := ⟨⟨by decide +kernel, by decide +kernel⟩, List.mem_of_getElem? (i := 24) (by decide +kernel), List.mem_of_getElem? (i := 507) (by decide +kernel), List.mem_of_getElem? (i := 508) (by decide +kernel)⟩
theorem lw_p12 : lw_okq (⟨"Grainledger", "takeFrom", "(LGrainledger$Receipt;I)V"⟩, 11) := ⟨⟨by decide +kernel, by decide +kernel⟩, List.mem_of_getElem? (i := 24) (by decide +kernel), List.mem_of_getElem? (i := 538) (by decide +kernel), List.mem_of_getElem? (i := 539) (by decide +kernel)⟩
theorem lw_p13 : lw_okq (⟨"Grainledger", "findDelivery", "(I)LGrainledger$Delivery;"⟩, 11) := ⟨⟨by decide +kernel, by decide +kernel⟩, List.mem_of_getElem? (i := 24) (by decide +kernel), List.mem_of_getElem? (i := 549) (by decide +kernel), List.mem_of_getElem? (i := 550) (by decide +kernel)⟩
theorem lw_p14 : lw_okq (⟨"Grainledger", "owe", "(II)V"⟩, 11) := ⟨⟨by decide +kernel, by decide +kernel⟩, List.mem_of_getElem? (i := 24) (by decide +kernel), List.mem_of_getElem? (i := 555) (by decide +kernel), List.mem_of_getElem? (i := 556) (by decide +kernel)⟩
theorem lw_p15 : lw_okq (⟨"Grainledger", "takeBack", "(LGrainledger$Delivery;I)V"⟩, 11) := ⟨⟨by decide +kernel, by decide +kernel⟩, List.mem_of_getElem? (i := 24) (by decide +kernel), List.mem_of_getElem? (i := 559) (by decide +kernel), List.mem_of_getElem? (i := 560) (by decide +kernel)⟩
def lw_privs_1 : List (MethodName × Nat) := [(⟨"java/lang/Throwable", "fillInStackTrace", "(I)Ljava/lang/Throwable;"⟩, 6), (⟨"java/util/ArrayList", "add", "(Ljava/lang/Object;[Ljava/lang/Object;I)V"⟩, 3), (⟨"java/util/ArrayList", "grow", "()[Ljava/lang/Object;"⟩, 3), (⟨"java/util/ArrayList", "grow", "(I)[Ljava/lang/Object;"⟩, 3), (⟨"Grainledger", "siloFor", "(III)LGrainledger$Silo;"⟩, 11), (⟨"Grainledger", "receiptsAreFull", "()Z"⟩, 11), (⟨"Grainledger", "putIn", "(LGrainledger$Delivery;I)I"⟩, 11), (⟨"Grainledger", "makeReceipt", "(LGrainledger$Delivery;II)LGrainledger$Receipt;"⟩, 11), (⟨"Grainledger", "findReceipt", "(I)LGrainledger$Receipt;"⟩, 11), (⟨"Grainledger", "splitOff", "(LGrainledger$Receipt;I)LGrainledger$Receipt;"⟩, 11), (⟨"Grainledger", "pay", "(IIJ)V"⟩, 11), (⟨"Grainledger", "changeHolder", "(LGrainledger$Receipt;I)V"⟩, 11), (⟨"Grainledger", "takeFrom", "(LGrainledger$Receipt;I)V"⟩, 11), (⟨"Grainledger", "findDelivery", "(I)LGrainledger$Delivery;"⟩, 11), (⟨"Grainledger", "owe", "(II)V"⟩, 11), (⟨"Grainledger", "takeBack", "(LGrainledger$Delivery;I)V"⟩, 11)]
theorem lw_r1 : ∀ q ∈ lw_privs_1, lw_okq q := List.forall_mem_cons.mpr ⟨lw_p0, List.forall_mem_cons.mpr ⟨lw_p1, List.forall_mem_cons.mpr ⟨lw_p2, List.forall_mem_cons.mpr ⟨lw_p3, List.forall_mem_cons.mpr ⟨lw_p4, List.forall_mem_cons.mpr ⟨lw_p5, List.forall_mem_cons.mpr ⟨lw_p6, List.forall_mem_cons.mpr ⟨lw_p7, List.forall_mem_cons.mpr ⟨lw_p8, List.forall_mem_cons.mpr ⟨lw_p9, List.forall_mem_cons.mpr ⟨lw_p10, List.forall_mem_cons.mpr ⟨lw_p11, List.forall_mem_cons.mpr ⟨lw_p12, List.forall_mem_cons.mpr ⟨lw_p13, List.forall_mem_cons.mpr ⟨lw_p14, List.forall_mem_cons.mpr ⟨lw_p15, fun _ h => absurd h List.not_mem_nil⟩⟩⟩⟩⟩⟩⟩⟩⟩⟩⟩⟩⟩⟩⟩⟩
theorem lw_p16 : lw_okq (⟨"Grainledger", "takeBackFrom", "(LGrainledger$Receipt;II)I"⟩, 11) := ⟨⟨by decide +kernel, by decide +kernel⟩, List.mem_of_getElem? (i := 24) (by decide +kernel), List.mem_of_getElem? (i := 563) (by decide +kernel), List.mem_of_getElem? (i := 564) (by decide +kernel)⟩
theorem lw_p17 : lw_okq (⟨"Grainledger", "payForTaken", "(LGrainledger$Receipt;II)V"⟩, 11) := ⟨⟨by decide +kernel, by decide +kernel⟩, List.mem_of_getElem? (i := 24) (by decide +kernel), List.mem_of_getElem? (i := 568) (by decide +kernel), List.mem_of_getElem? (i := 569) (by decide +kernel)⟩
theorem lw_p18 : lw_okq (⟨"Grainledger", "passOneDay", "()V"⟩, 11) := ⟨⟨by decide +kernel, by decide +kernel⟩, List.mem_of_getElem? (i := 24) (by decide +kernel), List.mem_of_getElem? (i := 634) (by decide +kernel), List.mem_of_getElem? (i := 635) (by decide +kernel)⟩
theorem lw_p19 : lw_okq (⟨"Grainledger", "shrink", "(LGrainledger$Silo;)V"⟩, 11) := ⟨⟨by decide +kernel, by decide +kernel⟩, List.mem_of_getElem? (i := 24) (by decide +kernel), List.mem_of_getElem? (i := 638) (by decide +kernel), List.mem_of_getElem? (i := 639) (by decide +kernel)⟩
theorem lw_p20 : lw_okq (⟨"Grainledger", "bearOneEach", "(LGrainledger$Silo;I)V"⟩, 11) := ⟨⟨by decide +kernel, by decide +kernel⟩, List.mem_of_getElem? (i := 24) (by decide +kernel), List.mem_of_getElem? (i := 647) (by decide +kernel), List.mem_of_getElem? (i := 648) (by decide +kernel)⟩
theorem lw_p21 : lw_okq (⟨"Grainledger", "greatestRemainder", "(LGrainledger$Silo;)LGrainledger$Receipt;"⟩, 11) := ⟨⟨by decide +kernel, by decide +kernel⟩, List.mem_of_getElem? (i := 24) (by decide +kernel), List.mem_of_getElem? (i := 651) (by decide +kernel), List.mem_of_getElem? (i := 652) (by decide +kernel)⟩
theorem lw_p22 : lw_okq (⟨"Grainledger", "forfeitIfDue", "(LGrainledger$Receipt;)V"⟩, 11) := ⟨⟨by decide +kernel, by decide +kernel⟩, List.mem_of_getElem? (i := 24) (by decide +kernel), List.mem_of_getElem? (i := 655) (by decide +kernel), List.mem_of_getElem? (i := 656) (by decide +kernel)⟩
theorem lw_p23 : lw_okq (⟨"Grainledger", "settle", "(LGrainledger$Contract;)V"⟩, 11) := ⟨⟨by decide +kernel, by decide +kernel⟩, List.mem_of_getElem? (i := 24) (by decide +kernel), List.mem_of_getElem? (i := 659) (by decide +kernel), List.mem_of_getElem? (i := 660) (by decide +kernel)⟩
theorem lw_p24 : lw_okq (⟨"Grainledger", "handOver", "(LGrainledger$Contract;)I"⟩, 11) := ⟨⟨by decide +kernel, by decide +kernel⟩, List.mem_of_getElem? (i := 24) (by decide +kernel), List.mem_of_getElem? (i := 663) (by decide +kernel), List.mem_of_getElem? (i := 664) (by decide +kernel)⟩
theorem lw_p25 : lw_okq (⟨"Grainledger", "findContract", "(I)LGrainledger$Contract;"⟩, 11) := ⟨⟨by decide +kernel, by decide +kernel⟩, List.mem_of_getElem? (i := 24) (by decide +kernel), List.mem_of_getElem? (i := 694) (by decide +kernel), List.mem_of_getElem? (i := 695) (by decide +kernel)⟩
theorem lw_p26 : lw_okq (⟨"Grainledger", "findSilo", "(I)LGrainledger$Silo;"⟩, 11) := ⟨⟨by decide +kernel, by decide +kernel⟩, List.mem_of_getElem? (i := 24) (by decide +kernel), List.mem_of_getElem? (i := 706) (by decide +kernel), List.mem_of_getElem? (i := 707) (by decide +kernel)⟩
theorem lw_p27 : lw_okq (⟨"GrainledgerModel", "goesWell", "(I)Z"⟩, 46) := ⟨⟨by decide +kernel, by decide +kernel⟩, List.mem_of_getElem? (i := 747) (by decide +kernel), List.mem_of_getElem? (i := 905) (by decide +kernel), List.mem_of_getElem? (i := 906) (by decide +kernel)⟩
theorem lw_p28 : lw_okq (⟨"GrainledgerModel", "siloFor", "(III)I"⟩, 46) := ⟨⟨by decide +kernel, by decide +kernel⟩, List.mem_of_getElem? (i := 747) (by decide +kernel), List.mem_of_getElem? (i := 928) (by decide +kernel), List.mem_of_getElem? (i := 929) (by decide +kernel)⟩
theorem lw_p29 : lw_okq (⟨"GrainledgerModel", "isOf", "(III)Z"⟩, 46) := ⟨⟨by decide +kernel, by decide +kernel⟩, List.mem_of_getElem? (i := 747) (by decide +kernel), List.mem_of_getElem? (i := 932) (by decide +kernel), List.mem_of_getElem? (i := 933) (by decide +kernel)⟩
theorem lw_p30 : lw_okq (⟨"GrainledgerModel", "make", "(IIII)I"⟩, 46) := ⟨⟨by decide +kernel, by decide +kernel⟩, List.mem_of_getElem? (i := 747) (by decide +kernel), List.mem_of_getElem? (i := 936) (by decide +kernel), List.mem_of_getElem? (i := 937) (by decide +kernel)⟩
theorem lw_p31 : lw_okq (⟨"GrainledgerModel", "become", "(II)V"⟩, 46) := ⟨⟨by decide +kernel, by decide +kernel⟩, List.mem_of_getElem? (i := 747) (by decide +kernel), List.mem_of_getElem? (i := 940) (by decide +kernel), List.mem_of_getElem? (i := 941) (by decide +kernel)⟩
def lw_privs_2 : List (MethodName × Nat) := [(⟨"Grainledger", "takeBackFrom", "(LGrainledger$Receipt;II)I"⟩, 11), (⟨"Grainledger", "payForTaken", "(LGrainledger$Receipt;II)V"⟩, 11), (⟨"Grainledger", "passOneDay", "()V"⟩, 11), (⟨"Grainledger", "shrink", "(LGrainledger$Silo;)V"⟩, 11), (⟨"Grainledger", "bearOneEach", "(LGrainledger$Silo;I)V"⟩, 11), (⟨"Grainledger", "greatestRemainder", "(LGrainledger$Silo;)LGrainledger$Receipt;"⟩, 11), (⟨"Grainledger", "forfeitIfDue", "(LGrainledger$Receipt;)V"⟩, 11), (⟨"Grainledger", "settle", "(LGrainledger$Contract;)V"⟩, 11), (⟨"Grainledger", "handOver", "(LGrainledger$Contract;)I"⟩, 11), (⟨"Grainledger", "findContract", "(I)LGrainledger$Contract;"⟩, 11), (⟨"Grainledger", "findSilo", "(I)LGrainledger$Silo;"⟩, 11), (⟨"GrainledgerModel", "goesWell", "(I)Z"⟩, 46), (⟨"GrainledgerModel", "siloFor", "(III)I"⟩, 46), (⟨"GrainledgerModel", "isOf", "(III)Z"⟩, 46), (⟨"GrainledgerModel", "make", "(IIII)I"⟩, 46), (⟨"GrainledgerModel", "become", "(II)V"⟩, 46)]
theorem lw_r2 : ∀ q ∈ lw_privs_2, lw_okq q := List.forall_mem_cons.mpr ⟨lw_p16, List.forall_mem_cons.mpr ⟨lw_p17, List.forall_mem_cons.mpr ⟨lw_p18, List.forall_mem_cons.mpr ⟨lw_p19, List.forall_mem_cons.mpr ⟨lw_p20, List.forall_mem_cons.mpr ⟨lw_p21, List.forall_mem_cons.mpr ⟨lw_p22, List.forall_mem_cons.mpr ⟨lw_p23, List.forall_mem_cons.mpr ⟨lw_p24, List.forall_mem_cons.mpr ⟨lw_p25, List.forall_mem_cons.mpr ⟨lw_p26, List.forall_mem_cons.mpr ⟨lw_p27, List.forall_mem_cons.mpr ⟨lw_p28, List.forall_mem_cons.mpr ⟨lw_p29, List.forall_mem_cons.mpr ⟨lw_p30, List.forall_mem_cons.mpr ⟨lw_p31, fun _ h => absurd h List.not_mem_nil⟩⟩⟩⟩⟩⟩⟩⟩⟩⟩⟩⟩⟩⟩⟩⟩
theorem lw_p32 : lw_okq (⟨"GrainledgerModel", "isReceipt", "(I)Z"⟩, 46) := ⟨⟨by decide +kernel, by decide +kernel⟩, List.mem_of_getElem? (i := 747) (by decide +kernel), List.mem_of_getElem? (i := 948) (by decide +kernel), List.mem_of_getElem? (i := 949) (by decide +kernel)⟩
theorem lw_p33 : lw_okq (⟨"GrainledgerModel", "splitOff", "(II)I"⟩, 46) := ⟨⟨by decide +kernel, by decide +kernel⟩, List.mem_of_getElem? (i := 747) (by decide +kernel), List.mem_of_getElem? (i := 952) (by decide +kernel), List.mem_of_getElem? (i := 953) (by decide +kernel)⟩
theorem lw_p34 : lw_okq (⟨"GrainledgerModel", "pay", "(IIJ)V"⟩, 46) := ⟨⟨by decide +kernel, by decide +kernel⟩, List.mem_of_getElem? (i := 747) (by decide +kernel), List.mem_of_getElem? (i := 961) (by decide +kernel), List.mem_of_getElem? (i := 962) (by decide +kernel)⟩
theorem lw_p35 : lw_okq (⟨"GrainledgerModel", "lose", "(IIZ)V"⟩, 46) := ⟨⟨by decide +kernel, by decide +kernel⟩, List.mem_of_getElem? (i := 747) (by decide +kernel), List.mem_of_getElem? (i := 977) (by decide +kernel), List.mem_of_getElem? (i := 978) (by decide +kernel)⟩
theorem lw_p36 : lw_okq (⟨"GrainledgerModel", "takeFor", "(III)I"⟩, 46) := ⟨⟨by decide +kernel, by decide +kernel⟩, List.mem_of_getElem? (i := 747) (by decide +kernel), List.mem_of_getElem? (i := 985) (by decide +kernel), List.mem_of_getElem? (i := 986) (by decide +kernel)⟩
theorem lw_p37 : lw_okq (⟨"GrainledgerModel", "shrink", "(I)V"⟩, 46) := ⟨⟨by decide +kernel, by decide +kernel⟩, List.mem_of_getElem? (i := 747) (by decide +kernel), List.mem_of_getElem? (i := 998) (by decide +kernel), List.mem_of_getElem? (i := 999) (by decide +kernel)⟩
theorem lw_p38 : lw_okq (⟨"GrainledgerModel", "settle", "(I)V"⟩, 46) := ⟨⟨by decide +kernel, by decide +kernel⟩, List.mem_of_getElem? (i := 747) (by decide +kernel), List.mem_of_getElem? (i := 1003) (by decide +kernel), List.mem_of_getElem? (i := 1004) (by decide +kernel)⟩
theorem lw_p39 : lw_okq (⟨"GrainledgerModel", "isSilo", "(I)Z"⟩, 46) := ⟨⟨by decide +kernel, by decide +kernel⟩, List.mem_of_getElem? (i := 747) (by decide +kernel), List.mem_of_getElem? (i := 1027) (by decide +kernel), List.mem_of_getElem? (i := 1028) (by decide +kernel)⟩
def lw_privs_3 : List (MethodName × Nat) := [(⟨"GrainledgerModel", "isReceipt", "(I)Z"⟩, 46), (⟨"GrainledgerModel", "splitOff", "(II)I"⟩, 46), (⟨"GrainledgerModel", "pay", "(IIJ)V"⟩, 46), (⟨"GrainledgerModel", "lose", "(IIZ)V"⟩, 46), (⟨"GrainledgerModel", "takeFor", "(III)I"⟩, 46), (⟨"GrainledgerModel", "shrink", "(I)V"⟩, 46), (⟨"GrainledgerModel", "settle", "(I)V"⟩, 46), (⟨"GrainledgerModel", "isSilo", "(I)Z"⟩, 46)]
theorem lw_r3 : ∀ q ∈ lw_privs_3, lw_okq q := List.forall_mem_cons.mpr ⟨lw_p32, List.forall_mem_cons.mpr ⟨lw_p33, List.forall_mem_cons.mpr ⟨lw_p34, List.forall_mem_cons.mpr ⟨lw_p35, List.forall_mem_cons.mpr ⟨lw_p36, List.forall_mem_cons.mpr ⟨lw_p37, List.forall_mem_cons.mpr ⟨lw_p38, List.forall_mem_cons.mpr ⟨lw_p39, fun _ h => absurd h List.not_mem_nil⟩⟩⟩⟩⟩⟩⟩⟩
def lw_privs : List (MethodName × Nat) := lw_privs_1 ++ (lw_privs_2 ++ (lw_privs_3))
def lw_tbl : List Cond := k2_sels lw_privs ++ tables_1
theorem lw_privs_ok : ∀ q ∈ lw_privs, lw_okq q := by
  show ∀ q ∈ lw_privs_1 ++ (lw_privs_2 ++ (lw_privs_3)), lw_okq q
  exact List.forall_mem_append.mpr ⟨lw_r1, List.forall_mem_append.mpr ⟨lw_r2, lw_r3⟩⟩
-- ===== end of PART A =====
/-! ===== BEGIN words of one list among another's, by their places ===== -/
theorem goodIn_r {big : List Cond} (ws : List Cond) (ps : List Nat) (hp : ws = ps.filterMap (fun i => big[i]?)) (h : ws.all goodWord = true) : GoodIn big ws := by
  intro w hw
  have h1 := List.all_eq_true.mp h w hw
  rw [hp] at hw
  obtain ⟨i, -, hi⟩ := List.mem_filterMap.mp hw
  have hm : w ∈ big := by first | exact List.mem_of_getElem? hi | exact List.getElem?_mem hi
  exact ⟨hm, good_of_word h1⟩
theorem goodIn_app {big a b : List Cond} (ha : GoodIn big a) (hb : GoodIn big b) : GoodIn big (a ++ b) := fun w h => (List.mem_append.mp h).elim (ha w) (hb w)
theorem goodIn_ca {big a b : List Cond} {c : Cond} (ha : GoodIn big (c :: a)) (hb : GoodIn big b) : GoodIn big (c :: (a ++ b)) := fun w h => (List.mem_cons.mp h).elim (fun e => ha w (List.mem_cons.mpr (Or.inl e))) (fun h => (List.mem_append.mp h).elim (fun h => ha w (List.mem_cons.mpr (Or.inr h))) (hb w))
theorem goodIn_sub {big ws : List Cond} (hm : ∀ w ∈ ws, w ∈ big) (h : ws.all goodWord = true) : GoodIn big ws := fun w hw => ⟨hm w hw, good_of_word (List.all_eq_true.mp h w hw)⟩
/-! ===== END ===== -/

/-! ===== BEGIN exceptions that leave a method, and their catching by the caller (launches without stack traces) ===== -/
section VXA
/-! The laws vx_back, vx_callV, vx_callS, vx_callSW, vx_throw0, vx_throwS follow proofs of the library, with one case more: JvmDerived/Free/Laws.lean (Back.of_free), Shelf42/LK1.lean (callV, callS), Shelf/KitTraced.lean (throwNew0V, throwNewS). -/
/-- where a method has thrown q: the class by its name, the cell, what was written, the world -/
def vx_T (XC : String → State → State → Prop) (st : State) (q : Addr) (t : State) (mc ms : Nat) (free : Addr → Prop) : Prop :=
  ∃ (E : String) (ce : Cell) (L : List Loc), XC E st t ∧ t.heap[q]? = some ce ∧ ce.vm = .none ∧ st.vm.findClass E = some ce.cls ∧ st.WarmedH t.vm ∧ st.sameButNew ({ t with vm := st.vm } : State) L mc ms ∧ ∀ z ∈ L, free z.base
def vx_Q (Qc : Array Value → State → Outcome → State → Prop) (XC : String → State → State → Prop) (mc ms : Nat) (free : Addr → Prop) : Array Value → State → Outcome → State → Prop := fun a st o t =>
  (Qc a st o t ∧ ∃ L, FrameEnd st o t L mc ms ∧ ∀ q ∈ L, free q.base) ∨ ∃ q, o = .threw q ∧ vx_T XC st q t mc ms free
/-- a callee that returns or throws -/
def vx_Met (l : Launch) (y : MethodName) (ws : List Cond) (rm : Room) (Pc : Array Value → State → Prop) (Qc : Array Value → State → Outcome → State → Prop) (XC : String → State → State → Prop) (mc ms : Nat) (free : Addr → Prop) : Prop :=
  MetFree l y (headSpec ws rm) Pc (fun _ _ _ _ _ => True) (vx_Q Qc XC mc ms free)
def vx_Post (XC : String → State → State → Prop) (mc ms : Nat) (free : Addr → Prop) : Pt → Array Value → Addr → Pt → Prop := fun A a q B =>
  ∃ (g : JFrame) (mk : MethodId) (t : State) (L : List Loc) (E : String) (ce : Cell), B.U.heap = t.heap ∧ B.U.vm = t.vm ∧ XC E (A.U.calling g mk a) t ∧ t.heap[q]? = some ce ∧ ce.vm = .none ∧ A.U.vm.findClass E = some ce.cls ∧ B.locs = A.locs ++ L ∧ (∀ z ∈ L, free z.base) ∧ B.cells = A.cells + mc ∧ B.slots = A.slots + ms
def vx_Back (l : Launch) (R : Room) (p : Program) (e : Env) (below : List Frame) (s : State) (sargs : Array Value) (y : MethodName) (len W9 : Nat)
    (Pre : Pt → Array Value → Prop) (Post : Pt → Array Value → Option Value → Pt → Prop) (PostX : Pt → Array Value → Addr → Pt → Prop) : Prop :=
  ∀ (m : MethodId) (meth : Method) (c : Code) (A : Pt) (g : JFrame) (ig : Instr) (mk : MethodId) (a : Array Value),
    Stand p l e R s m sargs below meth c A.U A.locs A.cells A.slots → g.method = m → g.locals.size = c.maxLocals → decode c.code g.pc = .ok (ig, len) →
    2 * g.monitorRoom + (g.stack.map fun v => v.category).sum ≤ W9 → A.U.methodNamed? y = some mk → Pre A a →
    (∃ (v : Option Value) (B : Pt), Stand p l e R s m sargs below meth c B.U B.locs B.cells B.slots ∧ Post A a v B ∧
      Steps p.tables e below (doInvoke e (A.U.setTop g) [] mk a).1 (B.U.setTop { g with pc := g.pc + len, stack := v.toList ++ g.stack })) ∨
    (∃ (q : Addr) (B : Pt), Stand p l e R s m sargs below meth c B.U B.locs B.cells B.slots ∧ PostX A a q B ∧
      Steps p.tables e below (doInvoke e (A.U.setTop g) [] mk a).1 ((B.U.setTop g).pushFrame (.throwing q)))
section Payer
variable {l : Launch} {R : Room} {p : Program} {e : Env} {below : List Frame} {s : State} {sargs : Array Value} {y : MethodName} {len W9 : Nat}
theorem vx_back {ws : List Cond} {rm : Room} {Pc : Array Value → State → Prop} {Qc : Array Value → State → Outcome → State → Prop} {XC : String → State → State → Prop} {mc ms : Nat} {free : Addr → Prop} {bytes : ByteArray} {maxL : Nat} {ret : Option FieldType}
    (hM : vx_Met l y ws rm Pc Qc XC mc ms free) (hblind : FrameBlind Pc) (hrc : rm.cells = mc) (hrs : rm.slots = ms)
    (hframes : rm.frames + 1 ≤ R.frames) (hlocals : W9 + (maxL + 11) + rm.locals ≤ R.locals)
    (hws : ∀ w ∈ ws, ∀ a' U, s.WarmedH U.vm → w.before a' U = true) (hcode : Cond.code y bytes maxL ret ∈ ws) (hinit : ∀ a' U, s.WarmedH U.vm → (Cond.initialized y.cls).before a' U = true) :
    vx_Back l R p e below s sargs y len W9 (PreOf R mc ms Pc) (PostOf Qc mc ms free) (vx_Post XC mc ms free) := by
  intro m meth c A g ig mk a X hg hsize hdg hW hn hp
  have h1 : (headSpec ws rm).pre.before a A.U = true := atoms_intro fun w hw => hws w hw _ _ X.warmed
  have h2 : (Cond.code y bytes maxL ret).before a A.U = true := hws _ hcode _ _ X.warmed
  have h3 : (Cond.initialized y.cls).before a A.U = true := hinit _ _ X.warmed
  have h4 : A.cells + (headSpec ws rm).room.cells ≤ R.cells := by rw [show (headSpec ws rm).room.cells = mc from hrc]; exact hp.1
  have h5 : A.slots + (headSpec ws rm).room.slots ≤ R.slots := by rw [show (headSpec ws rm).room.slots = ms from hrs]; exact hp.2.1
  have hPc : Pc a (A.U.calling g mk a) := hblind _ _ _ _ hp.2.2
  obtain ⟨U, Ls, c0, s0⟩ := A
  dsimp only [Pt.U, Pt.locs, Pt.cells, Pt.slots] at h1 h2 h3 h4 h5 X hn hPc ⊢
  obtain ⟨methY, cY, hmY, hcY, -, hlY, -, -, -, -⟩ := Cond.code_spec hn h2
  obtain ⟨kY, hkY, -⟩ := className_of_methodNamed hn
  have hinitY : kY.init = .initialized := Cond.initialized_spec (findClass_of_methodNamed hn) hkY h3
  have h : At U g.method c below := by rw [hg]; exact X.here
  have hlocals9 : W9 + (maxL + 11) + (headSpec ws rm).room.locals ≤ R.locals := hlocals
  have happ : (headSpec ws rm).appliesLoose y e.platform (U.calling g mk a) = true :=
    Spec.appliesLoose_calling (g := g) h hdg hn hkY hinitY
      (X.room_calling (g := g) (R' := (headSpec ws rm).room) hsize hmY hcY hframes (by rw [hlY]; omega) h4 h5) h1
  obtain ⟨mid, hmid⟩ := h.above
  have hfr : (U.setTop g).frames = (.java g :: mid) ++ below := by rw [State.frames_setTop' g h.top, hmid]; rfl
  obtain ⟨o, s₂, hsteps, -, hend, hq⟩ := Steps.callFree hM p X.admits X.cas X.clock (acts := []) hfr happ hPc trivial
  have hq' : vx_Q Qc XC mc ms free a (U.calling g mk a) o s₂ := hq
  rw [State.frames_setTop' g h.top] at hend
  obtain ⟨g₀, hg0⟩ := Option.isSome_iff_exists.mp h.top
  obtain ⟨r, hr⟩ := State.topJava?_eq_some.mp hg0
  have hr' : (({ U with heap := s₂.heap, slotsUsed := s₂.slotsUsed } : State).setVm s₂.vm).frames = .java g₀ :: r := hr
  rcases hq' with ⟨hqc, L, hfe, hL⟩ | ⟨q, rfl, E, ce, L, hx, hce, hcv, hcl, hW₂, hsm, hL⟩
  · obtain ⟨⟨v, rfl⟩, hW₂, e2, q2, q3, q4, q5, q6⟩ := id hfe
    have e3 : s₂ = ({ (U.calling g mk a).setFrames s₂.frames with heap := s₂.heap, slotsUsed := s₂.slotsUsed } : State).setVm s₂.vm := by
      have : s₂ = ({ s₂ with vm := (U.calling g mk a).vm } : State).setVm s₂.vm := rfl
      rw [e2] at this
      exact this
    obtain ⟨c₂, i₂, len₂, hc₂, hd₂, hf₂⟩ := hend
    have hW' : U.WarmedH s₂.vm := hW₂
    have hcc : c₂ = c := by
      have h1 : s₂.code? g.method = U.code? g.method := by
        rw [State.code?_eq, State.code?_eq, hW'.alike.method?]
      exact Option.some.inj (hc₂.symm.trans (h1.trans h.code))
    subst hcc
    have hlen : len₂ = len := by rw [hdg] at hd₂; cases hd₂; rfl
    subst hlen
    have hs₂ : s₂ = (({ U with heap := s₂.heap, slotsUsed := s₂.slotsUsed } : State).setVm s₂.vm).setTop { g with pc := g.pc + len₂, stack := v.toList ++ g.stack } := by
      refine e3.trans ?_
      rw [hf₂, State.calling_eq h.top, State.setFrames_setFrames, State.setTop_of_frames _ hr', hr]
      rfl
    have hsame : U.sameButNew ({ U with heap := s₂.heap, slotsUsed := s₂.slotsUsed } : State) L mc ms := by
      refine ⟨?_, q2, q3, q4, q5, q6⟩
      obtain ⟨t, ht, -⟩ := State.frames_cons hr
      show ({ U with heap := s₂.heap, slotsUsed := s₂.slotsUsed } : State) = { U.setFrames U.frames with heap := s₂.heap, slotsUsed := s₂.slotsUsed }
      rw [State.setFrames_self ht]
    subst hg
    refine Or.inl ⟨v, ⟨(({ U with heap := s₂.heap, slotsUsed := s₂.slotsUsed } : State).setVm s₂.vm), Ls ++ L, c0 + mc, s0 + ms⟩,
      ⟨X.admits, X.cas, X.clock, X.frames, X.room, X.hears, X.method, X.code, (X.here.setHeapUsed s₂.heap s₂.slotsUsed).setVm hW'.alike, X.tail, State.WarmedH.trans X.warmed hW', X.limits, X.bytes, X.same.trans (hsame.setVm s.vm)⟩,
      ⟨g, mk, s₂, L, rfl, rfl, hqc, rfl, hL, rfl, rfl⟩, ?_⟩
    show Steps p.tables e below _ ((({ U with heap := s₂.heap, slotsUsed := s₂.slotsUsed } : State).setVm s₂.vm).setTop { g with pc := g.pc + len₂, stack := v.toList ++ g.stack })
    rw [← hs₂]
    exact hsteps
  · obtain ⟨e2, q2, q3, q4, q5, q6⟩ := id hsm
    have e3 : s₂ = ({ (U.calling g mk a).setFrames s₂.frames with heap := s₂.heap, slotsUsed := s₂.slotsUsed } : State).setVm s₂.vm := by
      have : s₂ = ({ s₂ with vm := (U.calling g mk a).vm } : State).setVm s₂.vm := rfl
      rw [e2] at this
      exact this
    have hf₂ : s₂.frames = .throwing q :: .java g :: U.frames.tail := hend
    have hW' : U.WarmedH s₂.vm := hW₂
    have hs₂ : s₂ = ((({ U with heap := s₂.heap, slotsUsed := s₂.slotsUsed } : State).setVm s₂.vm).setTop g).pushFrame (.throwing q) := by
      refine e3.trans ?_
      rw [hf₂, State.calling_eq h.top, State.setFrames_setFrames, State.pushFrame, State.frames_setTop _ hr', State.setTop_of_frames _ hr', State.setFrames_setFrames, hr]
      rfl
    have hsame : U.sameButNew ({ U with heap := s₂.heap, slotsUsed := s₂.slotsUsed } : State) L mc ms := by
      refine ⟨?_, q2, q3, q4, q5, q6⟩
      obtain ⟨t, ht, -⟩ := State.frames_cons hr
      show ({ U with heap := s₂.heap, slotsUsed := s₂.slotsUsed } : State) = { U.setFrames U.frames with heap := s₂.heap, slotsUsed := s₂.slotsUsed }
      rw [State.setFrames_self ht]
    subst hg
    refine Or.inr ⟨q, ⟨(({ U with heap := s₂.heap, slotsUsed := s₂.slotsUsed } : State).setVm s₂.vm), Ls ++ L, c0 + mc, s0 + ms⟩,
      ⟨X.admits, X.cas, X.clock, X.frames, X.room, X.hears, X.method, X.code, (X.here.setHeapUsed s₂.heap s₂.slotsUsed).setVm hW'.alike, X.tail, State.WarmedH.trans X.warmed hW', X.limits, X.bytes, X.same.trans (hsame.setVm s.vm)⟩,
      ⟨g, mk, s₂, L, E, ce, rfl, rfl, hx, hce, hcv, hcl, rfl, hL, rfl, rfl⟩, ?_⟩
    show Steps p.tables e below _ (((({ U with heap := s₂.heap, slotsUsed := s₂.slotsUsed } : State).setVm s₂.vm).setTop g).pushFrame (.throwing q))
    rw [← hs₂]
    exact hsteps
end Payer
section Calls
variable {p : Program} {l : Launch} {e : Env} {R : Room} {s : State} {m : MethodId} {args : Array Value} {below : List Frame} {meth : Method} {c : Code} {T : State} {locs : List Loc} {cells slots : Nat}
theorem vx_callV (X : Stand p l e R s m args below meth c T locs cells slots) (hexec : p.tables.exec = Jvm.exec) {own C : String} {index : Nat} {y : MethodName} {bytes : ByteArray} {maxL : Nat} {ret : Option FieldType}
    (hown : s.vm.findClass own = some m.cls) (hlink : (Cond.methodLink own index y).before args s = true) (hinst : (Cond.instanceMethod y).before args s = true) (hsel : (Cond.selects C y y).before args s = true)
    (hcode : (Cond.code y bytes maxL ret).before args s = true) (hy : y.cls ≠ "java/lang/invoke/MethodHandle" ∧ y.cls ≠ "java/lang/invoke/VarHandle")
    {W9 : Nat} {Pre : Pt → Array Value → Prop} {Post : Pt → Array Value → Option Value → Pt → Prop} {PostX : Pt → Array Value → Addr → Pt → Prop} (hK : vx_Back l R p e below s args y 3 W9 Pre Post PostX)
    {b : Addr} {cellB : Cell} (hcell : T.heap[b]? = some cellB) (hobj : cellB.vm.isStatics = false) (hcls : s.vm.findClass C = some cellB.cls)
    {g : JFrame} (hg : g.method = m) (hsize : g.locals.size = c.maxLocals) {argsL rest : List Value} (hlen : ∀ sig, parseMethodDescriptor y.desc = some sig → argsL.length = sig.parameters.length)
    (hstack : g.stack = argsL.reverse ++ .ref b :: rest) (hW : 2 * g.monitorRoom + (rest.map fun v => v.category).sum ≤ W9) (hdg : decode c.code g.pc = .ok (.invokevirtual index, 3))
    (hpre : ∀ vm₁, s.WarmedH vm₁ → Pre ⟨T.setVm vm₁, locs, cells, slots⟩ (Value.ref b :: argsL).toArray) :
    (∃ (v : Option Value) (vm₁ : Vm) (B : Pt), s.WarmedH vm₁ ∧ Stand p l e R s m args below meth c B.U B.locs B.cells B.slots ∧ Post ⟨T.setVm vm₁, locs, cells, slots⟩ (Value.ref b :: argsL).toArray v B ∧
      ∀ target, Steps p.tables e below (B.U.setTop { g with pc := g.pc + 3, stack := v.toList ++ rest }) target → Steps p.tables e below (T.setTop g) target) ∨
    (∃ (q : Addr) (vm₁ : Vm) (B : Pt), s.WarmedH vm₁ ∧ Stand p l e R s m args below meth c B.U B.locs B.cells B.slots ∧ PostX ⟨T.setVm vm₁, locs, cells, slots⟩ (Value.ref b :: argsL).toArray q B ∧
      Steps p.tables e below (T.setTop g) ((B.U.setTop { g with stack := rest }).pushFrame (.throwing q))) := by
  obtain ⟨mk, methM, hnamed, hmethM, hstM, habM⟩ := Cond.instanceMethod_spec hinst
  obtain ⟨methM', cM, hmethM', -, -, -, -, -, -, hsigM⟩ := Cond.code_spec hnamed hcode
  cases hmethM.symm.trans hmethM'
  obtain ⟨c2, r2, m2, q1, q2, q3, q4, kP, hkP, hkPi⟩ := Cond.selects_spec hsel
  cases hcls.symm.trans q1
  cases (State.methodFound?_of_named hnamed hy).symm.trans q2
  cases hnamed.symm.trans q3
  have hselP : selectMethod e.platform s.vm cellB.cls mk = .method mk := by rw [Launch.admits_selectMethod X.admits]; exact q4
  obtain ⟨vm₁, X₁, hstep₁⟩ := X.invokevirtual hexec hown hlink hnamed hmethM hstM hkP hkPi hy (a := b) (cell := cellB) hcell
    (fun z h => by rw [h] at hobj; cases hobj) hselP hmethM habM hkP hkPi (g := g) hg (argsL := argsL) (rest := rest) (hlen _ hsigM) hstack hdg
  rcases hK m meth c ⟨T.setVm vm₁, locs, cells, slots⟩ { g with stack := rest } (.invokevirtual index) mk (Value.ref b :: argsL).toArray X₁ hg hsize hdg hW (X₁.named hnamed) (hpre vm₁ X₁.warmed) with ⟨v, B, X', hpost, hsteps⟩ | ⟨q, B, X', hpost, hsteps⟩
  · exact Or.inl ⟨v, vm₁, B, X₁.warmed, X', hpost, fun target h => hstep₁ _ fun acts => by rw [doInvoke_state]; exact hsteps.trans h⟩
  · exact Or.inr ⟨q, vm₁, B, X₁.warmed, X', hpost, hstep₁ _ fun acts => by rw [doInvoke_state]; exact hsteps⟩
theorem vx_callS (X : Stand p l e R s m args below meth c T locs cells slots) (hexec : p.tables.exec = Jvm.exec) {own : String} {index : Nat} {y : MethodName} {bytes : ByteArray} {maxL : Nat} {ret : Option FieldType}
    (hown : s.vm.findClass own = some m.cls) (hlink : (Cond.methodLink own index y).before args s = true) (hstat : (Cond.static y).before args s = true) (hinit : (Cond.initialized y.cls).before args s = true)
    (hcode : (Cond.code y bytes maxL ret).before args s = true) (hy : y.cls ≠ "java/lang/invoke/MethodHandle" ∧ y.cls ≠ "java/lang/invoke/VarHandle")
    {W9 : Nat} {Pre : Pt → Array Value → Prop} {Post : Pt → Array Value → Option Value → Pt → Prop} {PostX : Pt → Array Value → Addr → Pt → Prop} (hK : vx_Back l R p e below s args y 3 W9 Pre Post PostX)
    {g : JFrame} (hg : g.method = m) (hsize : g.locals.size = c.maxLocals) {argsL rest : List Value} (hlen : ∀ sig, parseMethodDescriptor y.desc = some sig → argsL.length = sig.parameters.length)
    (hstack : g.stack = argsL.reverse ++ rest) (hW : 2 * g.monitorRoom + (rest.map fun v => v.category).sum ≤ W9) (hdg : decode c.code g.pc = .ok (.invokestatic index, 3))
    (hpre : ∀ vm₁, s.WarmedH vm₁ → Pre ⟨T.setVm vm₁, locs, cells, slots⟩ argsL.toArray) :
    (∃ (v : Option Value) (vm₁ : Vm) (B : Pt), s.WarmedH vm₁ ∧ Stand p l e R s m args below meth c B.U B.locs B.cells B.slots ∧ Post ⟨T.setVm vm₁, locs, cells, slots⟩ argsL.toArray v B ∧
      ∀ target, Steps p.tables e below (B.U.setTop { g with pc := g.pc + 3, stack := v.toList ++ rest }) target → Steps p.tables e below (T.setTop g) target) ∨
    (∃ (q : Addr) (vm₁ : Vm) (B : Pt), s.WarmedH vm₁ ∧ Stand p l e R s m args below meth c B.U B.locs B.cells B.slots ∧ PostX ⟨T.setVm vm₁, locs, cells, slots⟩ argsL.toArray q B ∧
      Steps p.tables e below (T.setTop g) ((B.U.setTop { g with stack := rest }).pushFrame (.throwing q))) := by
  obtain ⟨mk, hnamed⟩ := Cond.code_named hcode
  obtain ⟨methM, cM, hmethM, -, -, -, -, -, -, hsigM⟩ := Cond.code_spec hnamed hcode
  have hstatic : methM.isStatic = true := Cond.static_spec hnamed hmethM hstat
  obtain ⟨kP, hkP, -⟩ := className_of_methodNamed hnamed
  have hinitP : kP.init = .initialized := Cond.initialized_spec (findClass_of_methodNamed hnamed) hkP hinit
  obtain ⟨vm₁, X₁, hstep₁⟩ := X.invokestatic hexec hown hlink hnamed hmethM hstatic hkP hinitP hy (g := g) hg (argsL := argsL) (rest := rest) (hlen _ hsigM) hstack hdg
  rcases hK m meth c ⟨T.setVm vm₁, locs, cells, slots⟩ { g with stack := rest } (.invokestatic index) mk argsL.toArray X₁ hg hsize hdg hW (X₁.named hnamed) (hpre vm₁ X₁.warmed) with ⟨v, B, X', hpost, hsteps⟩ | ⟨q, B, X', hpost, hsteps⟩
  · exact Or.inl ⟨v, vm₁, B, X₁.warmed, X', hpost, fun target h => hstep₁ _ fun acts => by rw [doInvoke_state]; exact hsteps.trans h⟩
  · exact Or.inr ⟨q, vm₁, B, X₁.warmed, X', hpost, hstep₁ _ fun acts => by rw [doInvoke_state]; exact hsteps⟩
end Calls
theorem vx_cls {s : State} {T : State} {vm₁ : Vm} {E : String} {k : ClassId} (hW : s.WarmedH vm₁) (h : (T.setVm vm₁).vm.findClass E = some k) : s.vm.findClass E = some k := by
  have h1 : vm₁.findClass E = some k := h
  rw [hW.alike.findClass] at h1
  exact h1
/-- the method's frame g, with q thrown over it -/
def vx_W (p : Program) (l : Launch) (e : Env) (R : Room) (s : State) (m : MethodId) (args : Array Value) (below : List Frame) (meth : Method) (c : Code) (H : Heap) (locs : List Loc) (cells slots : Nat) (Q : State → Prop) (g : JFrame) (q : Addr) : Prop :=
  ∀ T : State, T.heap = H → Stand p l e R s m args below meth c T locs cells slots → ∃ t, Steps p.tables e below ((T.setTop g).pushFrame (.throwing q)) t ∧ Q t
def vx_Run (p : Program) (l : Launch) (e : Env) (R : Room) (s : State) (m : MethodId) (args : Array Value) (below : List Frame) (meth : Method) (c : Code) (H : Heap) (locs : List Loc) (cells slots mc ms : Nat) (g : JFrame) (rest : List Value) (Qa : State → Outcome → State → Prop) (XC : String → State → State → Prop) (free : Addr → Prop) : Prop :=
  ∀ T : State, T.heap = H → Stand p l e R s m args below meth c T locs cells slots →
    (∃ (v : Option Value) (st₀ t T' : State) (L : List Loc), st₀.heap = H ∧ Stand p l e R s m args below meth c T' (locs ++ L) (cells + mc) (slots + ms) ∧ (∀ q ∈ L, free q.base) ∧ T'.heap = t.heap ∧ T'.vm = t.vm ∧ Qa st₀ (.returned v) t ∧
      Goes p e below T g T' { g with pc := g.pc + 3, stack := v.toList ++ rest }) ∨
    (∃ (q : Addr) (st₀ t T' : State) (L : List Loc) (E : String) (ce : Cell), st₀.heap = H ∧ Stand p l e R s m args below meth c T' (locs ++ L) (cells + mc) (slots + ms) ∧ (∀ z ∈ L, free z.base) ∧ T'.heap = t.heap ∧ T'.vm = t.vm ∧ XC E st₀ t ∧ t.heap[q]? = some ce ∧ ce.vm = .none ∧ s.vm.findClass E = some ce.cls ∧
      Steps p.tables e below (T.setTop g) ((T'.setTop { g with stack := rest }).pushFrame (.throwing q)))
def vx_X {S : Type} (px : S → Prop) (B : String → S → State → Prop) (A : Nat → Prop) : String → State → State → Prop := fun E st t => ∃ u : S, px u ∧ B E u t ∧ va_F A st t
section Runs
variable {p : Program} {l : Launch} {e : Env} {R : Room} {s : State} {m : MethodId} {args : Array Value} {below : List Frame} {meth : Method} {c : Code} {H : Heap} {locs : List Loc} {cells slots : Nat}
variable {y : MethodName} {bytes cc : ByteArray} {maxL nL mc ms n index : Nat} {ret : Option FieldType} {ws : List Cond} {rm : Room} {Pc : Array Value → State → Prop} {Qc : Array Value → State → Outcome → State → Prop} {XC : String → State → State → Prop} {free : Addr → Prop} {Ts : List Cond} {own C : String} {b : Addr} {As rest : List Value} {g : JFrame}
theorem vx_callBack (cb : CallB R s args own index y bytes maxL ret ws rm mc ms n) (hM : vx_Met l y ws rm Pc Qc XC mc ms free) (hbl : FrameBlind Pc) : vx_Back l R p e below s args y 3 8 (PreOf R mc ms Pc) (PostOf Qc mc ms free) (vx_Post XC mc ms free) := by
  obtain ⟨hrc, hrs, hfr, hlo, hws, hcw, -, hini, -⟩ := cb
  exact vx_back (bytes := bytes) (maxL := maxL) (ret := ret) hM hbl hrc hrs hfr hlo hws hcw (fun a' U hW => word_at hW (Or.inl (by first | rfl | simp [Cond.onTables, Cond.keeps, Cond.steady])) hini)
theorem vx_runV (S : CallFix p m c cc nL s args Ts own) (hM : vx_Met l y ws rm Pc Qc XC mc ms free) (cw : CallW R s args own C index y bytes maxL ret ws rm mc ms n) (hp : PreV s H C b Pc As)
    (hg : g.method = m) (hn : As.length = n) (hsize : g.locals.size = nL) (hstack : g.stack = As.reverse ++ .ref b :: rest) (hW : 2 * g.monitorRoom + (rest.map fun v => v.category).sum ≤ 8) (hdg : decode cc g.pc = .ok (.invokevirtual index, 3)) (hf : cells + mc ≤ R.cells ∧ slots + ms ≤ R.slots) :
    vx_Run p l e R s m args below meth c H locs cells slots mc ms g rest (Qc (Value.ref b :: As).toArray) XC free := by
  have hK : vx_Back l R p e below s args y 3 8 (PreOf R mc ms Pc) (PostOf Qc mc ms free) (vx_Post XC mc ms free) := vx_callBack cw.1 hM hp.1
  obtain ⟨⟨-, -, -, -, -, -, hcode, -, hy, hlen, hl⟩, hin, hse⟩ := cw
  obtain ⟨hx, hb, hml, ho, -⟩ := S
  obtain ⟨-, ⟨cellB, hcB, hoB, hclB⟩, hPc⟩ := hp
  intro T hT X
  rcases vx_callV X hx (C := C) (bytes := bytes) (maxL := maxL) (ret := ret) ho hl hin hse hcode hy hK (by rw [hT]; exact hcB) hoB hclB hg (hsize.trans hml.symm) (argsL := As) (rest := rest) (fun sig h => hn.trans (hlen sig h)) hstack hW (by rw [hb]; exact hdg)
    (fun vm₁ hW₁ => ⟨hf.1, hf.2, hPc (T.setVm vm₁) hT hW₁⟩) with ⟨v, vm₁, ⟨U', l2, c2, s2⟩, hW₁, X', ⟨g', mk, t, L, e1, e2, hq, h1, hL, h2, h3⟩, st⟩ | ⟨q, vm₁, ⟨U', l2, c2, s2⟩, hW₁, X', ⟨g', mk, t, L, E, ce, e1, e2, hq, hce, hcv, hcl, h1, hL, h2, h3⟩, st⟩
  · dsimp only [Pt.U, Pt.locs, Pt.cells, Pt.slots] at X' e1 e2 h1 h2 h3 st
    subst h1; subst h2; subst h3
    exact Or.inl ⟨v, (T.setVm vm₁).calling g' mk (Value.ref b :: As).toArray, t, U', L, hT, X', hL, e1, e2, hq, st⟩
  · dsimp only [Pt.U, Pt.locs, Pt.cells, Pt.slots] at X' e1 e2 h1 h2 h3 st hcl
    subst h1; subst h2; subst h3
    exact Or.inr ⟨q, (T.setVm vm₁).calling g' mk (Value.ref b :: As).toArray, t, U', L, E, ce, hT, X', hL, e1, e2, hq, hce, hcv, vx_cls hW₁ hcl, st⟩
theorem vx_runS (S : CallFix p m c cc nL s args Ts own) (hM : vx_Met l y ws rm Pc Qc XC mc ms free) (cw : CallB R s args own index y bytes maxL ret ws rm mc ms n ∧ (Cond.static y).before args s = true) (hp : PreS s H Pc As)
    (hg : g.method = m) (hn : As.length = n) (hsize : g.locals.size = nL) (hstack : g.stack = As.reverse ++ rest) (hW : 2 * g.monitorRoom + (rest.map fun v => v.category).sum ≤ 8) (hdg : decode cc g.pc = .ok (.invokestatic index, 3)) (hf : cells + mc ≤ R.cells ∧ slots + ms ≤ R.slots) :
    vx_Run p l e R s m args below meth c H locs cells slots mc ms g rest (Qc As.toArray) XC free := by
  have hK : vx_Back l R p e below s args y 3 8 (PreOf R mc ms Pc) (PostOf Qc mc ms free) (vx_Post XC mc ms free) := vx_callBack cw.1 hM hp.1
  obtain ⟨⟨-, -, -, -, -, -, hcode, hini, hy, hlen, hl⟩, hstt⟩ := cw
  obtain ⟨hx, hb, hml, ho, -⟩ := S
  intro T hT X
  rcases vx_callS X hx (bytes := bytes) (maxL := maxL) (ret := ret) ho hl hstt hini hcode hy hK hg (hsize.trans hml.symm) (argsL := As) (rest := rest) (fun sig h => hn.trans (hlen sig h)) hstack hW (by rw [hb]; exact hdg)
    (fun vm₁ hW₁ => ⟨hf.1, hf.2, hp.2 (T.setVm vm₁) hT hW₁⟩) with ⟨v, vm₁, ⟨U', l2, c2, s2⟩, hW₁, X', ⟨g', mk, t, L, e1, e2, hq, h1, hL, h2, h3⟩, st⟩ | ⟨q, vm₁, ⟨U', l2, c2, s2⟩, hW₁, X', ⟨g', mk, t, L, E, ce, e1, e2, hq, hce, hcv, hcl, h1, hL, h2, h3⟩, st⟩
  · dsimp only [Pt.U, Pt.locs, Pt.cells, Pt.slots] at X' e1 e2 h1 h2 h3 st
    subst h1; subst h2; subst h3
    exact Or.inl ⟨v, (T.setVm vm₁).calling g' mk As.toArray, t, U', L, hT, X', hL, e1, e2, hq, st⟩
  · dsimp only [Pt.U, Pt.locs, Pt.cells, Pt.slots] at X' e1 e2 h1 h2 h3 st hcl
    subst h1; subst h2; subst h3
    exact Or.inr ⟨q, (T.setVm vm₁).calling g' mk As.toArray, t, U', L, E, ce, hT, X', hL, e1, e2, hq, hce, hcv, vx_cls hW₁ hcl, st⟩
end Runs
section Rows
variable {p : Program} {l : Launch} {e : Env} {R : Room} {s : State} {m : MethodId} {args : Array Value} {below : List Frame} {meth : Method} {c : Code} {H : Heap} {locs : List Loc} {cells slots : Nat} {Q : State → Prop}
variable {mc ms : Nat} {free : Addr → Prop} {A0 A1 : Nat → Prop} {H0 : Heap} {a : Array Value} {pc : Nat} {ls : Array Slot} {st0 rest : List Value}
theorem vx_keep {st₀ t T' : State} {L : List Loc} (h0 : st₀.heap = H) (e1 : T'.heap = t.heap) (hS : va_S A0 H0 H locs) (hA : ∀ q, q < H.size → A1 q → A0 q) (hf : ∀ q, free q → A0 q) (hL : ∀ q ∈ L, free q.base) (hF : va_F A1 st₀ t) :
    H.size ≤ T'.heap.size ∧ (∀ q : Nat, q < H.size → ¬ A1 q → T'.heap[q]? = H[q]?) ∧ va_S A0 H0 T'.heap (locs ++ L) := by
  obtain ⟨hz, hk⟩ := hF
  rw [h0] at hz hk
  exact ⟨by rw [e1]; exact hz, fun q h1 h2 => by rw [e1]; exact hk q h1 h2,
    ⟨Nat.le_trans hS.1 (by rw [e1]; exact hz), fun q h1 h2 => by rw [e1, hk q (Nat.lt_of_lt_of_le h1 hS.1) (fun z => h2 (hA q (Nat.lt_of_lt_of_le h1 hS.1) z))]; exact hS.2.1 q h1 h2, fun q hq => by
      rcases List.mem_append.mp hq with h | h
      · exact hS.2.2 q h
      · exact hf _ (hL q h)⟩⟩
theorem vx_calli {S SX : Type} {post : Int32 → S → Prop} {px : SX → Prop} {B : S → State → Prop} {BX : String → SX → State → Prop} {AX : Nat → Prop} (hr : vx_Run p l e R s m args below meth c H locs cells slots mc ms (F0 m pc ls st0) rest (va_Qi post B A1 a) (vx_X px BX AX) free) (hS : va_S A0 H0 H locs) (hA : ∀ q, q < H.size → A1 q → A0 q) (hf : ∀ q, free q → A0 q) (hAX : ∀ q, q < H.size → AX q → A0 q)
    (kx : ∀ (E : String) (ce : Cell) (q9 : Addr) (u : SX) (t : State) (H1 : Heap) (locs1 : List Loc), t.heap = H1 → s.vm.Alike t.vm → px u → BX E u t → H.size ≤ H1.size → (∀ q : Nat, q < H.size → ¬ AX q → H1[q]? = H[q]?) → va_S A0 H0 H1 locs1 → H1[q9]? = some ce → ce.vm = .none → s.vm.findClass E = some ce.cls → vx_W p l e R s m args below meth c H1 locs1 (cells + mc) (slots + ms) Q (F0 m pc ls rest) q9)
    (kk : ∀ (r : Int32) (u : S) (t : State) (H1 : Heap) (locs1 : List Loc), t.heap = H1 → s.vm.Alike t.vm → post r u → B u t → H.size ≤ H1.size → (∀ q : Nat, q < H.size → ¬ A1 q → H1[q]? = H[q]?) → va_S A0 H0 H1 locs1 → W p l e R s m args below meth c H1 locs1 (cells + mc) (slots + ms) Q (F0 m (pc + 3) ls (.int r :: rest))) : W p l e R s m args below meth c H locs cells slots Q (F0 m pc ls st0) := by
  intro T hT X
  rcases hr T hT X with ⟨v, st₀, t, T', L, h0, X', hL, e1, e2, ⟨⟨r, u, hv, hp, hb⟩, hF⟩, st⟩ | ⟨q, st₀, t, T', L, E, ce, h0, X', hL, e1, e2, ⟨u, hp, hb, hF⟩, hce, hcv, hcl, st⟩
  · cases hv
    obtain ⟨k1, k2, k3⟩ := vx_keep h0 e1 hS hA hf hL hF
    obtain ⟨t2, a1, b1⟩ := kk r u t T'.heap (locs ++ L) e1.symm (by rw [← e2]; exact X'.warmed.alike) hp hb k1 k2 k3 T' rfl X'
    exact ⟨t2, st t2 a1, b1⟩
  · obtain ⟨k1, k2, k3⟩ := vx_keep h0 e1 hS hAX hf hL hF
    obtain ⟨t2, a1, b1⟩ := kx E ce q u t T'.heap (locs ++ L) e1.symm (by rw [← e2]; exact X'.warmed.alike) hp hb k1 k2 k3 (by rw [e1]; exact hce) hcv hcl T' rfl X'
    exact ⟨t2, st.trans a1, b1⟩
theorem vx_calll {S SX : Type} {post : Int64 → S → Prop} {px : SX → Prop} {B : S → State → Prop} {BX : String → SX → State → Prop} {AX : Nat → Prop} (hr : vx_Run p l e R s m args below meth c H locs cells slots mc ms (F0 m pc ls st0) rest (va_Ql post B A1 a) (vx_X px BX AX) free) (hS : va_S A0 H0 H locs) (hA : ∀ q, q < H.size → A1 q → A0 q) (hf : ∀ q, free q → A0 q) (hAX : ∀ q, q < H.size → AX q → A0 q)
    (kx : ∀ (E : String) (ce : Cell) (q9 : Addr) (u : SX) (t : State) (H1 : Heap) (locs1 : List Loc), t.heap = H1 → s.vm.Alike t.vm → px u → BX E u t → H.size ≤ H1.size → (∀ q : Nat, q < H.size → ¬ AX q → H1[q]? = H[q]?) → va_S A0 H0 H1 locs1 → H1[q9]? = some ce → ce.vm = .none → s.vm.findClass E = some ce.cls → vx_W p l e R s m args below meth c H1 locs1 (cells + mc) (slots + ms) Q (F0 m pc ls rest) q9)
    (kk : ∀ (r : Int64) (u : S) (t : State) (H1 : Heap) (locs1 : List Loc), t.heap = H1 → s.vm.Alike t.vm → post r u → B u t → H.size ≤ H1.size → (∀ q : Nat, q < H.size → ¬ A1 q → H1[q]? = H[q]?) → va_S A0 H0 H1 locs1 → W p l e R s m args below meth c H1 locs1 (cells + mc) (slots + ms) Q (F0 m (pc + 3) ls (.long r :: rest))) : W p l e R s m args below meth c H locs cells slots Q (F0 m pc ls st0) := by
  intro T hT X
  rcases hr T hT X with ⟨v, st₀, t, T', L, h0, X', hL, e1, e2, ⟨⟨r, u, hv, hp, hb⟩, hF⟩, st⟩ | ⟨q, st₀, t, T', L, E, ce, h0, X', hL, e1, e2, ⟨u, hp, hb, hF⟩, hce, hcv, hcl, st⟩
  · cases hv
    obtain ⟨k1, k2, k3⟩ := vx_keep h0 e1 hS hA hf hL hF
    obtain ⟨t2, a1, b1⟩ := kk r u t T'.heap (locs ++ L) e1.symm (by rw [← e2]; exact X'.warmed.alike) hp hb k1 k2 k3 T' rfl X'
    exact ⟨t2, st t2 a1, b1⟩
  · obtain ⟨k1, k2, k3⟩ := vx_keep h0 e1 hS hAX hf hL hF
    obtain ⟨t2, a1, b1⟩ := kx E ce q u t T'.heap (locs ++ L) e1.symm (by rw [← e2]; exact X'.warmed.alike) hp hb k1 k2 k3 (by rw [e1]; exact hce) hcv hcl T' rfl X'
    exact ⟨t2, st.trans a1, b1⟩
theorem vx_callf {S SX : Type} {post : UInt32 → S → Prop} {px : SX → Prop} {B : S → State → Prop} {BX : String → SX → State → Prop} {AX : Nat → Prop} (hr : vx_Run p l e R s m args below meth c H locs cells slots mc ms (F0 m pc ls st0) rest (va_Qf post B A1 a) (vx_X px BX AX) free) (hS : va_S A0 H0 H locs) (hA : ∀ q, q < H.size → A1 q → A0 q) (hf : ∀ q, free q → A0 q) (hAX : ∀ q, q < H.size → AX q → A0 q)
    (kx : ∀ (E : String) (ce : Cell) (q9 : Addr) (u : SX) (t : State) (H1 : Heap) (locs1 : List Loc), t.heap = H1 → s.vm.Alike t.vm → px u → BX E u t → H.size ≤ H1.size → (∀ q : Nat, q < H.size → ¬ AX q → H1[q]? = H[q]?) → va_S A0 H0 H1 locs1 → H1[q9]? = some ce → ce.vm = .none → s.vm.findClass E = some ce.cls → vx_W p l e R s m args below meth c H1 locs1 (cells + mc) (slots + ms) Q (F0 m pc ls rest) q9)
    (kk : ∀ (r : UInt32) (u : S) (t : State) (H1 : Heap) (locs1 : List Loc), t.heap = H1 → s.vm.Alike t.vm → post r u → B u t → H.size ≤ H1.size → (∀ q : Nat, q < H.size → ¬ A1 q → H1[q]? = H[q]?) → va_S A0 H0 H1 locs1 → W p l e R s m args below meth c H1 locs1 (cells + mc) (slots + ms) Q (F0 m (pc + 3) ls (.float r :: rest))) : W p l e R s m args below meth c H locs cells slots Q (F0 m pc ls st0) := by
  intro T hT X
  rcases hr T hT X with ⟨v, st₀, t, T', L, h0, X', hL, e1, e2, ⟨⟨r, u, hv, hp, hb⟩, hF⟩, st⟩ | ⟨q, st₀, t, T', L, E, ce, h0, X', hL, e1, e2, ⟨u, hp, hb, hF⟩, hce, hcv, hcl, st⟩
  · cases hv
    obtain ⟨k1, k2, k3⟩ := vx_keep h0 e1 hS hA hf hL hF
    obtain ⟨t2, a1, b1⟩ := kk r u t T'.heap (locs ++ L) e1.symm (by rw [← e2]; exact X'.warmed.alike) hp hb k1 k2 k3 T' rfl X'
    exact ⟨t2, st t2 a1, b1⟩
  · obtain ⟨k1, k2, k3⟩ := vx_keep h0 e1 hS hAX hf hL hF
    obtain ⟨t2, a1, b1⟩ := kx E ce q u t T'.heap (locs ++ L) e1.symm (by rw [← e2]; exact X'.warmed.alike) hp hb k1 k2 k3 (by rw [e1]; exact hce) hcv hcl T' rfl X'
    exact ⟨t2, st.trans a1, b1⟩
theorem vx_calld {S SX : Type} {post : UInt64 → S → Prop} {px : SX → Prop} {B : S → State → Prop} {BX : String → SX → State → Prop} {AX : Nat → Prop} (hr : vx_Run p l e R s m args below meth c H locs cells slots mc ms (F0 m pc ls st0) rest (va_Qd post B A1 a) (vx_X px BX AX) free) (hS : va_S A0 H0 H locs) (hA : ∀ q, q < H.size → A1 q → A0 q) (hf : ∀ q, free q → A0 q) (hAX : ∀ q, q < H.size → AX q → A0 q)
    (kx : ∀ (E : String) (ce : Cell) (q9 : Addr) (u : SX) (t : State) (H1 : Heap) (locs1 : List Loc), t.heap = H1 → s.vm.Alike t.vm → px u → BX E u t → H.size ≤ H1.size → (∀ q : Nat, q < H.size → ¬ AX q → H1[q]? = H[q]?) → va_S A0 H0 H1 locs1 → H1[q9]? = some ce → ce.vm = .none → s.vm.findClass E = some ce.cls → vx_W p l e R s m args below meth c H1 locs1 (cells + mc) (slots + ms) Q (F0 m pc ls rest) q9)
    (kk : ∀ (r : UInt64) (u : S) (t : State) (H1 : Heap) (locs1 : List Loc), t.heap = H1 → s.vm.Alike t.vm → post r u → B u t → H.size ≤ H1.size → (∀ q : Nat, q < H.size → ¬ A1 q → H1[q]? = H[q]?) → va_S A0 H0 H1 locs1 → W p l e R s m args below meth c H1 locs1 (cells + mc) (slots + ms) Q (F0 m (pc + 3) ls (.double r :: rest))) : W p l e R s m args below meth c H locs cells slots Q (F0 m pc ls st0) := by
  intro T hT X
  rcases hr T hT X with ⟨v, st₀, t, T', L, h0, X', hL, e1, e2, ⟨⟨r, u, hv, hp, hb⟩, hF⟩, st⟩ | ⟨q, st₀, t, T', L, E, ce, h0, X', hL, e1, e2, ⟨u, hp, hb, hF⟩, hce, hcv, hcl, st⟩
  · cases hv
    obtain ⟨k1, k2, k3⟩ := vx_keep h0 e1 hS hA hf hL hF
    obtain ⟨t2, a1, b1⟩ := kk r u t T'.heap (locs ++ L) e1.symm (by rw [← e2]; exact X'.warmed.alike) hp hb k1 k2 k3 T' rfl X'
    exact ⟨t2, st t2 a1, b1⟩
  · obtain ⟨k1, k2, k3⟩ := vx_keep h0 e1 hS hAX hf hL hF
    obtain ⟨t2, a1, b1⟩ := kx E ce q u t T'.heap (locs ++ L) e1.symm (by rw [← e2]; exact X'.warmed.alike) hp hb k1 k2 k3 (by rw [e1]; exact hce) hcv hcl T' rfl X'
    exact ⟨t2, st.trans a1, b1⟩
theorem vx_callv {S SX : Type} {post : S → Prop} {px : SX → Prop} {B : S → State → Prop} {BX : String → SX → State → Prop} {AX : Nat → Prop} (hr : vx_Run p l e R s m args below meth c H locs cells slots mc ms (F0 m pc ls st0) rest (va_Qv post B A1 a) (vx_X px BX AX) free) (hS : va_S A0 H0 H locs) (hA : ∀ q, q < H.size → A1 q → A0 q) (hf : ∀ q, free q → A0 q) (hAX : ∀ q, q < H.size → AX q → A0 q)
    (kx : ∀ (E : String) (ce : Cell) (q9 : Addr) (u : SX) (t : State) (H1 : Heap) (locs1 : List Loc), t.heap = H1 → s.vm.Alike t.vm → px u → BX E u t → H.size ≤ H1.size → (∀ q : Nat, q < H.size → ¬ AX q → H1[q]? = H[q]?) → va_S A0 H0 H1 locs1 → H1[q9]? = some ce → ce.vm = .none → s.vm.findClass E = some ce.cls → vx_W p l e R s m args below meth c H1 locs1 (cells + mc) (slots + ms) Q (F0 m pc ls rest) q9)
    (kk : ∀ (u : S) (t : State) (H1 : Heap) (locs1 : List Loc), t.heap = H1 → s.vm.Alike t.vm → post u → B u t → H.size ≤ H1.size → (∀ q : Nat, q < H.size → ¬ A1 q → H1[q]? = H[q]?) → va_S A0 H0 H1 locs1 → W p l e R s m args below meth c H1 locs1 (cells + mc) (slots + ms) Q (F0 m (pc + 3) ls (rest))) : W p l e R s m args below meth c H locs cells slots Q (F0 m pc ls st0) := by
  intro T hT X
  rcases hr T hT X with ⟨v, st₀, t, T', L, h0, X', hL, e1, e2, ⟨⟨u, hv, hp, hb⟩, hF⟩, st⟩ | ⟨q, st₀, t, T', L, E, ce, h0, X', hL, e1, e2, ⟨u, hp, hb, hF⟩, hce, hcv, hcl, st⟩
  · cases hv
    obtain ⟨k1, k2, k3⟩ := vx_keep h0 e1 hS hA hf hL hF
    obtain ⟨t2, a1, b1⟩ := kk u t T'.heap (locs ++ L) e1.symm (by rw [← e2]; exact X'.warmed.alike) hp hb k1 k2 k3 T' rfl X'
    exact ⟨t2, st t2 a1, b1⟩
  · obtain ⟨k1, k2, k3⟩ := vx_keep h0 e1 hS hAX hf hL hF
    obtain ⟨t2, a1, b1⟩ := kx E ce q u t T'.heap (locs ++ L) e1.symm (by rw [← e2]; exact X'.warmed.alike) hp hb k1 k2 k3 (by rw [e1]; exact hce) hcv hcl T' rfl X'
    exact ⟨t2, st.trans a1, b1⟩
/-- caught by the row x of this method's table; the rows ahead don't take it -/
theorem vx_catch {own name : String} {E : String} {ce : Cell} {q : Addr} (hown : s.vm.findClass own = some m.cls) (pre : List ExceptionTableEntry) (x : ExceptionTableEntry) (suf : List ExceptionTableEntry) (hsplit : c.exceptionTable.toList = pre ++ x :: suf)
    (hpass : ∀ z ∈ pre, covers z pc = false ∨ (z.catchType ≠ 0 ∧ ∃ nm : String, (Cond.classLink own z.catchType nm).before args s = true ∧ va_Nc E nm s)) (hx : covers x pc = true) (h0 : x.catchType ≠ 0)
    (hlink : (Cond.classLink own x.catchType name).before args s = true) (hcast : (Cond.castable E name).before args s = true) (hcell : H[q]? = some ce) (hv : ce.vm = .none) (hcl : s.vm.findClass E = some ce.cls)
    (kk : W p l e R s m args below meth c H locs cells slots Q (F0 m x.handlerPc ls [.ref q])) : vx_W p l e R s m args below meth c H locs cells slots Q (F0 m pc ls rest) q := by
  intro T hT X
  have hpl : e.platform.magicAccessors = ({} : Platform).magicAccessors := by rw [X.admits.platform]
  obtain ⟨c3, c4, hc3, hc4, hasg⟩ := Cond.castable_spec hcast
  cases Option.some.inj (hc3.symm.trans hcl)
  obtain ⟨c5, hc5, hcl5⟩ := Cond.classLink_spec hown hlink e.platform hpl
  cases Option.some.inj (hc4.symm.trans hc5)
  obtain ⟨vm', X', st⟩ := X.thenCaughtThrough q (g := F0 m pc ls rest) rfl (Steps.refl _) (by rw [hT]; exact hcell) (by rw [hv]; rfl) (by obtain ⟨k9, h9, -⟩ := Vm.findClass_spec hcl; exact ⟨k9, h9⟩) pre x suf hsplit
    (fun z hz => by
      rcases hpass z hz with h | ⟨hz0, nm, hl1, hn1⟩
      · exact Or.inl h
      · obtain ⟨c6, hc6, hcl6⟩ := Cond.classLink_spec hown hl1 e.platform hpl
        obtain ⟨a8, b8, h1, h2, h3⟩ := hn1
        cases Option.some.inj (h1.symm.trans hcl)
        cases Option.some.inj (h2.symm.trans hc6)
        exact Or.inr ⟨hz0, _, hcl6, h3⟩) hx (Or.inr ⟨h0, c4, hcl5, hasg⟩)
  obtain ⟨t, a1, b1⟩ := kk (T.setVm vm') hT X'
  exact ⟨t, st.trans a1, b1⟩
end Rows
section Ends
variable {p : Program} {l : Launch} {e : Env} {R : Room} {s : State} {m : MethodId} {args : Array Value} {below : List Frame} {meth : Method} {c : Code} {H : Heap} {locs : List Loc} {cells slots : Nat} {Q : State → Prop}
variable {mc ms : Nat} {free : Addr → Prop} {A0 A1 : Nat → Prop} {H0 : Heap} {a : Array Value} {ls : Array Slot} {st0 rest : List Value}
variable {Qc : Array Value → State → Outcome → State → Prop} {XC : String → State → State → Prop}
/-- what a body that may throw owes at its end -/
def vx_MQ (below : List Frame) (Qc : Array Value → State → Outcome → State → Prop) (XC : String → State → State → Prop) (a : Array Value) (s : State) (mc ms : Nat) (free : Addr → Prop) : State → Prop := fun t =>
  ∃ o, t.status = .running ∧ Ended t below o ∧ vx_Q Qc XC mc ms free a s o t
theorem vx_ret {g : JFrame} {mc ms : Nat} (k : W p l e R s m args below meth c H locs cells slots (MQ below Qc args s mc ms free) g) : W p l e R s m args below meth c H locs cells slots (vx_MQ below Qc XC args s mc ms free) g := by
  intro T hT X
  obtain ⟨t, a1, o, b1, b2, b3, b4⟩ := k T hT X
  exact ⟨t, a1, o, b1, b2, Or.inl ⟨b3, b4⟩⟩
/-- not caught here: it goes on to the caller -/
theorem vx_widen {g : JFrame} {q : Addr} {k n : Nat} (h1 : cells ≤ k) (h2 : slots ≤ n) (kk : vx_W p l e R s m args below meth c H locs k n Q g q) : vx_W p l e R s m args below meth c H locs cells slots Q g q := fun T hT X => kk T hT (stand_widen X h1 h2)
theorem vx_out {pc : Nat} {E : String} {ce : Cell} {q : Addr} {mc ms : Nat} (hout : ∀ x ∈ c.exceptionTable.toList, covers x pc = false) (hlocks : meth.locks = false) (hcell : H[q]? = some ce) (hv : ce.vm = .none) (hcl : s.vm.findClass E = some ce.cls)
    (hx : ∀ t : State, t.heap = H → s.vm.Alike t.vm → XC E s t) (hf : ∀ z ∈ locs, free z.base) (hc : cells ≤ mc) (hs : slots ≤ ms) :
    vx_W p l e R s m args below meth c H locs cells slots (vx_MQ below Qc XC args s mc ms free) (F0 m pc ls rest) q := by
  intro T hT X
  obtain ⟨st1, hrun, hend, hW, hsm⟩ := X.leaveThrown q (g := F0 m pc ls rest) rfl rfl rfl hout hlocks
  have hcell9 : (T.setFrames (.throwing q :: below)).heap[q]? = some ce := by
    show T.heap[q]? = some ce
    rw [hT]; exact hcell
  exact ⟨_, st1, .threw q, hrun, hend, Or.inr ⟨q, rfl, E, ce, locs, hx _ hT hW.alike, hcell9, hv, hcl, hW, hsm.mono hc hs, hf⟩⟩
theorem vx_frame {U : State} {k n : Nat} (h : s.sameButNew ({ U with vm := s.vm } : State) locs k n) : s.heap.size ≤ U.heap.size ∧ ∀ q : Nat, q < s.heap.size → (∀ z ∈ locs, z.base ≠ q) → U.heap[q]? = s.heap[q]? := by
  obtain ⟨-, h2, -, -, -, h6⟩ := h
  refine ⟨h2, fun q hq hz => ?_⟩
  obtain ⟨c9, e1, e2, e3, e4⟩ := h6 q _ (Array.getElem?_eq_getElem hq)
  have hs : c9.slots = (s.heap[q]).slots := Array.ext_getElem? fun i => e4 i fun hm => hz _ hm rfl
  have h9 : c9 = s.heap[q] := by
    rw [hs] at e2
    exact e2
  have e5 : U.heap[q]? = some c9 := e1
  rw [e5, h9, Array.getElem?_eq_getElem hq]
/-- the words of a throw but the four that speak of the heap -/
def vx_no (w : Cond) : Bool := decide (w ≠ .isRef (.static Bundle.tN "UNASSIGNED_STACK" Bundle.steD)) && decide (w ≠ .isRef (.static Bundle.tN "SUPPRESSED_SENTINEL" Bundle.listD)) && decide (w ≠ .laysStatic Bundle.tN "UNASSIGNED_STACK" Bundle.steD) && decide (w ≠ .laysStatic Bundle.tN "SUPPRESSED_SENTINEL" Bundle.listD)
def vx_at0 (own : String) (ic : Nat) (X : String) (names : List String) : List Cond := (Bundle.ownAtoms0 own ic X names).filter vx_no
def vx_atS (own : String) (ic : Nat) (X : String) (names : List String) : List Cond := (Bundle.ownAtoms own ic X names).filter vx_no
/-- a word that the tables alone decide, or a good one -/
def vx_ot (w : Cond) : Bool := w.onTables || goodWord w
theorem vx_ot_at {args a' : Array Value} {s U : State} {w : Cond} (hW : s.WarmedH U.vm) (hvm : s.vm = U.vm) (hg : vx_ot w = true) (h : w.before args s = true) : w.before a' U = true := by
  simp only [vx_ot, Bool.or_eq_true] at hg
  rcases hg with hg | hg
  · exact va_tabs hg hvm h
  · exact word_at hW (good_of_word hg) h
/-- a list's words: the good ones out of the method's own list, the others by premises of their own -/
theorem vx_hat {args : Array Value} {s : State} {L B : List Cond} (h1 : ∀ w ∈ L.filter goodWord, w.before args s = true) (h2 : ∀ w ∈ L.filter (fun w => !goodWord w), w ∈ B) (h3 : ∀ w ∈ B, w.before args s = true) : ∀ w ∈ L, w.before args s = true := by
  intro w hw
  by_cases g : goodWord w = true
  · exact h1 w (List.mem_filter.mpr ⟨hw, g⟩)
  · refine h3 w (h2 w (List.mem_filter.mpr ⟨hw, ?_⟩))
    show (!goodWord w) = true
    cases hgw : goodWord w
    · rfl
    · exact absurd hgw g
theorem vx_c {args : Array Value} {s : State} {w : Cond} {B : List Cond} (h : w.before args s = true) (t : ∀ w ∈ B, w.before args s = true) : ∀ w' ∈ w :: B, w'.before args s = true := fun w' h' => (List.mem_cons.mp h').elim (fun e => by rw [e]; exact h) (t w')
theorem vx_n {args : Array Value} {s : State} : ∀ w ∈ ([] : List Cond), w.before args s = true := fun _ h => nomatch h
theorem vx_own {args : Array Value} {s : State} {L : List Cond} (h1 : ∀ w ∈ L.filter vx_no, w.before args s = true)
    (hU : (Cond.isRef (.static Bundle.tN "UNASSIGNED_STACK" Bundle.steD)).before args s = true) (hN : (Cond.isRef (.static Bundle.tN "SUPPRESSED_SENTINEL" Bundle.listD)).before args s = true)
    (lU : (Cond.laysStatic Bundle.tN "UNASSIGNED_STACK" Bundle.steD).before args s = true) (lN : (Cond.laysStatic Bundle.tN "SUPPRESSED_SENTINEL" Bundle.listD).before args s = true) : ∀ w ∈ L, w.before args s = true := by
  intro w hw
  by_cases e1 : w = .isRef (.static Bundle.tN "UNASSIGNED_STACK" Bundle.steD)
  · rw [e1]; exact hU
  · by_cases e2 : w = .isRef (.static Bundle.tN "SUPPRESSED_SENTINEL" Bundle.listD)
    · rw [e2]; exact hN
    · by_cases e3 : w = .laysStatic Bundle.tN "UNASSIGNED_STACK" Bundle.steD
      · rw [e3]; exact lU
      · by_cases e4 : w = .laysStatic Bundle.tN "SUPPRESSED_SENTINEL" Bundle.listD
        · rw [e4]; exact lN
        · exact h1 w (List.mem_filter.mpr ⟨hw, by unfold vx_no; rw [decide_eq_true e1, decide_eq_true e2, decide_eq_true e3, decide_eq_true e4]; rfl⟩)
/-- where a static field lies, its class's statics cell in H -/
def vx_L (C n d : String) (A : Nat → Prop) (U : State) (H : Heap) : Prop := ∃ (c : ClassId) (k : Class) (i : Nat) (f : Field) (a : Nat) (cell : Cell), U.vm.findClass C = some c ∧ U.fieldFound? C n d = some (c, k, i, f) ∧ f.isStatic = true ∧ k.statics = some a ∧ H[a]? = some cell ∧ cell.vm.isStatics = true ∧ cell.cls = c ∧ f.slot < cell.slots.size ∧ k.staticTypes[f.slot]? = some f.type ∧ ¬ A a
theorem vx_L.moved {C n d : String} {A : Nat → Prop} {u U : State} {H : Heap} (hvm : u.vm.Alike U.vm) (h : vx_L C n d A u H) : vx_L C n d A U H := by
  obtain ⟨c, k, i, f, a, cell, h1, h2, h3, h4, h5, h6, h7, h8, h9, h10⟩ := h
  obtain ⟨k', hi', he⟩ := State.fieldFound?_setVm hvm h2
  exact ⟨c, k', i, f, a, cell, by rw [hvm.findClass]; exact h1, hi', h3, by rw [he]; exact h4, h5, h6, h7, h8, by rw [he]; exact h9, h10⟩
theorem vx_L.kept {C n d : String} {A : Nat → Prop} {U : State} {H H1 : Heap} (h : vx_L C n d A U H) (hq : ∀ a : Nat, a < H.size → ¬ A a → H1[a]? = H[a]?) : vx_L C n d A U H1 := by
  obtain ⟨c, k, i, f, a, cell, h1, h2, h3, h4, h5, h6, h7, h8, h9, h10⟩ := h
  exact ⟨c, k, i, f, a, cell, h1, h2, h3, h4, by rw [hq a (Array.getElem?_eq_some_iff.mp h5).1 h10]; exact h5, h6, h7, h8, h9, h10⟩
theorem vx_L.narrow {C n d : String} {A B : Nat → Prop} {U : State} {H : Heap} (h : vx_L C n d A U H) (hAB : ∀ q, B q → A q) : vx_L C n d B U H := by
  obtain ⟨c, k, i, f, a, cell, h1, h2, h3, h4, h5, h6, h7, h8, h9, h10⟩ := h
  exact ⟨c, k, i, f, a, cell, h1, h2, h3, h4, h5, h6, h7, h8, h9, fun z => h10 (hAB _ z)⟩
theorem vx_L.word {C n d : String} {A : Nat → Prop} {s : State} {args : Array Value} (h : vx_L C n d A s s.heap) : (Cond.laysStatic C n d).before args s = true := by
  obtain ⟨c, k, i, f, a, cell, h1, h2, h3, h4, h5, h6, h7, h8, h9, -⟩ := h
  show (Cond.laysStatic C n d).holds args s none s [] = true
  exact Cond.laysStatic_of h1 h2 h3 h4 h5 h6 h7 h8 h9
/-- .. and what it holds: null or some reference -/
def vx_Zq (C n d : String) (A : Nat → Prop) (U : State) (H : Heap) : Prop := va_Zq C n d A U H ∧ vx_L C n d A U H
theorem vx_Zq.moved {C n d : String} {A : Nat → Prop} {u U : State} {H : Heap} (hvm : u.vm.Alike U.vm) (h : vx_Zq C n d A u H) : vx_Zq C n d A U H := ⟨va_Zq.moved hvm h.1, vx_L.moved hvm h.2⟩
theorem vx_Zq.kept {C n d : String} {A : Nat → Prop} {U : State} {H H1 : Heap} (h : vx_Zq C n d A U H) (hq : ∀ a : Nat, a < H.size → ¬ A a → H1[a]? = H[a]?) : vx_Zq C n d A U H1 := ⟨va_Zq.kept h.1 hq, vx_L.kept h.2 hq⟩
theorem vx_Zq.narrow {C n d : String} {A B : Nat → Prop} {U : State} {H : Heap} (h : vx_Zq C n d A U H) (hAB : ∀ q, B q → A q) : vx_Zq C n d B U H := ⟨va_Zq.narrow h.1 hAB, vx_L.narrow h.2 hAB⟩
theorem vx_Zqof {args : Array Value} {s : State} {C n d : String} {A : Nat → Prop} (hl : (Cond.laysStatic C n d).before args s = true) (hini : (Cond.initialized C).before args s = true) (h : (Cond.isRef (.static C n d)).before args s = true) (hA : ∀ a : Nat, a < s.heap.size → ¬ A a) : vx_Zq C n d A s s.heap := by
  refine ⟨va_Zqof hl hini h hA, ?_⟩
  obtain ⟨c, k, i, f, a, cell, h1, h2, h3, h4, h5, h6, h7, h8, h9⟩ := Cond.laysStatic_spec hl
  exact ⟨c, k, i, f, a, cell, h1, h2, h3, h4, h5, h6, h7, h8, h9, hA a (Array.getElem?_eq_some_iff.mp h5).1⟩
theorem vx_isRef {C n d : String} {v : Value} {A : Nat → Prop} {s : State} {args : Array Value} (h : va_Z C n d v A s s.heap) (hv : v.isRef = true) : (Cond.isRef (.static C n d)).before args s = true := by
  obtain ⟨cf, kf, fi, f, a, cell, h1, h2, h3, h4, h5, h6, h7, -⟩ := h
  have he : (Term.static C n d).eval args s none [] s = some v := by
    simp [Term.eval, State.fieldNamed?, h1, h2, h4, h5, h6, h7]
  simp only [Cond.before, Cond.holds, Cond.value, he]
  cases v <;> simp_all [Value.isRef]
theorem vx_isRefq {C n d : String} {A : Nat → Prop} {s : State} {args : Array Value} (h : va_Zq C n d A s s.heap) : (Cond.isRef (.static C n d)).before args s = true := by
  rcases h with h | ⟨t, h⟩
  · exact vx_isRef h rfl
  · exact vx_isRef h rfl
/-- the same frame, seen from here: as if the method were called anew in this heap -/
theorem vx_rebase {T : State} (X : Stand p l e R s m args below meth c T locs cells slots) {R' : Room} (hf : R'.frames ≤ R.frames) (hl : R'.locals ≤ R.locals) (hc : cells + R'.cells ≤ R.cells) (hs : slots + R'.slots ≤ R.slots) :
    Stand p l e R' ((T.setVm s.vm).setFrames (.invoking m args :: below)) m args below meth c T [] 0 0 := by
  have htop : (T.setVm s.vm).topJava?.isSome := X.here.top
  have hF : ((T.setVm s.vm).setFrames (.invoking m args :: below)).frames = .invoking m args :: below := State.frames_setFrames _ (State.cur_lt_of_top htop)
  obtain ⟨g₀, hg0⟩ := Option.isSome_iff_exists.mp htop
  obtain ⟨r, hr⟩ := State.topJava?_eq_some.mp hg0
  have hl9 : e.platform.stackLimits (T.setVm s.vm).me = e.platform.stackLimits s.me := X.limits
  have hb9 : (T.setVm s.vm).me.stackBytes = s.me.stackBytes := X.bytes
  refine ⟨X.admits, X.cas, X.clock, hF, ?_, X.hears, X.method, X.code, X.here, X.tail, X.warmed, ?_, ?_, ?_⟩
  · have h := X.room
    have hU : ((T.setVm s.vm).setFrames (.invoking m args :: below)).localsInUse = s.localsInUse := by
      rw [State.localsInUse_invoking hF (meth := meth) (c := c) X.method X.code, State.localsInUse_invoking X.frames X.method X.code]
    simp only [State.hasRoom, Bool.and_eq_true, decide_eq_true_eq] at h ⊢
    obtain ⟨⟨⟨⟨h1, h2, h3, h4, h5, h6⟩, h7⟩, h8⟩, h9⟩ := h
    rw [X.frames, List.length_cons] at h2 h3
    have q1 := X.heapSize
    have q2 := X.used
    simp only [hF, hU, List.length_cons, State.stackLimits_setFrames, State.stackBytes_setFrames, hl9, hb9]
    refine ⟨⟨⟨⟨by omega, by omega, by omega, by omega, by omega, h6⟩, ?_⟩, ?_⟩, X.book⟩
    · show T.heap.size + R'.cells ≤ e.platform.maxCells
      omega
    · show T.slotsUsed + R'.slots ≤ e.platform.maxSlots
      omega
  · rw [State.stackLimits_setFrames]; rfl
  · rw [State.stackBytes_setFrames]; rfl
  · refine ⟨?_, Nat.le_refl _, Nat.le_refl _, ?_, ?_, fun a c9 h9 => ⟨c9, h9, rfl, rfl, fun _ _ => rfl⟩⟩
    · obtain ⟨t, ht, -⟩ := State.frames_cons hr
      show T.setVm s.vm = { ((T.setVm s.vm).setFrames (.invoking m args :: below)).setFrames (T.setVm s.vm).frames with heap := T.heap, slotsUsed := T.slotsUsed }
      rw [State.setFrames_setFrames, State.setFrames_self ht]
      rfl
    · show T.slotsUsed = T.slotsUsed + ((T.heap.toList.drop T.heap.size).map (·.slots.size)).sum
      rw [List.drop_eq_nil_of_le (Nat.le_of_eq Array.length_toList)]
      rfl
    · show ((T.heap.toList.drop T.heap.size).map (·.slots.size)).sum ≤ 0
      rw [List.drop_eq_nil_of_le (Nat.le_of_eq Array.length_toList)]
      exact Nat.le_refl _
/-- 'throw new E()': new; dup; invokespecial; athrow -/
theorem vx_throw0 {cc : ByteArray} {pc : Nat} (hexec : p.tables.exec = Jvm.exec) (hb : c.code = cc) (hl : l.stackTraces = false) {own cls : String} {names : List String} {ik ic mc ms : Nat} {A : Nat → Prop}
    (hown : s.vm.findClass own = some m.cls) (hcls : Bundle.fit cls = true) (hnames : ∀ n ∈ names, Bundle.fit n = true)
    (hk : (Cond.classLink own ik cls).before args s = true) (hini : (Cond.initialized cls).before args s = true) (hat : ∀ w ∈ vx_at0 own ic cls names, w.before args s = true)
    (hgood : ∀ w ∈ Cond.classLink own ik cls :: Cond.initialized cls :: vx_at0 own ic cls names, vx_ot w = true)
    (hU : vx_Zq Bundle.tN "UNASSIGNED_STACK" Bundle.steD A s s.heap) (hN : vx_Zq Bundle.tN "SUPPRESSED_SENTINEL" Bundle.listD A s s.heap) (hS : va_S A s.heap H locs) (hsize : ls.size = c.maxLocals)
    (d0 : decode cc pc = .ok (.new ik, 3)) (d3 : decode cc (pc + 3) = .ok (.dup, 1)) (d4 : decode cc (pc + 4) = .ok (.invokespecial ic, 3)) (d7 : decode cc (pc + 7) = .ok (.athrow, 1))
    (hout : ∀ x ∈ c.exceptionTable.toList, covers x (pc + 7) = false)
    (hRframes : names.length + 3 < R.frames) (hRlocals : (rest.map fun v => v.category).sum + (13 * (names.length + 1) + 42) ≤ R.locals) (hRcells : cells + 1 ≤ R.cells) (hRslots : slots + 6 ≤ R.slots) (hlocks : meth.locks = false)
    (hx : ∀ t : State, s.vm.Alike t.vm → H.size ≤ t.heap.size → (∀ q : Nat, q < H.size → t.heap[q]? = H[q]?) → XC cls s t)
    (hf : ∀ z ∈ locs, free z.base) (hc : cells + 1 ≤ mc) (hs : slots + 6 ≤ ms) :
    W p l e R s m args below meth c H locs cells slots (vx_MQ below Qc XC args s mc ms free) (F0 m pc ls rest) := by
  intro T hT X
  have htr : e.platform.stackTraces = false := (show e.platform.stackTraces = l.stackTraces by rw [X.admits.platform]).trans hl
  have Y := vx_rebase X (R' := { frames := R.frames, locals := R.locals, cells := 1, slots := 6 }) (Nat.le_refl _) (Nat.le_refl _) hRcells hRslots
  obtain ⟨s', hA⟩ : ∃ z, z = (T.setVm s.vm).setFrames (.invoking m args :: below) := ⟨_, rfl⟩
  rw [← hA] at Y
  have hvm : s'.vm = s.vm := by rw [hA]; rfl
  have hhp : s'.heap = H := by rw [hA]; exact hT
  have hW0 : s.WarmedH s'.vm := by rw [hvm]; exact State.WarmedH.refl s
  have hat' : ∀ w ∈ vx_at0 own ic cls names, w.before args s' = true := fun w hw => vx_ot_at hW0 hvm.symm (hgood w (List.mem_cons_of_mem _ (List.mem_cons_of_mem _ hw))) (hat w hw)
  have hk' : (Cond.classLink own ik cls).before args s' = true := vx_ot_at hW0 hvm.symm (hgood _ List.mem_cons_self) hk
  have hini' : (Cond.initialized cls).before args s' = true := vx_ot_at hW0 hvm.symm (hgood _ (List.mem_cons_of_mem _ List.mem_cons_self)) hini
  have hU' : vx_Zq Bundle.tN "UNASSIGNED_STACK" Bundle.steD A s' s'.heap := by rw [hhp]; exact vx_Zq.moved hW0.alike (hU.kept hS.2.1)
  have hN' : vx_Zq Bundle.tN "SUPPRESSED_SENTINEL" Bundle.listD A s' s'.heap := by rw [hhp]; exact vx_Zq.moved hW0.alike (hN.kept hS.2.1)
  have h : ∀ w ∈ Bundle.ownAtoms0 own ic cls names, w.before args s' = true := vx_own hat' (vx_isRefq hU'.1) (vx_isRefq hN'.1) hU'.2.word hN'.2.word
  have hown' : s'.vm.findClass own = some m.cls := by rw [hvm]; exact hown
  have hins : (Cond.instantiable cls 6).before args s' = true := h _ (by simp [Bundle.ownAtoms0])
  obtain ⟨vm₁, cX, kX, hfX, hkX, -, -, X₁, st1⟩ := Y.newCold hexec (own := own) (C := cls) (index := ik) (n := 6) hown' hk' hins hini'
    (g := F0 m pc ls rest) rfl (by rw [hb]; exact d0) (Nat.le_refl _) (Nat.le_refl _)
  generalize hT1 : (T.setVm vm₁).pushCell { cls := cX, slots := kX.instanceTypes.map defaultValue, vm := .none } = T1 at X₁ st1
  have hcat : (Value.ref T.heap.size).category = 1 := rfl
  have hcellA : T1.heap[T.heap.size]? = some (freshCell cX kX) := by rw [← hT1]; exact State.heap_pushCell_size _ _
  have d3' : decode c.code (pc + 3) = .ok (.dup, 1) := by rw [hb]; exact d3
  obtain ⟨U, hsteps, hrun, hend, hW, hsame, ce, hce, hO⟩ := X₁.ctorThrow0 hexec htr (own := own) (cls := cls) (names := names) (ic := ic) hown' hcls hnames h (fun x hx => nomatch hx) hfX hkX hcellA (by rw [hhp, hT]; exact Nat.le_refl _)
    (g := { method := m, pc := pc + 4, locals := ls, stack := .ref T.heap.size :: .ref T.heap.size :: rest, locked := none }) rfl hsize rfl rfl (rest := rest) rfl
    (by rw [hb]; exact d4) (by rw [hb]; exact d7) hout hRframes (by simp only [List.map_cons, List.sum_cons, hcat]; omega) hlocks
  obtain ⟨f1, f2⟩ := vx_frame hsame
  rw [hhp] at f1 f2
  have hWs : s.WarmedH U.vm := State.WarmedH.trans hW0 hW
  have hcl : s.vm.findClass cls = some ce.cls := by
    have h9 := hO.cls
    rw [hvm] at h9
    exact h9
  have hall : s.sameButNew ({ U with vm := s.vm } : State) locs mc ms := by
    subst hA
    obtain ⟨e1, e2⟩ := hsame
    rw [State.setFrames_setFrames] at e1
    have h2 : (T.setVm s.vm).sameButNew ({ U with vm := s.vm } : State) [] (0 + 1) (0 + 6) := ⟨e1, e2⟩
    have h3 := X.same.trans h2
    rw [List.append_nil] at h3
    exact h3.mono hc hs
  refine ⟨U, ?_, .threw T.heap.size, hrun, hend, Or.inr ⟨T.heap.size, rfl, cls, ce, locs, hx U hWs.alike f1 (fun q hq => f2 q hq (fun z hz => nomatch hz)), hce, hO.vm, hcl, hWs, hall, hf⟩⟩
  refine st1 _ ?_
  show Steps p.tables e below (T1.setTop { method := m, pc := pc + 3, locals := ls, stack := .ref T.heap.size :: rest, locked := none }) _
  jvm_step X₁.here [X₁.here.top, hexec, d3', Value.category]
  exact hsteps
/-- 'throw new E("text")': new; dup; ldc; invokespecial; athrow -/
theorem vx_throwS {cc : ByteArray} {pc : Nat} (hexec : p.tables.exec = Jvm.exec) (hb : c.code = cc) (hl : l.stackTraces = false) {own cls text : String} {names : List String} {ik is ic mc ms sa : Nat} {A : Nat → Prop}
    (hown : s.vm.findClass own = some m.cls) (hcls : Bundle.fit cls = true) (hnames : ∀ n ∈ names, Bundle.fit n = true)
    (hk : (Cond.classLink own ik cls).before args s = true) (hini : (Cond.initialized cls).before args s = true) (hstr : vk_R own is text sa s) (hat : ∀ w ∈ vx_atS own ic cls names, w.before args s = true)
    (hgood : ∀ w ∈ Cond.classLink own ik cls :: Cond.initialized cls :: vx_atS own ic cls names, vx_ot w = true)
    (hU : vx_Zq Bundle.tN "UNASSIGNED_STACK" Bundle.steD A s s.heap) (hN : vx_Zq Bundle.tN "SUPPRESSED_SENTINEL" Bundle.listD A s s.heap) (hS : va_S A s.heap H locs) (hsize : ls.size = c.maxLocals)
    (d0 : decode cc pc = .ok (.new ik, 3)) (d3 : decode cc (pc + 3) = .ok (.dup, 1)) (d4 : decode cc (pc + 4) = .ok (.ldc is, 2)) (d6 : decode cc (pc + 6) = .ok (.invokespecial ic, 3)) (d9 : decode cc (pc + 9) = .ok (.athrow, 1))
    (hout : ∀ x ∈ c.exceptionTable.toList, covers x (pc + 9) = false)
    (hRframes : names.length + 3 < R.frames) (hRlocals : (rest.map fun v => v.category).sum + (13 * (names.length + 1) + 43) ≤ R.locals) (hRcells : cells + 1 ≤ R.cells) (hRslots : slots + 6 ≤ R.slots) (hlocks : meth.locks = false)
    (hx : ∀ t : State, s.vm.Alike t.vm → H.size ≤ t.heap.size → (∀ q : Nat, q < H.size → t.heap[q]? = H[q]?) → XC cls s t)
    (hf : ∀ z ∈ locs, free z.base) (hc : cells + 1 ≤ mc) (hs : slots + 6 ≤ ms) :
    W p l e R s m args below meth c H locs cells slots (vx_MQ below Qc XC args s mc ms free) (F0 m pc ls rest) := by
  intro T hT X
  have htr : e.platform.stackTraces = false := (show e.platform.stackTraces = l.stackTraces by rw [X.admits.platform]).trans hl
  have Y := vx_rebase X (R' := { frames := R.frames, locals := R.locals, cells := 1, slots := 6 }) (Nat.le_refl _) (Nat.le_refl _) hRcells hRslots
  obtain ⟨s', hA⟩ : ∃ z, z = (T.setVm s.vm).setFrames (.invoking m args :: below) := ⟨_, rfl⟩
  rw [← hA] at Y
  have hvm : s'.vm = s.vm := by rw [hA]; rfl
  have hhp : s'.heap = H := by rw [hA]; exact hT
  have hW0 : s.WarmedH s'.vm := by rw [hvm]; exact State.WarmedH.refl s
  have hat' : ∀ w ∈ vx_atS own ic cls names, w.before args s' = true := fun w hw => vx_ot_at hW0 hvm.symm (hgood w (List.mem_cons_of_mem _ (List.mem_cons_of_mem _ hw))) (hat w hw)
  have hk' : (Cond.classLink own ik cls).before args s' = true := vx_ot_at hW0 hvm.symm (hgood _ List.mem_cons_self) hk
  have hini' : (Cond.initialized cls).before args s' = true := vx_ot_at hW0 hvm.symm (hgood _ (List.mem_cons_of_mem _ List.mem_cons_self)) hini
  have hU' : vx_Zq Bundle.tN "UNASSIGNED_STACK" Bundle.steD A s' s'.heap := by rw [hhp]; exact vx_Zq.moved hW0.alike (hU.kept hS.2.1)
  have hN' : vx_Zq Bundle.tN "SUPPRESSED_SENTINEL" Bundle.listD A s' s'.heap := by rw [hhp]; exact vx_Zq.moved hW0.alike (hN.kept hS.2.1)
  have h : ∀ w ∈ Bundle.ownAtoms own ic cls names, w.before args s' = true := vx_own hat' (vx_isRefq hU'.1) (vx_isRefq hN'.1) hU'.2.word hN'.2.word
  have hown' : s'.vm.findClass own = some m.cls := by rw [hvm]; exact hown
  have hins : (Cond.instantiable cls 6).before args s' = true := h _ (by simp [Bundle.ownAtoms])
  obtain ⟨vm₁, cX, kX, hfX, hkX, -, -, X₁, st1⟩ := Y.newCold hexec (own := own) (C := cls) (index := ik) (n := 6) hown' hk' hins hini'
    (g := F0 m pc ls rest) rfl (by rw [hb]; exact d0) (Nat.le_refl _) (Nat.le_refl _)
  generalize hT1 : (T.setVm vm₁).pushCell { cls := cX, slots := kX.instanceTypes.map defaultValue, vm := .none } = T1 at X₁ st1
  have hcat : (Value.ref T.heap.size).category = 1 := rfl
  have hcellA : T1.heap[T.heap.size]? = some (freshCell cX kX) := by rw [← hT1]; exact State.heap_pushCell_size _ _
  have d3' : decode c.code (pc + 3) = .ok (.dup, 1) := by rw [hb]; exact d3
  have d4' : decode c.code (pc + 4) = .ok (.ldc is, 2) := by rw [hb]; exact d4
  have hstr' : vk_R own is text sa s' := vk_R.warm hW0 hstr
  obtain ⟨U, hsteps, hrun, hend, hW, hsame, ce, hce, hO⟩ := X₁.ctorThrowS hexec htr (own := own) (cls := cls) (names := names) (ic := ic) hown' hcls hnames h (fun x hx => nomatch hx) hfX hkX hcellA (by rw [hhp, hT]; exact Nat.le_refl _) (msg := .ref sa) rfl
    (g := { method := m, pc := pc + 6, locals := ls, stack := .ref sa :: .ref T.heap.size :: .ref T.heap.size :: rest, locked := none }) rfl hsize rfl rfl (rest := rest) rfl
    (by rw [hb]; exact d6) (by rw [hb]; exact d9) hout hRframes (by simp only [List.map_cons, List.sum_cons, hcat]; omega) hlocks
  obtain ⟨f1, f2⟩ := vx_frame hsame
  rw [hhp] at f1 f2
  have hWs : s.WarmedH U.vm := State.WarmedH.trans hW0 hW
  have hcl : s.vm.findClass cls = some ce.cls := by
    have h9 := hO.cls
    rw [hvm] at h9
    exact h9
  have hall : s.sameButNew ({ U with vm := s.vm } : State) locs mc ms := by
    subst hA
    obtain ⟨e1, e2⟩ := hsame
    rw [State.setFrames_setFrames] at e1
    have h2 : (T.setVm s.vm).sameButNew ({ U with vm := s.vm } : State) [] (0 + 1) (0 + 6) := ⟨e1, e2⟩
    have h3 := X.same.trans h2
    rw [List.append_nil] at h3
    exact h3.mono hc hs
  refine ⟨U, ?_, .threw T.heap.size, hrun, hend, Or.inr ⟨T.heap.size, rfl, cls, ce, locs, hx U hWs.alike f1 (fun q hq => f2 q hq (fun z hz => nomatch hz)), hce, hO.vm, hcl, hWs, hall, hf⟩⟩
  refine st1 _ ?_
  show Steps p.tables e below (T1.setTop { method := m, pc := pc + 3, locals := ls, stack := .ref T.heap.size :: rest, locked := none }) _
  jvm_step X₁.here [X₁.here.top, hexec, d3', Value.category]
  exact X₁.ldcString hexec (own := own) (text := text) (index := is) (a := sa) hown' hstr'.1 hstr'.2
    (g := { method := m, pc := pc + 4, locals := ls, stack := .ref T.heap.size :: .ref T.heap.size :: rest, locked := none }) rfl d4' _ hsteps
/-- 'throw new E("text")', the text by a wide index -/
theorem vx_throwSW {cc : ByteArray} {pc : Nat} (hexec : p.tables.exec = Jvm.exec) (hb : c.code = cc) (hl : l.stackTraces = false) {own cls text : String} {names : List String} {ik is ic mc ms sa : Nat} {A : Nat → Prop}
    (hown : s.vm.findClass own = some m.cls) (hcls : Bundle.fit cls = true) (hnames : ∀ n ∈ names, Bundle.fit n = true)
    (hk : (Cond.classLink own ik cls).before args s = true) (hini : (Cond.initialized cls).before args s = true) (hstr : vk_R own is text sa s) (hat : ∀ w ∈ vx_atS own ic cls names, w.before args s = true)
    (hgood : ∀ w ∈ Cond.classLink own ik cls :: Cond.initialized cls :: vx_atS own ic cls names, vx_ot w = true)
    (hU : vx_Zq Bundle.tN "UNASSIGNED_STACK" Bundle.steD A s s.heap) (hN : vx_Zq Bundle.tN "SUPPRESSED_SENTINEL" Bundle.listD A s s.heap) (hS : va_S A s.heap H locs) (hsize : ls.size = c.maxLocals)
    (d0 : decode cc pc = .ok (.new ik, 3)) (d3 : decode cc (pc + 3) = .ok (.dup, 1)) (d4 : decode cc (pc + 4) = .ok (.ldc_w is, 3)) (d7 : decode cc (pc + 7) = .ok (.invokespecial ic, 3)) (d10 : decode cc (pc + 10) = .ok (.athrow, 1))
    (hout : ∀ x ∈ c.exceptionTable.toList, covers x (pc + 10) = false)
    (hRframes : names.length + 3 < R.frames) (hRlocals : (rest.map fun v => v.category).sum + (13 * (names.length + 1) + 43) ≤ R.locals) (hRcells : cells + 1 ≤ R.cells) (hRslots : slots + 6 ≤ R.slots) (hlocks : meth.locks = false)
    (hx : ∀ t : State, s.vm.Alike t.vm → H.size ≤ t.heap.size → (∀ q : Nat, q < H.size → t.heap[q]? = H[q]?) → XC cls s t)
    (hf : ∀ z ∈ locs, free z.base) (hc : cells + 1 ≤ mc) (hs : slots + 6 ≤ ms) :
    W p l e R s m args below meth c H locs cells slots (vx_MQ below Qc XC args s mc ms free) (F0 m pc ls rest) := by
  intro T hT X
  have htr : e.platform.stackTraces = false := (show e.platform.stackTraces = l.stackTraces by rw [X.admits.platform]).trans hl
  have Y := vx_rebase X (R' := { frames := R.frames, locals := R.locals, cells := 1, slots := 6 }) (Nat.le_refl _) (Nat.le_refl _) hRcells hRslots
  obtain ⟨s', hA⟩ : ∃ z, z = (T.setVm s.vm).setFrames (.invoking m args :: below) := ⟨_, rfl⟩
  rw [← hA] at Y
  have hvm : s'.vm = s.vm := by rw [hA]; rfl
  have hhp : s'.heap = H := by rw [hA]; exact hT
  have hW0 : s.WarmedH s'.vm := by rw [hvm]; exact State.WarmedH.refl s
  have hat' : ∀ w ∈ vx_atS own ic cls names, w.before args s' = true := fun w hw => vx_ot_at hW0 hvm.symm (hgood w (List.mem_cons_of_mem _ (List.mem_cons_of_mem _ hw))) (hat w hw)
  have hk' : (Cond.classLink own ik cls).before args s' = true := vx_ot_at hW0 hvm.symm (hgood _ List.mem_cons_self) hk
  have hini' : (Cond.initialized cls).before args s' = true := vx_ot_at hW0 hvm.symm (hgood _ (List.mem_cons_of_mem _ List.mem_cons_self)) hini
  have hU' : vx_Zq Bundle.tN "UNASSIGNED_STACK" Bundle.steD A s' s'.heap := by rw [hhp]; exact vx_Zq.moved hW0.alike (hU.kept hS.2.1)
  have hN' : vx_Zq Bundle.tN "SUPPRESSED_SENTINEL" Bundle.listD A s' s'.heap := by rw [hhp]; exact vx_Zq.moved hW0.alike (hN.kept hS.2.1)
  have h : ∀ w ∈ Bundle.ownAtoms own ic cls names, w.before args s' = true := vx_own hat' (vx_isRefq hU'.1) (vx_isRefq hN'.1) hU'.2.word hN'.2.word
  have hown' : s'.vm.findClass own = some m.cls := by rw [hvm]; exact hown
  have hins : (Cond.instantiable cls 6).before args s' = true := h _ (by simp [Bundle.ownAtoms])
  obtain ⟨vm₁, cX, kX, hfX, hkX, -, -, X₁, st1⟩ := Y.newCold hexec (own := own) (C := cls) (index := ik) (n := 6) hown' hk' hins hini'
    (g := F0 m pc ls rest) rfl (by rw [hb]; exact d0) (Nat.le_refl _) (Nat.le_refl _)
  generalize hT1 : (T.setVm vm₁).pushCell { cls := cX, slots := kX.instanceTypes.map defaultValue, vm := .none } = T1 at X₁ st1
  have hcat : (Value.ref T.heap.size).category = 1 := rfl
  have hcellA : T1.heap[T.heap.size]? = some (freshCell cX kX) := by rw [← hT1]; exact State.heap_pushCell_size _ _
  have d3' : decode c.code (pc + 3) = .ok (.dup, 1) := by rw [hb]; exact d3
  have d4' : decode c.code (pc + 4) = .ok (.ldc_w is, 3) := by rw [hb]; exact d4
  have hstr' : vk_R own is text sa s' := vk_R.warm hW0 hstr
  obtain ⟨U, hsteps, hrun, hend, hW, hsame, ce, hce, hO⟩ := X₁.ctorThrowS hexec htr (own := own) (cls := cls) (names := names) (ic := ic) hown' hcls hnames h (fun x hx => nomatch hx) hfX hkX hcellA (by rw [hhp, hT]; exact Nat.le_refl _) (msg := .ref sa) rfl
    (g := { method := m, pc := pc + 7, locals := ls, stack := .ref sa :: .ref T.heap.size :: .ref T.heap.size :: rest, locked := none }) rfl hsize rfl rfl (rest := rest) rfl
    (by rw [hb]; exact d7) (by rw [hb]; exact d10) hout hRframes (by simp only [List.map_cons, List.sum_cons, hcat]; omega) hlocks
  obtain ⟨f1, f2⟩ := vx_frame hsame
  rw [hhp] at f1 f2
  have hWs : s.WarmedH U.vm := State.WarmedH.trans hW0 hW
  have hcl : s.vm.findClass cls = some ce.cls := by
    have h9 := hO.cls
    rw [hvm] at h9
    exact h9
  have hall : s.sameButNew ({ U with vm := s.vm } : State) locs mc ms := by
    subst hA
    obtain ⟨e1, e2⟩ := hsame
    rw [State.setFrames_setFrames] at e1
    have h2 : (T.setVm s.vm).sameButNew ({ U with vm := s.vm } : State) [] (0 + 1) (0 + 6) := ⟨e1, e2⟩
    have h3 := X.same.trans h2
    rw [List.append_nil] at h3
    exact h3.mono hc hs
  refine ⟨U, ?_, .threw T.heap.size, hrun, hend, Or.inr ⟨T.heap.size, rfl, cls, ce, locs, hx U hWs.alike f1 (fun q hq => f2 q hq (fun z hz => nomatch hz)), hce, hO.vm, hcl, hWs, hall, hf⟩⟩
  refine st1 _ ?_
  show Steps p.tables e below (T1.setTop { method := m, pc := pc + 3, locals := ls, stack := .ref T.heap.size :: rest, locked := none }) _
  jvm_step X₁.here [X₁.here.top, hexec, d3', Value.category]
  exact X₁.ldcStringW hexec (own := own) (text := text) (index := is) (a := sa) hown' hstr'.1 hstr'.2
    (g := { method := m, pc := pc + 4, locals := ls, stack := .ref T.heap.size :: .ref T.heap.size :: rest, locked := none }) rfl d4' _ hsteps
end Ends
section Bodies
variable {l : Launch}
theorem vx_ofW {y : MethodName} {ws ws' : List Cond} {rm : Room} {Pc : Array Value → State → Prop} {Qc : Array Value → State → Outcome → State → Prop} {XC : String → State → State → Prop} {mc ms : Nat} {free : Addr → Prop} {cc : ByteArray} {maxL : Nat} {ret : Option FieldType}
    (hy : plainName y.cls = true) (hw : ws = Cond.code y cc maxL ret :: ws')
    (body : ∀ p e s m args below meth c s₁, BodyLoose p l y (headSpec ws rm) cc maxL ret e s m args below meth c s₁ → c.maxLocals = maxL → (∀ x ∈ c.exceptionTable.toList, False) → Pc args s →
      W p l e (headSpec ws rm).room s m args below meth c s.heap [] 0 0 (vx_MQ below Qc XC args s mc ms free) (entryFrame m args maxL)) : vx_Met l y ws rm Pc Qc XC mc ms free := by
  refine MetFree.of_bodyS (code := cc) (maxLocals := maxL) (ret := ret) hy ?_ ?_
  · intro args s m h hn
    obtain ⟨meth, c, h1, h2, h3, h4, h5, h6, -, -⟩ := Cond.code_spec hn (atoms_spec (ws := ws) h _ (by rw [hw]; exact List.mem_cons_self))
    exact ⟨meth, c, h1, h2, h3, h4, h5, h6⟩
  · intro p e s m args below meth c s₁ B hml hP _
    have hh0 : s₁.heap = s.heap := by rw [B.state]; rfl
    have ht : ∀ x ∈ c.exceptionTable.toList, False := by
      obtain ⟨meth9, c9, h1, h2, -, -, -, -, h7, -⟩ := Cond.code_spec B.named (atoms_spec (ws := ws) B.pre _ (by rw [hw]; exact List.mem_cons_self))
      cases Option.some.inj (h1.symm.trans B.method)
      cases Option.some.inj (h2.symm.trans (Stand.of_body B).code)
      intro x hx
      rw [Array.isEmpty_iff.mp h7] at hx
      cases hx
    obtain ⟨t, a1, o, b1, b2, b3⟩ := body p e s m args below meth c s₁ B hml ht hP s₁ hh0 (Stand.of_body B)
    exact ⟨t, o, a1, b1, b2, b3⟩
/-- the table of a body with handlers -/
theorem vx_table {p : Program} {x y : MethodName} {S : Spec} {cc bytes : ByteArray} {maxL maxL' : Nat} {ret ret' : Option FieldType} {e : Env} {s s₁ : State} {m : MethodId} {args : Array Value} {below : List Frame} {meth : Method} {c : Code} {hh : List (Nat × Nat × Nat × Nat)}
    (B : BodyLoose p l y S cc maxL ret e s m args below meth c s₁) (h : (Cond.codeWith y bytes maxL' ret' hh).before args s = true) : c.exceptionTable.toList = tableOf hh := by
  obtain ⟨m9, meth9, c9, hn9, h1, h2, -, -, h6, -⟩ := Cond.codeWith_spec h
  cases Option.some.inj (hn9.symm.trans B.named)
  cases Option.some.inj (h1.symm.trans B.method)
  cases Option.some.inj (h2.symm.trans (Stand.of_body B).code)
  rw [← h6, table_eq]
end Bodies
end VXA
/-! ===== END ===== -/
/-! ===== BEGIN a static call of a method with an exception table ===== -/
section VXS
variable {p : Program} {l : Launch} {e : Env} {R : Room} {s : State} {m : MethodId} {args : Array Value} {below : List Frame} {meth : Method} {c : Code} {T : State} {H : Heap} {locs : List Loc} {cells slots : Nat}
abbrev vx_CSW (R : Room) (s : State) (args : Array Value) (own : String) (index : Nat) (y : MethodName) (bytes : ByteArray) (maxL : Nat) (ret : Option FieldType) (hh : List (Nat × Nat × Nat × Nat)) (ws : List Cond) (rm : Room) (mc ms n : Nat) : Prop :=
  (rm.cells = mc ∧ rm.slots = ms ∧ rm.frames + 1 ≤ R.frames ∧ 8 + (maxL + 11) + rm.locals ≤ R.locals ∧ (∀ w ∈ ws, ∀ (a' : Array Value) (U : State), s.WarmedH U.vm → w.before a' U = true) ∧ Cond.codeWith y bytes maxL ret hh ∈ ws) ∧
  (Cond.codeWith y bytes maxL ret hh).before args s = true ∧ (Cond.initialized y.cls).before args s = true ∧ (y.cls ≠ "java/lang/invoke/MethodHandle" ∧ y.cls ≠ "java/lang/invoke/VarHandle") ∧
  (∀ sig, parseMethodDescriptor y.desc = some sig → n = sig.parameters.length) ∧ (Cond.methodLink own index y).before args s = true ∧ (Cond.static y).before args s = true
theorem vx_cwSW {own : String} {index maxL mc ms : Nat} {y : MethodName} {bytes : ByteArray} {ret : Option FieldType} {hh : List (Nat × Nat × Nat × Nat)} {Ts ws ws' : List Cond} {rm : Room} (n : Nat) (ht : ∀ w ∈ Ts, w.before args s = true) (hT : GoodIn Ts (va_wsS own index y ws)) (hw : ws = Cond.codeWith y bytes maxL ret hh :: ws') (hrc : rm.cells = mc) (hrs : rm.slots = ms)
    (hd : y.cls ≠ "java/lang/invoke/MethodHandle" ∧ y.cls ≠ "java/lang/invoke/VarHandle" ∧ (parseMethodDescriptor y.desc).map (fun d => d.parameters.length) = some n) (hR : rm.frames + 1 ≤ R.frames ∧ 8 + (maxL + 11) + rm.locals ≤ R.locals) :
    vx_CSW R s args own index y bytes maxL ret hh ws rm mc ms n := by
  have ok : ∀ w ∈ va_wsS own index y ws, w.before args s = true := fun w h => ht w (hT w h).1
  have hG : GoodIn Ts ws := fun w h => hT w (by unfold va_wsS; exact List.mem_append_right _ h)
  have hc : Cond.codeWith y bytes maxL ret hh ∈ ws := by rw [hw]; exact List.mem_cons_self
  refine ⟨⟨hrc, hrs, hR.1, hR.2, pay_in ht hG, hc⟩, ht _ (hG _ hc).1, ok _ (by simp [va_wsS]), ⟨hd.1, hd.2.1⟩, fun sig h => ?_, ok _ (by simp [va_wsS]), ok _ (by simp [va_wsS])⟩
  have h2 := hd.2.2
  rw [h] at h2
  exact (Option.some.inj h2).symm
theorem vx_callSW (X : Stand p l e R s m args below meth c T locs cells slots) (hexec : p.tables.exec = Jvm.exec) {own : String} {index : Nat} {y : MethodName} {bytes : ByteArray} {maxL : Nat} {ret : Option FieldType} {hh : List (Nat × Nat × Nat × Nat)}
    (hown : s.vm.findClass own = some m.cls) (hlink : (Cond.methodLink own index y).before args s = true) (hstat : (Cond.static y).before args s = true) (hinit : (Cond.initialized y.cls).before args s = true)
    (hcode : (Cond.codeWith y bytes maxL ret hh).before args s = true) (hy : y.cls ≠ "java/lang/invoke/MethodHandle" ∧ y.cls ≠ "java/lang/invoke/VarHandle")
    {W9 : Nat} {Pre : Pt → Array Value → Prop} {Post : Pt → Array Value → Option Value → Pt → Prop} (hK : Back l R p e below s args y 3 W9 Pre Post)
    {g : JFrame} (hg : g.method = m) (hsize : g.locals.size = c.maxLocals) {argsL rest : List Value} (hlen : ∀ sig, parseMethodDescriptor y.desc = some sig → argsL.length = sig.parameters.length)
    (hstack : g.stack = argsL.reverse ++ rest) (hW : 2 * g.monitorRoom + (rest.map fun v => v.category).sum ≤ W9) (hdg : decode c.code g.pc = .ok (.invokestatic index, 3))
    (hpre : ∀ vm₁, s.WarmedH vm₁ → Pre ⟨T.setVm vm₁, locs, cells, slots⟩ argsL.toArray) :
    ∃ (v : Option Value) (vm₁ : Vm) (B : Pt), s.WarmedH vm₁ ∧ Stand p l e R s m args below meth c B.U B.locs B.cells B.slots ∧ Post ⟨T.setVm vm₁, locs, cells, slots⟩ argsL.toArray v B ∧
      ∀ target, Steps p.tables e below (B.U.setTop { g with pc := g.pc + 3, stack := v.toList ++ rest }) target → Steps p.tables e below (T.setTop g) target := by
  obtain ⟨mk, methM, cM, hnamed, hmethM, -, -, -, -, -, -, hsigM⟩ := Cond.codeWith_spec hcode
  have hstatic : methM.isStatic = true := Cond.static_spec hnamed hmethM hstat
  obtain ⟨kP, hkP, -⟩ := className_of_methodNamed hnamed
  have hinitP : kP.init = .initialized := Cond.initialized_spec (findClass_of_methodNamed hnamed) hkP hinit
  obtain ⟨vm₁, X₁, hstep₁⟩ := X.invokestatic hexec hown hlink hnamed hmethM hstatic hkP hinitP hy (g := g) hg (argsL := argsL) (rest := rest) (hlen _ hsigM) hstack hdg
  obtain ⟨v, B, X', hpost, hsteps⟩ := hK m meth c ⟨T.setVm vm₁, locs, cells, slots⟩ { g with stack := rest } (.invokestatic index) mk argsL.toArray X₁ hg hsize hdg hW (X₁.named hnamed) (hpre vm₁ X₁.warmed)
  exact ⟨v, vm₁, B, X₁.warmed, X', hpost, fun target h => hstep₁ _ fun acts => by rw [doInvoke_state]; exact hsteps.trans h⟩
theorem vx_runSW {y : MethodName} {bytes cc : ByteArray} {maxL nL mc ms n index : Nat} {ret : Option FieldType} {hh : List (Nat × Nat × Nat × Nat)} {ws : List Cond} {rm : Room} {Pc : Array Value → State → Prop} {Qc : Array Value → State → Outcome → State → Prop} {free : Addr → Prop} {Ts : List Cond} {own : String} {As rest : List Value} {g : JFrame}
    (S : CallFix p m c cc nL s args Ts own) (hM : Met l y ws rm Pc Qc mc ms free) (cw : vx_CSW R s args own index y bytes maxL ret hh ws rm mc ms n) (hp : PreS s H Pc As)
    (hg : g.method = m) (hn : As.length = n) (hsize : g.locals.size = nL) (hstack : g.stack = As.reverse ++ rest) (hW : 2 * g.monitorRoom + (rest.map fun v => v.category).sum ≤ 8) (hdg : decode cc g.pc = .ok (.invokestatic index, 3)) (hf : cells + mc ≤ R.cells ∧ slots + ms ≤ R.slots) :
    va_Run p l e R s m args below meth c H locs cells slots mc ms g rest (Qc As.toArray) (free) := by
  obtain ⟨⟨hrc, hrs, hfr, hlo, hws, hcw⟩, hcode, hini, hy, hlen, hl, hstt⟩ := cw
  have hK : Back l R p e below s args y 3 8 (PreOf R mc ms Pc) (PostOf Qc mc ms free) := va_backW (hh := hh) (bytes := bytes) (maxL := maxL) (ret := ret) hM hp.1 hrc hrs hfr hlo hws hcw (fun a' U hW => word_at hW (Or.inl (by first | rfl | simp [Cond.onTables, Cond.keeps, Cond.steady])) hini)
  obtain ⟨hx, hb, hml, ho, -⟩ := S
  intro T hT X
  obtain ⟨v, vm₁, ⟨U', l2, c2, s2⟩, hW₁, X', ⟨g', mk, t, L, e1, e2, hq, h1, hL, h2, h3⟩, st⟩ := vx_callSW X hx (hh := hh) (bytes := bytes) (maxL := maxL) (ret := ret) ho hl hstt hini hcode hy hK hg (hsize.trans hml.symm) (argsL := As) (rest := rest) (fun sig h => hn.trans (hlen sig h)) hstack hW (by rw [hb]; exact hdg)
    (fun vm₁ hW₁ => ⟨hf.1, hf.2, hp.2 (T.setVm vm₁) hT hW₁⟩)
  dsimp only [Pt.U, Pt.locs, Pt.cells, Pt.slots] at X' e1 e2 h1 h2 h3 st
  subst h1; subst h2; subst h3
  exact ⟨v, (T.setVm vm₁).calling g' mk As.toArray, t, U', L, hT, X', hL, e1, e2, hq, st⟩
/-- not caught here, past rows that name other classes: it goes on to the caller -/
theorem vx_outP {p : Program} {l : Launch} {e : Env} {R : Room} {s : State} {m : MethodId} {args : Array Value} {below : List Frame} {meth : Method} {c : Code} {H : Heap} {locs : List Loc} {cells slots : Nat} {free : Addr → Prop} {ls : Array Slot} {rest : List Value} {Qc : Array Value → State → Outcome → State → Prop} {XC : String → State → State → Prop}
    {pc : Nat} {own E : String} {ce : Cell} {q : Addr} {mc ms : Nat} (hown : s.vm.findClass own = some m.cls) (hlocks : meth.locks = false)
    (hpass : ∀ z ∈ c.exceptionTable.toList, covers z pc = false ∨ (z.catchType ≠ 0 ∧ ∃ nm : String, (Cond.classLink own z.catchType nm).before args s = true ∧ va_Nc E nm s)) (hcell : H[q]? = some ce) (hv : ce.vm = .none) (hcl : s.vm.findClass E = some ce.cls)
    (hx : ∀ t : State, t.heap = H → s.vm.Alike t.vm → XC E s t) (hf : ∀ z ∈ locs, free z.base) (hc : cells ≤ mc) (hs : slots ≤ ms) :
    vx_W p l e R s m args below meth c H locs cells slots (vx_MQ below Qc XC args s mc ms free) (F0 m pc ls rest) q := by
  intro T hT X
  have hpl : e.platform.magicAccessors = ({} : Platform).magicAccessors := by rw [X.admits.platform]
  obtain ⟨vm', hW', X', st⟩ := X.outThrough hlocks q (g := F0 m pc ls rest) rfl rfl rfl (cell := ce) (by rw [hT]; exact hcell) (by rw [hv]; rfl)
    (by obtain ⟨k9, h9, -⟩ := Vm.findClass_spec hcl; exact ⟨k9, h9⟩) (fun z hz => by
      rcases hpass z hz with h | ⟨hz0, nm, hl1, hn1⟩
      · exact Or.inl h
      · obtain ⟨c6, hc6, hcl6⟩ := Cond.classLink_spec hown hl1 e.platform hpl
        obtain ⟨a8, b8, h1, h2, h3⟩ := hn1
        cases Option.some.inj (h1.symm.trans hcl)
        cases Option.some.inj (h2.symm.trans hc6)
        exact Or.inr ⟨hz0, _, hcl6, h3⟩)
  obtain ⟨g₀, hfr⟩ := X'.frames_eq
  have hcell9 : ((T.setVm vm').setFrames (.throwing q :: below)).heap[q]? = some ce := by
    show T.heap[q]? = some ce
    rw [hT]; exact hcell
  have hend : Ended ((T.setVm vm').setFrames (.throwing q :: below)) below (.threw q) := State.frames_setFrames _ (State.cur_lt_of_frames hfr)
  refine ⟨(T.setVm vm').setFrames (.throwing q :: below), ?_, .threw q, X'.here.running, hend, Or.inr ⟨q, rfl, E, ce, locs, hx _ hT (X'.ends _).1.alike, hcell9, hv, hcl, (X'.ends _).1, (X'.ends _).2.mono hc hs, hf⟩⟩
  rw [X.pushThrowing_eq]
  exact st
/-- a thing of a world lies in the heap -/
theorem vx_lt {D : va_G} {cl : List vw_C} {ws : va_W} {H1 : Heap} (h : va_P D cl ws H1) {k : Nat} {q : Nat × va_E} (hk : ws[k]? = some q) : q.1 < H1.size := (h k q hk).lt
end VXS
/-! ===== END ===== -/
/-! ===== BEGIN methods with a table of their own: called by a name, returning or throwing ===== -/
section VXH
/-! vx_backW, vx_callVX, vx_callSX, vx_callVW, vx_runVW, vx_runVX, vx_runSX, vx_ofWH follow the same proofs as their sisters above (Free/Laws.lean, Shelf42/LK1.lean); vx_outP calls Shelf42/NT130.lean (outThrough). -/
section
variable {l : Launch} {R : Room} {p : Program} {e : Env} {below : List Frame} {s : State} {sargs : Array Value} {y : MethodName} {len W9 : Nat}
theorem vx_backW {ws : List Cond} {rm : Room} {Pc : Array Value → State → Prop} {Qc : Array Value → State → Outcome → State → Prop} {XC : String → State → State → Prop} {mc ms : Nat} {free : Addr → Prop} {bytes : ByteArray} {maxL : Nat} {ret : Option FieldType} {hh : List (Nat × Nat × Nat × Nat)}
    (hM : vx_Met l y ws rm Pc Qc XC mc ms free) (hblind : FrameBlind Pc) (hrc : rm.cells = mc) (hrs : rm.slots = ms)
    (hframes : rm.frames + 1 ≤ R.frames) (hlocals : W9 + (maxL + 11) + rm.locals ≤ R.locals)
    (hws : ∀ w ∈ ws, ∀ a' U, s.WarmedH U.vm → w.before a' U = true) (hcode : Cond.codeWith y bytes maxL ret hh ∈ ws) (hinit : ∀ a' U, s.WarmedH U.vm → (Cond.initialized y.cls).before a' U = true) :
    vx_Back l R p e below s sargs y len W9 (PreOf R mc ms Pc) (PostOf Qc mc ms free) (vx_Post XC mc ms free) := by
  intro m meth c A g ig mk a X hg hsize hdg hW hn hp
  have h1 : (headSpec ws rm).pre.before a A.U = true := atoms_intro fun w hw => hws w hw _ _ X.warmed
  have h2 : (Cond.codeWith y bytes maxL ret hh).before a A.U = true := hws _ hcode _ _ X.warmed
  have h3 : (Cond.initialized y.cls).before a A.U = true := hinit _ _ X.warmed
  have h4 : A.cells + (headSpec ws rm).room.cells ≤ R.cells := by rw [show (headSpec ws rm).room.cells = mc from hrc]; exact hp.1
  have h5 : A.slots + (headSpec ws rm).room.slots ≤ R.slots := by rw [show (headSpec ws rm).room.slots = ms from hrs]; exact hp.2.1
  have hPc : Pc a (A.U.calling g mk a) := hblind _ _ _ _ hp.2.2
  obtain ⟨U, Ls, c0, s0⟩ := A
  dsimp only [Pt.U, Pt.locs, Pt.cells, Pt.slots] at h1 h2 h3 h4 h5 X hn hPc ⊢
  obtain ⟨m9, methY, cY, hn9, hmY, hcY, -, hlY, -⟩ := Cond.codeWith_spec h2
  cases Option.some.inj (hn9.symm.trans hn)
  obtain ⟨kY, hkY, -⟩ := className_of_methodNamed hn
  have hinitY : kY.init = .initialized := Cond.initialized_spec (findClass_of_methodNamed hn) hkY h3
  have h : At U g.method c below := by rw [hg]; exact X.here
  have hlocals9 : W9 + (maxL + 11) + (headSpec ws rm).room.locals ≤ R.locals := hlocals
  have happ : (headSpec ws rm).appliesLoose y e.platform (U.calling g mk a) = true :=
    Spec.appliesLoose_calling (g := g) h hdg hn hkY hinitY
      (X.room_calling (g := g) (R' := (headSpec ws rm).room) hsize hmY hcY hframes (by rw [hlY]; omega) h4 h5) h1
  obtain ⟨mid, hmid⟩ := h.above
  have hfr : (U.setTop g).frames = (.java g :: mid) ++ below := by rw [State.frames_setTop' g h.top, hmid]; rfl
  obtain ⟨o, s₂, hsteps, -, hend, hq⟩ := Steps.callFree hM p X.admits X.cas X.clock (acts := []) hfr happ hPc trivial
  have hq' : vx_Q Qc XC mc ms free a (U.calling g mk a) o s₂ := hq
  rw [State.frames_setTop' g h.top] at hend
  obtain ⟨g₀, hg0⟩ := Option.isSome_iff_exists.mp h.top
  obtain ⟨r, hr⟩ := State.topJava?_eq_some.mp hg0
  have hr' : (({ U with heap := s₂.heap, slotsUsed := s₂.slotsUsed } : State).setVm s₂.vm).frames = .java g₀ :: r := hr
  rcases hq' with ⟨hqc, L, hfe, hL⟩ | ⟨q, rfl, E, ce, L, hx, hce, hcv, hcl, hW₂, hsm, hL⟩
  · obtain ⟨⟨v, rfl⟩, hW₂, e2, q2, q3, q4, q5, q6⟩ := id hfe
    have e3 : s₂ = ({ (U.calling g mk a).setFrames s₂.frames with heap := s₂.heap, slotsUsed := s₂.slotsUsed } : State).setVm s₂.vm := by
      have : s₂ = ({ s₂ with vm := (U.calling g mk a).vm } : State).setVm s₂.vm := rfl
      rw [e2] at this
      exact this
    obtain ⟨c₂, i₂, len₂, hc₂, hd₂, hf₂⟩ := hend
    have hW' : U.WarmedH s₂.vm := hW₂
    have hcc : c₂ = c := by
      have h1 : s₂.code? g.method = U.code? g.method := by
        rw [State.code?_eq, State.code?_eq, hW'.alike.method?]
      exact Option.some.inj (hc₂.symm.trans (h1.trans h.code))
    subst hcc
    have hlen : len₂ = len := by rw [hdg] at hd₂; cases hd₂; rfl
    subst hlen
    have hs₂ : s₂ = (({ U with heap := s₂.heap, slotsUsed := s₂.slotsUsed } : State).setVm s₂.vm).setTop { g with pc := g.pc + len₂, stack := v.toList ++ g.stack } := by
      refine e3.trans ?_
      rw [hf₂, State.calling_eq h.top, State.setFrames_setFrames, State.setTop_of_frames _ hr', hr]
      rfl
    have hsame : U.sameButNew ({ U with heap := s₂.heap, slotsUsed := s₂.slotsUsed } : State) L mc ms := by
      refine ⟨?_, q2, q3, q4, q5, q6⟩
      obtain ⟨t, ht, -⟩ := State.frames_cons hr
      show ({ U with heap := s₂.heap, slotsUsed := s₂.slotsUsed } : State) = { U.setFrames U.frames with heap := s₂.heap, slotsUsed := s₂.slotsUsed }
      rw [State.setFrames_self ht]
    subst hg
    refine Or.inl ⟨v, ⟨(({ U with heap := s₂.heap, slotsUsed := s₂.slotsUsed } : State).setVm s₂.vm), Ls ++ L, c0 + mc, s0 + ms⟩,
      ⟨X.admits, X.cas, X.clock, X.frames, X.room, X.hears, X.method, X.code, (X.here.setHeapUsed s₂.heap s₂.slotsUsed).setVm hW'.alike, X.tail, State.WarmedH.trans X.warmed hW', X.limits, X.bytes, X.same.trans (hsame.setVm s.vm)⟩,
      ⟨g, mk, s₂, L, rfl, rfl, hqc, rfl, hL, rfl, rfl⟩, ?_⟩
    show Steps p.tables e below _ ((({ U with heap := s₂.heap, slotsUsed := s₂.slotsUsed } : State).setVm s₂.vm).setTop { g with pc := g.pc + len₂, stack := v.toList ++ g.stack })
    rw [← hs₂]
    exact hsteps
  · obtain ⟨e2, q2, q3, q4, q5, q6⟩ := id hsm
    have e3 : s₂ = ({ (U.calling g mk a).setFrames s₂.frames with heap := s₂.heap, slotsUsed := s₂.slotsUsed } : State).setVm s₂.vm := by
      have : s₂ = ({ s₂ with vm := (U.calling g mk a).vm } : State).setVm s₂.vm := rfl
      rw [e2] at this
      exact this
    have hf₂ : s₂.frames = .throwing q :: .java g :: U.frames.tail := hend
    have hW' : U.WarmedH s₂.vm := hW₂
    have hs₂ : s₂ = ((({ U with heap := s₂.heap, slotsUsed := s₂.slotsUsed } : State).setVm s₂.vm).setTop g).pushFrame (.throwing q) := by
      refine e3.trans ?_
      rw [hf₂, State.calling_eq h.top, State.setFrames_setFrames, State.pushFrame, State.frames_setTop _ hr', State.setTop_of_frames _ hr', State.setFrames_setFrames, hr]
      rfl
    have hsame : U.sameButNew ({ U with heap := s₂.heap, slotsUsed := s₂.slotsUsed } : State) L mc ms := by
      refine ⟨?_, q2, q3, q4, q5, q6⟩
      obtain ⟨t, ht, -⟩ := State.frames_cons hr
      show ({ U with heap := s₂.heap, slotsUsed := s₂.slotsUsed } : State) = { U.setFrames U.frames with heap := s₂.heap, slotsUsed := s₂.slotsUsed }
      rw [State.setFrames_self ht]
    subst hg
    refine Or.inr ⟨q, ⟨(({ U with heap := s₂.heap, slotsUsed := s₂.slotsUsed } : State).setVm s₂.vm), Ls ++ L, c0 + mc, s0 + ms⟩,
      ⟨X.admits, X.cas, X.clock, X.frames, X.room, X.hears, X.method, X.code, (X.here.setHeapUsed s₂.heap s₂.slotsUsed).setVm hW'.alike, X.tail, State.WarmedH.trans X.warmed hW', X.limits, X.bytes, X.same.trans (hsame.setVm s.vm)⟩,
      ⟨g, mk, s₂, L, E, ce, rfl, rfl, hx, hce, hcv, hcl, rfl, hL, rfl, rfl⟩, ?_⟩
    show Steps p.tables e below _ (((({ U with heap := s₂.heap, slotsUsed := s₂.slotsUsed } : State).setVm s₂.vm).setTop g).pushFrame (.throwing q))
    rw [← hs₂]
    exact hsteps
end
variable {p : Program} {l : Launch} {e : Env} {R : Room} {s : State} {m : MethodId} {args : Array Value} {below : List Frame} {meth : Method} {c : Code} {T : State} {H : Heap} {locs : List Loc} {cells slots : Nat}
theorem vx_callVX (X : Stand p l e R s m args below meth c T locs cells slots) (hexec : p.tables.exec = Jvm.exec) {own C : String} {index : Nat} {y : MethodName} {bytes : ByteArray} {maxL : Nat} {ret : Option FieldType} {hh : List (Nat × Nat × Nat × Nat)}
    (hown : s.vm.findClass own = some m.cls) (hlink : (Cond.methodLink own index y).before args s = true) (hinst : (Cond.instanceMethod y).before args s = true) (hsel : (Cond.selects C y y).before args s = true)
    (hcode : (Cond.codeWith y bytes maxL ret hh).before args s = true) (hy : y.cls ≠ "java/lang/invoke/MethodHandle" ∧ y.cls ≠ "java/lang/invoke/VarHandle")
    {W9 : Nat} {Pre : Pt → Array Value → Prop} {Post : Pt → Array Value → Option Value → Pt → Prop} {PostX : Pt → Array Value → Addr → Pt → Prop} (hK : vx_Back l R p e below s args y 3 W9 Pre Post PostX)
    {b : Addr} {cellB : Cell} (hcell : T.heap[b]? = some cellB) (hobj : cellB.vm.isStatics = false) (hcls : s.vm.findClass C = some cellB.cls)
    {g : JFrame} (hg : g.method = m) (hsize : g.locals.size = c.maxLocals) {argsL rest : List Value} (hlen : ∀ sig, parseMethodDescriptor y.desc = some sig → argsL.length = sig.parameters.length)
    (hstack : g.stack = argsL.reverse ++ .ref b :: rest) (hW : 2 * g.monitorRoom + (rest.map fun v => v.category).sum ≤ W9) (hdg : decode c.code g.pc = .ok (.invokevirtual index, 3))
    (hpre : ∀ vm₁, s.WarmedH vm₁ → Pre ⟨T.setVm vm₁, locs, cells, slots⟩ (Value.ref b :: argsL).toArray) :
    (∃ (v : Option Value) (vm₁ : Vm) (B : Pt), s.WarmedH vm₁ ∧ Stand p l e R s m args below meth c B.U B.locs B.cells B.slots ∧ Post ⟨T.setVm vm₁, locs, cells, slots⟩ (Value.ref b :: argsL).toArray v B ∧
      ∀ target, Steps p.tables e below (B.U.setTop { g with pc := g.pc + 3, stack := v.toList ++ rest }) target → Steps p.tables e below (T.setTop g) target) ∨
    (∃ (q : Addr) (vm₁ : Vm) (B : Pt), s.WarmedH vm₁ ∧ Stand p l e R s m args below meth c B.U B.locs B.cells B.slots ∧ PostX ⟨T.setVm vm₁, locs, cells, slots⟩ (Value.ref b :: argsL).toArray q B ∧
      Steps p.tables e below (T.setTop g) ((B.U.setTop { g with stack := rest }).pushFrame (.throwing q))) := by
  obtain ⟨mk, methM, hnamed, hmethM, hstM, habM⟩ := Cond.instanceMethod_spec hinst
  obtain ⟨m8, methM', cM, hn8, hmethM', -, -, -, -, -, -, hsigM⟩ := Cond.codeWith_spec hcode
  cases Option.some.inj (hn8.symm.trans hnamed)
  cases hmethM.symm.trans hmethM'
  obtain ⟨c2, r2, m2, q1, q2, q3, q4, kP, hkP, hkPi⟩ := Cond.selects_spec hsel
  cases hcls.symm.trans q1
  cases (State.methodFound?_of_named hnamed hy).symm.trans q2
  cases hnamed.symm.trans q3
  have hselP : selectMethod e.platform s.vm cellB.cls mk = .method mk := by rw [Launch.admits_selectMethod X.admits]; exact q4
  obtain ⟨vm₁, X₁, hstep₁⟩ := X.invokevirtual hexec hown hlink hnamed hmethM hstM hkP hkPi hy (a := b) (cell := cellB) hcell
    (fun z h => by rw [h] at hobj; cases hobj) hselP hmethM habM hkP hkPi (g := g) hg (argsL := argsL) (rest := rest) (hlen _ hsigM) hstack hdg
  rcases hK m meth c ⟨T.setVm vm₁, locs, cells, slots⟩ { g with stack := rest } (.invokevirtual index) mk (Value.ref b :: argsL).toArray X₁ hg hsize hdg hW (X₁.named hnamed) (hpre vm₁ X₁.warmed) with ⟨v, B, X', hpost, hsteps⟩ | ⟨q, B, X', hpost, hsteps⟩
  · exact Or.inl ⟨v, vm₁, B, X₁.warmed, X', hpost, fun target h => hstep₁ _ fun acts => by rw [doInvoke_state]; exact hsteps.trans h⟩
  · exact Or.inr ⟨q, vm₁, B, X₁.warmed, X', hpost, hstep₁ _ fun acts => by rw [doInvoke_state]; exact hsteps⟩
theorem vx_callSX (X : Stand p l e R s m args below meth c T locs cells slots) (hexec : p.tables.exec = Jvm.exec) {own : String} {index : Nat} {y : MethodName} {bytes : ByteArray} {maxL : Nat} {ret : Option FieldType} {hh : List (Nat × Nat × Nat × Nat)}
    (hown : s.vm.findClass own = some m.cls) (hlink : (Cond.methodLink own index y).before args s = true) (hstat : (Cond.static y).before args s = true) (hinit : (Cond.initialized y.cls).before args s = true)
    (hcode : (Cond.codeWith y bytes maxL ret hh).before args s = true) (hy : y.cls ≠ "java/lang/invoke/MethodHandle" ∧ y.cls ≠ "java/lang/invoke/VarHandle")
    {W9 : Nat} {Pre : Pt → Array Value → Prop} {Post : Pt → Array Value → Option Value → Pt → Prop} {PostX : Pt → Array Value → Addr → Pt → Prop} (hK : vx_Back l R p e below s args y 3 W9 Pre Post PostX)
    {g : JFrame} (hg : g.method = m) (hsize : g.locals.size = c.maxLocals) {argsL rest : List Value} (hlen : ∀ sig, parseMethodDescriptor y.desc = some sig → argsL.length = sig.parameters.length)
    (hstack : g.stack = argsL.reverse ++ rest) (hW : 2 * g.monitorRoom + (rest.map fun v => v.category).sum ≤ W9) (hdg : decode c.code g.pc = .ok (.invokestatic index, 3))
    (hpre : ∀ vm₁, s.WarmedH vm₁ → Pre ⟨T.setVm vm₁, locs, cells, slots⟩ argsL.toArray) :
    (∃ (v : Option Value) (vm₁ : Vm) (B : Pt), s.WarmedH vm₁ ∧ Stand p l e R s m args below meth c B.U B.locs B.cells B.slots ∧ Post ⟨T.setVm vm₁, locs, cells, slots⟩ argsL.toArray v B ∧
      ∀ target, Steps p.tables e below (B.U.setTop { g with pc := g.pc + 3, stack := v.toList ++ rest }) target → Steps p.tables e below (T.setTop g) target) ∨
    (∃ (q : Addr) (vm₁ : Vm) (B : Pt), s.WarmedH vm₁ ∧ Stand p l e R s m args below meth c B.U B.locs B.cells B.slots ∧ PostX ⟨T.setVm vm₁, locs, cells, slots⟩ argsL.toArray q B ∧
      Steps p.tables e below (T.setTop g) ((B.U.setTop { g with stack := rest }).pushFrame (.throwing q))) := by
  obtain ⟨mk, methM, cM, hnamed, hmethM, -, -, -, -, -, -, hsigM⟩ := Cond.codeWith_spec hcode
  have hstatic : methM.isStatic = true := Cond.static_spec hnamed hmethM hstat
  obtain ⟨kP, hkP, -⟩ := className_of_methodNamed hnamed
  have hinitP : kP.init = .initialized := Cond.initialized_spec (findClass_of_methodNamed hnamed) hkP hinit
  obtain ⟨vm₁, X₁, hstep₁⟩ := X.invokestatic hexec hown hlink hnamed hmethM hstatic hkP hinitP hy (g := g) hg (argsL := argsL) (rest := rest) (hlen _ hsigM) hstack hdg
  rcases hK m meth c ⟨T.setVm vm₁, locs, cells, slots⟩ { g with stack := rest } (.invokestatic index) mk argsL.toArray X₁ hg hsize hdg hW (X₁.named hnamed) (hpre vm₁ X₁.warmed) with ⟨v, B, X', hpost, hsteps⟩ | ⟨q, B, X', hpost, hsteps⟩
  · exact Or.inl ⟨v, vm₁, B, X₁.warmed, X', hpost, fun target h => hstep₁ _ fun acts => by rw [doInvoke_state]; exact hsteps.trans h⟩
  · exact Or.inr ⟨q, vm₁, B, X₁.warmed, X', hpost, hstep₁ _ fun acts => by rw [doInvoke_state]; exact hsteps⟩
theorem vx_callVW (X : Stand p l e R s m args below meth c T locs cells slots) (hexec : p.tables.exec = Jvm.exec) {own C : String} {index : Nat} {y : MethodName} {bytes : ByteArray} {maxL : Nat} {ret : Option FieldType} {hh : List (Nat × Nat × Nat × Nat)}
    (hown : s.vm.findClass own = some m.cls) (hlink : (Cond.methodLink own index y).before args s = true) (hinst : (Cond.instanceMethod y).before args s = true) (hsel : (Cond.selects C y y).before args s = true)
    (hcode : (Cond.codeWith y bytes maxL ret hh).before args s = true) (hy : y.cls ≠ "java/lang/invoke/MethodHandle" ∧ y.cls ≠ "java/lang/invoke/VarHandle")
    {W9 : Nat} {Pre : Pt → Array Value → Prop} {Post : Pt → Array Value → Option Value → Pt → Prop} (hK : Back l R p e below s args y 3 W9 Pre Post)
    {b : Addr} {cellB : Cell} (hcell : T.heap[b]? = some cellB) (hobj : cellB.vm.isStatics = false) (hcls : s.vm.findClass C = some cellB.cls)
    {g : JFrame} (hg : g.method = m) (hsize : g.locals.size = c.maxLocals) {argsL rest : List Value} (hlen : ∀ sig, parseMethodDescriptor y.desc = some sig → argsL.length = sig.parameters.length)
    (hstack : g.stack = argsL.reverse ++ .ref b :: rest) (hW : 2 * g.monitorRoom + (rest.map fun v => v.category).sum ≤ W9) (hdg : decode c.code g.pc = .ok (.invokevirtual index, 3))
    (hpre : ∀ vm₁, s.WarmedH vm₁ → Pre ⟨T.setVm vm₁, locs, cells, slots⟩ (Value.ref b :: argsL).toArray) :
    ∃ (v : Option Value) (vm₁ : Vm) (B : Pt), s.WarmedH vm₁ ∧ Stand p l e R s m args below meth c B.U B.locs B.cells B.slots ∧ Post ⟨T.setVm vm₁, locs, cells, slots⟩ (Value.ref b :: argsL).toArray v B ∧
      ∀ target, Steps p.tables e below (B.U.setTop { g with pc := g.pc + 3, stack := v.toList ++ rest }) target → Steps p.tables e below (T.setTop g) target := by
  obtain ⟨mk, methM, hnamed, hmethM, hstM, habM⟩ := Cond.instanceMethod_spec hinst
  obtain ⟨m8, methM', cM, hn8, hmethM', -, -, -, -, -, -, hsigM⟩ := Cond.codeWith_spec hcode
  cases Option.some.inj (hn8.symm.trans hnamed)
  cases hmethM.symm.trans hmethM'
  obtain ⟨c2, r2, m2, q1, q2, q3, q4, kP, hkP, hkPi⟩ := Cond.selects_spec hsel
  cases hcls.symm.trans q1
  cases (State.methodFound?_of_named hnamed hy).symm.trans q2
  cases hnamed.symm.trans q3
  have hselP : selectMethod e.platform s.vm cellB.cls mk = .method mk := by rw [Launch.admits_selectMethod X.admits]; exact q4
  obtain ⟨vm₁, X₁, hstep₁⟩ := X.invokevirtual hexec hown hlink hnamed hmethM hstM hkP hkPi hy (a := b) (cell := cellB) hcell
    (fun z h => by rw [h] at hobj; cases hobj) hselP hmethM habM hkP hkPi (g := g) hg (argsL := argsL) (rest := rest) (hlen _ hsigM) hstack hdg
  obtain ⟨v, B, X', hpost, hsteps⟩ := hK m meth c ⟨T.setVm vm₁, locs, cells, slots⟩ { g with stack := rest } (.invokevirtual index) mk (Value.ref b :: argsL).toArray X₁ hg hsize hdg hW (X₁.named hnamed) (hpre vm₁ X₁.warmed)
  exact ⟨v, vm₁, B, X₁.warmed, X', hpost, fun target h => hstep₁ _ fun acts => by rw [doInvoke_state]; exact hsteps.trans h⟩
abbrev vx_CVW (R : Room) (s : State) (args : Array Value) (own C : String) (index : Nat) (y : MethodName) (bytes : ByteArray) (maxL : Nat) (ret : Option FieldType) (hh : List (Nat × Nat × Nat × Nat)) (ws : List Cond) (rm : Room) (mc ms n : Nat) : Prop :=
  (rm.cells = mc ∧ rm.slots = ms ∧ rm.frames + 1 ≤ R.frames ∧ 8 + (maxL + 11) + rm.locals ≤ R.locals ∧ (∀ w ∈ ws, ∀ (a' : Array Value) (U : State), s.WarmedH U.vm → w.before a' U = true) ∧ Cond.codeWith y bytes maxL ret hh ∈ ws) ∧
  (Cond.codeWith y bytes maxL ret hh).before args s = true ∧ (Cond.initialized y.cls).before args s = true ∧ (y.cls ≠ "java/lang/invoke/MethodHandle" ∧ y.cls ≠ "java/lang/invoke/VarHandle") ∧
  (∀ sig, parseMethodDescriptor y.desc = some sig → n = sig.parameters.length) ∧ (Cond.methodLink own index y).before args s = true ∧ (Cond.instanceMethod y).before args s = true ∧ (Cond.selects C y y).before args s = true
theorem vx_cwVW {own C : String} {index maxL mc ms : Nat} {y : MethodName} {bytes : ByteArray} {ret : Option FieldType} {hh : List (Nat × Nat × Nat × Nat)} {Ts ws ws' : List Cond} {rm : Room} (n : Nat) (ht : ∀ w ∈ Ts, w.before args s = true) (hT : GoodIn Ts (wsV own index C y ws)) (hw : ws = Cond.codeWith y bytes maxL ret hh :: ws') (hrc : rm.cells = mc) (hrs : rm.slots = ms)
    (hd : y.cls = C ∧ y.cls ≠ "java/lang/invoke/MethodHandle" ∧ y.cls ≠ "java/lang/invoke/VarHandle" ∧ (parseMethodDescriptor y.desc).map (fun d => d.parameters.length) = some n) (hR : rm.frames + 1 ≤ R.frames ∧ 8 + (maxL + 11) + rm.locals ≤ R.locals) :
    vx_CVW R s args own C index y bytes maxL ret hh ws rm mc ms n := by
  obtain ⟨hC, hd⟩ := hd
  subst hC
  have ok : ∀ w ∈ wsV own index y.cls y ws, w.before args s = true := fun w h => ht w (hT w h).1
  have hG : GoodIn Ts ws := fun w h => hT w (by unfold wsV; exact List.mem_append_right _ h)
  have hc : Cond.codeWith y bytes maxL ret hh ∈ ws := by rw [hw]; exact List.mem_cons_self
  refine ⟨⟨hrc, hrs, hR.1, hR.2, pay_in ht hG, hc⟩, ht _ (hG _ hc).1, ok _ (by simp [wsV]), ⟨hd.1, hd.2.1⟩, fun sig h => ?_, ok _ (by simp [wsV]), ok _ (by simp [wsV]), ok _ (by simp [wsV])⟩
  have h2 := hd.2.2
  rw [h] at h2
  exact (Option.some.inj h2).symm
theorem vx_runVW {y : MethodName} {bytes cc : ByteArray} {maxL nL mc ms n index : Nat} {ret : Option FieldType} {hh : List (Nat × Nat × Nat × Nat)} {ws : List Cond} {rm : Room} {Pc : Array Value → State → Prop} {Qc : Array Value → State → Outcome → State → Prop} {free : Addr → Prop} {Ts : List Cond} {own C : String} {b : Addr} {As rest : List Value} {g : JFrame}
    (S : CallFix p m c cc nL s args Ts own) (hM : Met l y ws rm Pc Qc mc ms free) (cw : vx_CVW R s args own C index y bytes maxL ret hh ws rm mc ms n) (hp : PreV s H C b Pc As)
    (hg : g.method = m) (hn : As.length = n) (hsize : g.locals.size = nL) (hstack : g.stack = As.reverse ++ .ref b :: rest) (hW : 2 * g.monitorRoom + (rest.map fun v => v.category).sum ≤ 8) (hdg : decode cc g.pc = .ok (.invokevirtual index, 3)) (hf : cells + mc ≤ R.cells ∧ slots + ms ≤ R.slots) :
    va_Run p l e R s m args below meth c H locs cells slots mc ms g rest (Qc (Value.ref b :: As).toArray) free := by
  obtain ⟨⟨hrc, hrs, hfr, hlo, hws, hcw⟩, hcode, hini, hy, hlen, hl, hin, hse⟩ := cw
  have hK : Back l R p e below s args y 3 8 (PreOf R mc ms Pc) (PostOf Qc mc ms free) := va_backW (hh := hh) (bytes := bytes) (maxL := maxL) (ret := ret) hM hp.1 hrc hrs hfr hlo hws hcw (fun a' U hW => word_at hW (Or.inl (by first | rfl | simp [Cond.onTables, Cond.keeps, Cond.steady])) hini)
  obtain ⟨hx, hb, hml, ho, -⟩ := S
  obtain ⟨-, ⟨cellB, hcB, hoB, hclB⟩, hPc⟩ := hp
  intro T hT X
  obtain ⟨v, vm₁, ⟨U', l2, c2, s2⟩, hW₁, X', ⟨g', mk, t, L, e1, e2, hq, h1, hL, h2, h3⟩, st⟩ := vx_callVW X hx (C := C) (hh := hh) (bytes := bytes) (maxL := maxL) (ret := ret) ho hl hin hse hcode hy hK (by rw [hT]; exact hcB) hoB hclB hg (hsize.trans hml.symm) (argsL := As) (rest := rest) (fun sig h => hn.trans (hlen sig h)) hstack hW (by rw [hb]; exact hdg)
    (fun vm₁ hW₁ => ⟨hf.1, hf.2, hPc (T.setVm vm₁) hT hW₁⟩)
  dsimp only [Pt.U, Pt.locs, Pt.cells, Pt.slots] at X' e1 e2 h1 h2 h3 st
  subst h1; subst h2; subst h3
  exact ⟨v, (T.setVm vm₁).calling g' mk (Value.ref b :: As).toArray, t, U', L, hT, X', hL, e1, e2, hq, st⟩
section
variable {y : MethodName} {bytes cc : ByteArray} {maxL nL mc ms n index : Nat} {ret : Option FieldType} {ws : List Cond} {rm : Room} {Pc : Array Value → State → Prop} {Qc : Array Value → State → Outcome → State → Prop} {XC : String → State → State → Prop} {free : Addr → Prop} {Ts : List Cond} {own C : String} {b : Addr} {As rest : List Value} {g : JFrame}
theorem vx_runVX {hh : List (Nat × Nat × Nat × Nat)} (S : CallFix p m c cc nL s args Ts own) (hM : vx_Met l y ws rm Pc Qc XC mc ms free) (cw : vx_CVW R s args own C index y bytes maxL ret hh ws rm mc ms n) (hp : PreV s H C b Pc As)
    (hg : g.method = m) (hn : As.length = n) (hsize : g.locals.size = nL) (hstack : g.stack = As.reverse ++ .ref b :: rest) (hW : 2 * g.monitorRoom + (rest.map fun v => v.category).sum ≤ 8) (hdg : decode cc g.pc = .ok (.invokevirtual index, 3)) (hf : cells + mc ≤ R.cells ∧ slots + ms ≤ R.slots) :
    vx_Run p l e R s m args below meth c H locs cells slots mc ms g rest (Qc (Value.ref b :: As).toArray) XC free := by
  obtain ⟨⟨hrc, hrs, hfr, hlo, hws, hcw⟩, hcode, hini, hy, hlen, hl, hin, hse⟩ := cw
  have hK : vx_Back l R p e below s args y 3 8 (PreOf R mc ms Pc) (PostOf Qc mc ms free) (vx_Post XC mc ms free) := vx_backW (hh := hh) (bytes := bytes) (maxL := maxL) (ret := ret) hM hp.1 hrc hrs hfr hlo hws hcw (fun a' U hW => word_at hW (Or.inl (by first | rfl | simp [Cond.onTables, Cond.keeps, Cond.steady])) hini)
  obtain ⟨hx, hb, hml, ho, -⟩ := S
  obtain ⟨-, ⟨cellB, hcB, hoB, hclB⟩, hPc⟩ := hp
  intro T hT X
  rcases vx_callVX X hx (C := C) (hh := hh) (bytes := bytes) (maxL := maxL) (ret := ret) ho hl hin hse hcode hy hK (by rw [hT]; exact hcB) hoB hclB hg (hsize.trans hml.symm) (argsL := As) (rest := rest) (fun sig h => hn.trans (hlen sig h)) hstack hW (by rw [hb]; exact hdg)
    (fun vm₁ hW₁ => ⟨hf.1, hf.2, hPc (T.setVm vm₁) hT hW₁⟩) with ⟨v, vm₁, ⟨U', l2, c2, s2⟩, hW₁, X', ⟨g', mk, t, L, e1, e2, hq, h1, hL, h2, h3⟩, st⟩ | ⟨q, vm₁, ⟨U', l2, c2, s2⟩, hW₁, X', ⟨g', mk, t, L, E, ce, e1, e2, hq, hce, hcv, hcl, h1, hL, h2, h3⟩, st⟩
  · dsimp only [Pt.U, Pt.locs, Pt.cells, Pt.slots] at X' e1 e2 h1 h2 h3 st
    subst h1; subst h2; subst h3
    exact Or.inl ⟨v, (T.setVm vm₁).calling g' mk (Value.ref b :: As).toArray, t, U', L, hT, X', hL, e1, e2, hq, st⟩
  · dsimp only [Pt.U, Pt.locs, Pt.cells, Pt.slots] at X' e1 e2 h1 h2 h3 st hcl
    subst h1; subst h2; subst h3
    exact Or.inr ⟨q, (T.setVm vm₁).calling g' mk (Value.ref b :: As).toArray, t, U', L, E, ce, hT, X', hL, e1, e2, hq, hce, hcv, vx_cls hW₁ hcl, st⟩
theorem vx_runSX {hh : List (Nat × Nat × Nat × Nat)} (S : CallFix p m c cc nL s args Ts own) (hM : vx_Met l y ws rm Pc Qc XC mc ms free) (cw : vx_CSW R s args own index y bytes maxL ret hh ws rm mc ms n) (hp : PreS s H Pc As)
    (hg : g.method = m) (hn : As.length = n) (hsize : g.locals.size = nL) (hstack : g.stack = As.reverse ++ rest) (hW : 2 * g.monitorRoom + (rest.map fun v => v.category).sum ≤ 8) (hdg : decode cc g.pc = .ok (.invokestatic index, 3)) (hf : cells + mc ≤ R.cells ∧ slots + ms ≤ R.slots) :
    vx_Run p l e R s m args below meth c H locs cells slots mc ms g rest (Qc As.toArray) XC free := by
  obtain ⟨⟨hrc, hrs, hfr, hlo, hws, hcw⟩, hcode, hini, hy, hlen, hl, hstt⟩ := cw
  have hK : vx_Back l R p e below s args y 3 8 (PreOf R mc ms Pc) (PostOf Qc mc ms free) (vx_Post XC mc ms free) := vx_backW (hh := hh) (bytes := bytes) (maxL := maxL) (ret := ret) hM hp.1 hrc hrs hfr hlo hws hcw (fun a' U hW => word_at hW (Or.inl (by first | rfl | simp [Cond.onTables, Cond.keeps, Cond.steady])) hini)
  obtain ⟨hx, hb, hml, ho, -⟩ := S
  intro T hT X
  rcases vx_callSX X hx (hh := hh) (bytes := bytes) (maxL := maxL) (ret := ret) ho hl hstt hini hcode hy hK hg (hsize.trans hml.symm) (argsL := As) (rest := rest) (fun sig h => hn.trans (hlen sig h)) hstack hW (by rw [hb]; exact hdg)
    (fun vm₁ hW₁ => ⟨hf.1, hf.2, hp.2 (T.setVm vm₁) hT hW₁⟩) with ⟨v, vm₁, ⟨U', l2, c2, s2⟩, hW₁, X', ⟨g', mk, t, L, e1, e2, hq, h1, hL, h2, h3⟩, st⟩ | ⟨q, vm₁, ⟨U', l2, c2, s2⟩, hW₁, X', ⟨g', mk, t, L, E, ce, e1, e2, hq, hce, hcv, hcl, h1, hL, h2, h3⟩, st⟩
  · dsimp only [Pt.U, Pt.locs, Pt.cells, Pt.slots] at X' e1 e2 h1 h2 h3 st
    subst h1; subst h2; subst h3
    exact Or.inl ⟨v, (T.setVm vm₁).calling g' mk As.toArray, t, U', L, hT, X', hL, e1, e2, hq, st⟩
  · dsimp only [Pt.U, Pt.locs, Pt.cells, Pt.slots] at X' e1 e2 h1 h2 h3 st hcl
    subst h1; subst h2; subst h3
    exact Or.inr ⟨q, (T.setVm vm₁).calling g' mk As.toArray, t, U', L, E, ce, hT, X', hL, e1, e2, hq, hce, hcv, vx_cls hW₁ hcl, st⟩
end
end VXH
theorem vx_ofWH {l : Launch} {y : MethodName} {ws ws' : List Cond} {rm : Room} {Pc : Array Value → State → Prop} {Qc : Array Value → State → Outcome → State → Prop} {XC : String → State → State → Prop} {mc ms : Nat} {free : Addr → Prop} {cc : ByteArray} {maxL : Nat} {ret : Option FieldType} {hh : List (Nat × Nat × Nat × Nat)}
    (hy : plainName y.cls = true) (hw : ws = Cond.codeWith y cc maxL ret hh :: ws')
    (body : ∀ p e s m args below meth c s₁, BodyLoose p l y (headSpec ws rm) cc maxL ret e s m args below meth c s₁ → c.maxLocals = maxL → Pc args s →
      W p l e (headSpec ws rm).room s m args below meth c s.heap [] 0 0 (vx_MQ below Qc XC args s mc ms free) (entryFrame m args maxL)) : vx_Met l y ws rm Pc Qc XC mc ms free := by
  refine MetFree.of_bodyS (code := cc) (maxLocals := maxL) (ret := ret) hy ?_ ?_
  · intro args s m h hn
    obtain ⟨m9, meth, c, hn9, h1, h2, h3, h4, -, h5, h6, -⟩ := Cond.codeWith_spec (atoms_spec (ws := ws) h _ (by rw [hw]; exact List.mem_cons_self))
    cases hn.symm.trans hn9
    exact ⟨meth, c, h1, h2, h3, h4, h5, h6⟩
  · intro p e s m args below meth c s₁ B hml hP _
    have hh0 : s₁.heap = s.heap := by rw [B.state]; rfl
    obtain ⟨t, a1, o, b1, b2, b3⟩ := body p e s m args below meth c s₁ B hml hP s₁ hh0 (Stand.of_body B)
    exact ⟨t, o, a1, b1, b2, b3⟩
/-! ===== END ===== -/
end
section
/-! ===== BEGIN printed: names, fields, word lists, decode rows ===== -/
def RX0 : String := "Grainledger$Contract"
def TX0 : u_T := fun k => match k with
  | 0 => ("Grainledger$Contract", "number", "I", true)
  | 1 => ("Grainledger$Contract", "seller", "I", true)
  | 2 => ("Grainledger$Contract", "buyer", "I", true)
  | 3 => ("Grainledger$Contract", "grain", "I", true)
  | 4 => ("Grainledger$Contract", "grade", "I", true)
  | 5 => ("Grainledger$Contract", "kilograms", "I", false)
  | 6 => ("Grainledger$Contract", "day", "I", false)
  | 7 => ("Grainledger$Contract", "price", "I", false)
  | 8 => ("Grainledger$Contract", "settled", "Z", false)
  | 9 => ("Grainledger$Contract", "handedOver", "I", false)
  | _ => ("Grainledger$Contract", "missing", "I", false)
def tyX0 : Nat → FieldType := fun k => match k with
  | 0 => .int
  | 1 => .int
  | 2 => .int
  | 3 => .int
  | 4 => .int
  | 5 => .int
  | 6 => .int
  | 7 => .int
  | 8 => .boolean
  | 9 => .int
  | _ => .int
abbrev wsX00 : List Cond := u_ws RX0 TX0 11
theorem nmX0 : ∀ a, a < 11 → ∀ b, b < 11 → a ≠ b → (TX0 a).2.1 ≠ (TX0 b).2.1 := by decide +kernel
theorem tyX0_ok : ∀ k, k < 11 → parseFieldDescriptor (TX0 k).2.2.1 = some (tyX0 k) := by decide +kernel
abbrev cX0_init : ByteArray := prog_2_method_1_code
def yX0_init : MethodName := ⟨RX0, "<init>", "(IIIII)V"⟩
def RX1 : String := "Grainledger$Delivery"
def TX1 : u_T := fun k => match k with
  | 0 => ("Grainledger$Delivery", "number", "I", true)
  | 1 => ("Grainledger$Delivery", "holder", "I", true)
  | 2 => ("Grainledger$Delivery", "grain", "I", true)
  | 3 => ("Grainledger$Delivery", "grade", "I", true)
  | 4 => ("Grainledger$Delivery", "silo", "LGrainledger$Silo;", true)
  | 5 => ("Grainledger$Delivery", "weight", "I", false)
  | _ => ("Grainledger$Delivery", "dry", "I", false)
def tyX1 : Nat → FieldType := fun k => match k with
  | 0 => .int
  | 1 => .int
  | 2 => .int
  | 3 => .int
  | 4 => .object "Grainledger$Silo"
  | 5 => .int
  | _ => .int
abbrev wsX10 : List Cond := u_ws RX1 TX1 7
theorem nmX1 : ∀ a, a < 7 → ∀ b, b < 7 → a ≠ b → (TX1 a).2.1 ≠ (TX1 b).2.1 := by decide +kernel
theorem tyX1_ok : ∀ k, k < 7 → parseFieldDescriptor (TX1 k).2.2.1 = some (tyX1 k) := by decide +kernel
abbrev cX1_init : ByteArray := prog_3_method_1_code
def yX1_init : MethodName := ⟨RX1, "<init>", "(IIIILGrainledger$Silo;)V"⟩
def RX2 : String := "Grainledger$Receipt"
def TX2 : u_T := fun k => match k with
  | 0 => ("Grainledger$Receipt", "number", "I", true)
  | 1 => ("Grainledger$Receipt", "delivery", "LGrainledger$Delivery;", true)
  | 2 => ("Grainledger$Receipt", "latest", "LGrainledger$Tenure;", false)
  | 3 => ("Grainledger$Receipt", "kilograms", "I", false)
  | 4 => ("Grainledger$Receipt", "pledgee", "I", false)
  | 5 => ("Grainledger$Receipt", "sum", "I", false)
  | 6 => ("Grainledger$Receipt", "lastDay", "I", false)
  | 7 => ("Grainledger$Receipt", "contract", "LGrainledger$Contract;", false)
  | _ => ("Grainledger$Receipt", "remainder", "I", false)
def tyX2 : Nat → FieldType := fun k => match k with
  | 0 => .int
  | 1 => .object "Grainledger$Delivery"
  | 2 => .object "Grainledger$Tenure"
  | 3 => .int
  | 4 => .int
  | 5 => .int
  | 6 => .int
  | 7 => .object "Grainledger$Contract"
  | _ => .int
abbrev wsX20 : List Cond := u_ws RX2 TX2 9
theorem nmX2 : ∀ a, a < 9 → ∀ b, b < 9 → a ≠ b → (TX2 a).2.1 ≠ (TX2 b).2.1 := by decide +kernel
theorem tyX2_ok : ∀ k, k < 9 → parseFieldDescriptor (TX2 k).2.2.1 = some (tyX2 k) := by decide +kernel
abbrev cX2_init : ByteArray := prog_4_method_1_code
def yX2_init : MethodName := ⟨RX2, "<init>", "(ILGrainledger$Delivery;LGrainledger$Tenure;)V"⟩
abbrev cX2_holder : ByteArray := prog_4_method_2_code
def yX2_holder : MethodName := ⟨RX2, "holder", "()I"⟩
abbrev cX2_isLive : ByteArray := prog_4_method_3_code
def yX2_isLive : MethodName := ⟨RX2, "isLive", "()Z"⟩
abbrev cX2_isLiveIn : ByteArray := prog_4_method_4_code
def yX2_isLiveIn : MethodName := ⟨RX2, "isLiveIn", "(LGrainledger$Silo;)Z"⟩
abbrev cX2_isLiveOf : ByteArray := prog_4_method_5_code
def yX2_isLiveOf : MethodName := ⟨RX2, "isLiveOf", "(III)Z"⟩
abbrev cX2_isPledged : ByteArray := prog_4_method_6_code
def yX2_isPledged : MethodName := ⟨RX2, "isPledged", "()Z"⟩
abbrev cX2_endPledge : ByteArray := prog_4_method_7_code
def yX2_endPledge : MethodName := ⟨RX2, "endPledge", "()V"⟩
def RX3 : String := "Grainledger$Silo"
def TX3 : u_T := fun k => match k with
  | 0 => ("Grainledger$Silo", "number", "I", true)
  | 1 => ("Grainledger$Silo", "room", "I", true)
  | 2 => ("Grainledger$Silo", "grain", "I", false)
  | 3 => ("Grainledger$Silo", "grade", "I", false)
  | 4 => ("Grainledger$Silo", "content", "I", false)
  | _ => ("Grainledger$Silo", "lost", "I", false)
def tyX3 : Nat → FieldType := fun k => match k with
  | 0 => .int
  | 1 => .int
  | 2 => .int
  | 3 => .int
  | 4 => .int
  | _ => .int
abbrev wsX30 : List Cond := u_ws RX3 TX3 6
theorem nmX3 : ∀ a, a < 6 → ∀ b, b < 6 → a ≠ b → (TX3 a).2.1 ≠ (TX3 b).2.1 := by decide +kernel
theorem tyX3_ok : ∀ k, k < 6 → parseFieldDescriptor (TX3 k).2.2.1 = some (tyX3 k) := by decide +kernel
abbrev cX3_init : ByteArray := prog_5_method_1_code
def yX3_init : MethodName := ⟨RX3, "<init>", "(II)V"⟩
abbrev cX3_isEmpty : ByteArray := prog_5_method_2_code
def yX3_isEmpty : MethodName := ⟨RX3, "isEmpty", "()Z"⟩
abbrev cX3_isOf : ByteArray := prog_5_method_3_code
def yX3_isOf : MethodName := ⟨RX3, "isOf", "(II)Z"⟩
abbrev cX3_hasRoomFor : ByteArray := prog_5_method_4_code
def yX3_hasRoomFor : MethodName := ⟨RX3, "hasRoomFor", "(I)Z"⟩
def RX4 : String := "Grainledger$Tenure"
def TX4 : u_T := fun k => match k with
  | 0 => ("Grainledger$Tenure", "firstDay", "I", true)
  | 1 => ("Grainledger$Tenure", "before", "LGrainledger$Tenure;", true)
  | _ => ("Grainledger$Tenure", "holder", "I", false)
def tyX4 : Nat → FieldType := fun k => match k with
  | 0 => .int
  | 1 => .object "Grainledger$Tenure"
  | _ => .int
abbrev wsX40 : List Cond := u_ws RX4 TX4 3
theorem nmX4 : ∀ a, a < 3 → ∀ b, b < 3 → a ≠ b → (TX4 a).2.1 ≠ (TX4 b).2.1 := by decide +kernel
theorem tyX4_ok : ∀ k, k < 3 → parseFieldDescriptor (TX4 k).2.2.1 = some (tyX4 k) := by decide +kernel
abbrev cX4_init : ByteArray := prog_6_method_1_code
def yX4_init : MethodName := ⟨RX4, "<init>", "(IILGrainledger$Tenure;)V"⟩
def RX5 : String := "Grainledger"
def TX5 : u_T := fun k => match k with
  | 0 => ("Grainledger", "allSilos", "Ljava/util/ArrayList;", true)
  | 1 => ("Grainledger", "allDeliveries", "Ljava/util/ArrayList;", true)
  | 2 => ("Grainledger", "allReceipts", "Ljava/util/ArrayList;", true)
  | 3 => ("Grainledger", "allContracts", "Ljava/util/ArrayList;", true)
  | 4 => ("Grainledger", "accounts", "[J", true)
  | 5 => ("Grainledger", "owed", "[I", true)
  | 6 => ("Grainledger", "shrinkageRate", "I", false)
  | 7 => ("Grainledger", "fairPrice", "I", false)
  | 8 => ("Grainledger", "penaltyPrice", "I", false)
  | 9 => ("Grainledger", "today", "I", false)
  | _ => ("Grainledger", "tenures", "I", false)
def tyX5 : Nat → FieldType := fun k => match k with
  | 0 => .object "java/util/ArrayList"
  | 1 => .object "java/util/ArrayList"
  | 2 => .object "java/util/ArrayList"
  | 3 => .object "java/util/ArrayList"
  | 4 => .array .long
  | 5 => .array .int
  | 6 => .int
  | 7 => .int
  | 8 => .int
  | 9 => .int
  | _ => .int
abbrev wsX50 : List Cond := u_ws RX5 TX5 11
theorem nmX5 : ∀ a, a < 11 → ∀ b, b < 11 → a ≠ b → (TX5 a).2.1 ≠ (TX5 b).2.1 := by decide +kernel
theorem tyX5_ok : ∀ k, k < 11 → parseFieldDescriptor (TX5 k).2.2.1 = some (tyX5 k) := by decide +kernel
abbrev cX5_init : ByteArray := prog_1_method_1_code
def yX5_init : MethodName := ⟨RX5, "<init>", "()V"⟩
abbrev cX5_silo : ByteArray := prog_1_method_2_code
def yX5_silo : MethodName := ⟨RX5, "silo", "(I)I"⟩
abbrev cX5_terms : ByteArray := prog_1_method_3_code
def yX5_terms : MethodName := ⟨RX5, "terms", "(III)V"⟩
abbrev cX5_deliver : ByteArray := prog_1_method_4_code
def yX5_deliver : MethodName := ⟨RX5, "deliver", "(IIII)I"⟩
abbrev cX5_split : ByteArray := prog_1_method_5_code
def yX5_split : MethodName := ⟨RX5, "split", "(II)I"⟩
abbrev cX5_sell : ByteArray := prog_1_method_6_code
def yX5_sell : MethodName := ⟨RX5, "sell", "(III)I"⟩
abbrev cX5_pledge : ByteArray := prog_1_method_7_code
def yX5_pledge : MethodName := ⟨RX5, "pledge", "(IIII)I"⟩
abbrev cX5_redeem : ByteArray := prog_1_method_8_code
def yX5_redeem : MethodName := ⟨RX5, "redeem", "(I)I"⟩
abbrev cX5_takeOut : ByteArray := prog_1_method_9_code
def yX5_takeOut : MethodName := ⟨RX5, "takeOut", "(I)I"⟩
abbrev cX5_reweigh : ByteArray := prog_1_method_10_code
def yX5_reweigh : MethodName := ⟨RX5, "reweigh", "(II)I"⟩
abbrev cX5_contract : ByteArray := prog_1_method_11_code
def yX5_contract : MethodName := ⟨RX5, "contract", "(IIIIIII)I"⟩
abbrev cX5_pass : ByteArray := prog_1_method_12_code
def yX5_pass : MethodName := ⟨RX5, "pass", "(I)I"⟩
abbrev cX5_receipt : ByteArray := prog_1_method_13_code
def yX5_receipt : MethodName := ⟨RX5, "receipt", "(II)I"⟩
abbrev cX5_receipts : ByteArray := prog_1_method_14_code
def yX5_receipts : MethodName := ⟨RX5, "receipts", "()I"⟩
abbrev cX5_delivery : ByteArray := prog_1_method_15_code
def yX5_delivery : MethodName := ⟨RX5, "delivery", "(II)I"⟩
abbrev cX5_ofContract : ByteArray := prog_1_method_16_code
def yX5_ofContract : MethodName := ⟨RX5, "ofContract", "(II)I"⟩
abbrev cX5_ofSilo : ByteArray := prog_1_method_17_code
def yX5_ofSilo : MethodName := ⟨RX5, "ofSilo", "(II)I"⟩
abbrev cX5_contentAnew : ByteArray := prog_1_method_18_code
def yX5_contentAnew : MethodName := ⟨RX5, "contentAnew", "(I)I"⟩
abbrev cX5_account : ByteArray := prog_1_method_19_code
def yX5_account : MethodName := ⟨RX5, "account", "(I)J"⟩
abbrev cX5_owes : ByteArray := prog_1_method_20_code
def yX5_owes : MethodName := ⟨RX5, "owes", "(I)I"⟩
abbrev cX5_holds : ByteArray := prog_1_method_21_code
def yX5_holds : MethodName := ⟨RX5, "holds", "(III)I"⟩
abbrev cX5_ownerOn : ByteArray := prog_1_method_22_code
def yX5_ownerOn : MethodName := ⟨RX5, "ownerOn", "(II)I"⟩
abbrev cX5_needRange : ByteArray := prog_1_method_23_code
def yX5_needRange : MethodName := ⟨RX5, "needRange", "(III)V"⟩
abbrev cX5_needFreeFor : ByteArray := prog_1_method_24_code
def yX5_needFreeFor : MethodName := ⟨RX5, "needFreeFor", "(LGrainledger$Receipt;I)V"⟩
abbrev cX5_findSilo : ByteArray := prog_1_method_25_code
def yX5_findSilo : MethodName := ⟨RX5, "findSilo", "(I)LGrainledger$Silo;"⟩
abbrev cX5_findDelivery : ByteArray := prog_1_method_26_code
def yX5_findDelivery : MethodName := ⟨RX5, "findDelivery", "(I)LGrainledger$Delivery;"⟩
abbrev cX5_findReceipt : ByteArray := prog_1_method_27_code
def yX5_findReceipt : MethodName := ⟨RX5, "findReceipt", "(I)LGrainledger$Receipt;"⟩
abbrev cX5_findContract : ByteArray := prog_1_method_28_code
def yX5_findContract : MethodName := ⟨RX5, "findContract", "(I)LGrainledger$Contract;"⟩
abbrev cX5_receiptsAreFull : ByteArray := prog_1_method_29_code
def yX5_receiptsAreFull : MethodName := ⟨RX5, "receiptsAreFull", "()Z"⟩
abbrev cX5_pay : ByteArray := prog_1_method_30_code
def yX5_pay : MethodName := ⟨RX5, "pay", "(IIJ)V"⟩
abbrev cX5_owe : ByteArray := prog_1_method_31_code
def yX5_owe : MethodName := ⟨RX5, "owe", "(II)V"⟩
abbrev cX5_gradeOf : ByteArray := prog_1_method_32_code
def yX5_gradeOf : MethodName := ⟨RX5, "gradeOf", "(I)I"⟩
abbrev cX5_dryWeight : ByteArray := prog_1_method_33_code
def yX5_dryWeight : MethodName := ⟨RX5, "dryWeight", "(II)I"⟩
abbrev cX5_siloFor : ByteArray := prog_1_method_34_code
def yX5_siloFor : MethodName := ⟨RX5, "siloFor", "(III)LGrainledger$Silo;"⟩
abbrev cX5_putIn : ByteArray := prog_1_method_35_code
def yX5_putIn : MethodName := ⟨RX5, "putIn", "(LGrainledger$Delivery;I)I"⟩
abbrev cX5_takeFrom : ByteArray := prog_1_method_36_code
def yX5_takeFrom : MethodName := ⟨RX5, "takeFrom", "(LGrainledger$Receipt;I)V"⟩
abbrev cX5_makeReceipt : ByteArray := prog_1_method_37_code
def yX5_makeReceipt : MethodName := ⟨RX5, "makeReceipt", "(LGrainledger$Delivery;II)LGrainledger$Receipt;"⟩
abbrev cX5_splitOff : ByteArray := prog_1_method_38_code
def yX5_splitOff : MethodName := ⟨RX5, "splitOff", "(LGrainledger$Receipt;I)LGrainledger$Receipt;"⟩
abbrev cX5_changeHolder : ByteArray := prog_1_method_39_code
def yX5_changeHolder : MethodName := ⟨RX5, "changeHolder", "(LGrainledger$Receipt;I)V"⟩
abbrev cX5_takeBack : ByteArray := prog_1_method_40_code
def yX5_takeBack : MethodName := ⟨RX5, "takeBack", "(LGrainledger$Delivery;I)V"⟩
abbrev cX5_takeBackFrom : ByteArray := prog_1_method_41_code
def yX5_takeBackFrom : MethodName := ⟨RX5, "takeBackFrom", "(LGrainledger$Receipt;II)I"⟩
abbrev cX5_payForTaken : ByteArray := prog_1_method_42_code
def yX5_payForTaken : MethodName := ⟨RX5, "payForTaken", "(LGrainledger$Receipt;II)V"⟩
abbrev cX5_passOneDay : ByteArray := prog_1_method_43_code
def yX5_passOneDay : MethodName := ⟨RX5, "passOneDay", "()V"⟩
abbrev cX5_shrink : ByteArray := prog_1_method_44_code
def yX5_shrink : MethodName := ⟨RX5, "shrink", "(LGrainledger$Silo;)V"⟩
abbrev cX5_bearOneEach : ByteArray := prog_1_method_45_code
def yX5_bearOneEach : MethodName := ⟨RX5, "bearOneEach", "(LGrainledger$Silo;I)V"⟩
abbrev cX5_greatestRemainder : ByteArray := prog_1_method_46_code
def yX5_greatestRemainder : MethodName := ⟨RX5, "greatestRemainder", "(LGrainledger$Silo;)LGrainledger$Receipt;"⟩
abbrev cX5_forfeitIfDue : ByteArray := prog_1_method_47_code
def yX5_forfeitIfDue : MethodName := ⟨RX5, "forfeitIfDue", "(LGrainledger$Receipt;)V"⟩
abbrev cX5_settle : ByteArray := prog_1_method_48_code
def yX5_settle : MethodName := ⟨RX5, "settle", "(LGrainledger$Contract;)V"⟩
abbrev cX5_handOver : ByteArray := prog_1_method_49_code
def yX5_handOver : MethodName := ⟨RX5, "handOver", "(LGrainledger$Contract;)I"⟩
def RX6 : String := "GrainledgerModel"
def TX6 : u_T := fun k => match k with
  | 0 => ("GrainledgerModel", "thrown", "I", false)
  | 1 => ("GrainledgerModel", "today", "I", false)
  | 2 => ("GrainledgerModel", "rate", "I", false)
  | 3 => ("GrainledgerModel", "fair", "I", false)
  | 4 => ("GrainledgerModel", "penalty", "I", false)
  | 5 => ("GrainledgerModel", "account", "[J", true)
  | 6 => ("GrainledgerModel", "owes", "[I", true)
  | 7 => ("GrainledgerModel", "silos", "I", false)
  | 8 => ("GrainledgerModel", "room", "[I", true)
  | 9 => ("GrainledgerModel", "content", "[I", true)
  | 10 => ("GrainledgerModel", "grainOf", "[I", true)
  | 11 => ("GrainledgerModel", "gradeOf", "[I", true)
  | 12 => ("GrainledgerModel", "lost", "[I", true)
  | 13 => ("GrainledgerModel", "deliveries", "I", false)
  | 14 => ("GrainledgerModel", "deliverer", "[I", true)
  | 15 => ("GrainledgerModel", "weight", "[I", true)
  | 16 => ("GrainledgerModel", "dry", "[I", true)
  | 17 => ("GrainledgerModel", "grain", "[I", true)
  | 18 => ("GrainledgerModel", "grade", "[I", true)
  | 19 => ("GrainledgerModel", "siloOf", "[I", true)
  | 20 => ("GrainledgerModel", "receipts", "I", false)
  | 21 => ("GrainledgerModel", "has", "[I", true)
  | 22 => ("GrainledgerModel", "holder", "[I", true)
  | 23 => ("GrainledgerModel", "inSilo", "[I", true)
  | 24 => ("GrainledgerModel", "from", "[I", true)
  | 25 => ("GrainledgerModel", "pledgedTo", "[I", true)
  | 26 => ("GrainledgerModel", "sum", "[I", true)
  | 27 => ("GrainledgerModel", "lastDay", "[I", true)
  | 28 => ("GrainledgerModel", "by", "[I", true)
  | 29 => ("GrainledgerModel", "changes", "I", false)
  | 30 => ("GrainledgerModel", "changed", "[I", true)
  | 31 => ("GrainledgerModel", "changedOn", "[I", true)
  | 32 => ("GrainledgerModel", "changedTo", "[I", true)
  | 33 => ("GrainledgerModel", "contracts", "I", false)
  | 34 => ("GrainledgerModel", "seller", "[I", true)
  | 35 => ("GrainledgerModel", "buyer", "[I", true)
  | 36 => ("GrainledgerModel", "wantsGrain", "[I", true)
  | 37 => ("GrainledgerModel", "wantsGrade", "[I", true)
  | 38 => ("GrainledgerModel", "wants", "[I", true)
  | 39 => ("GrainledgerModel", "dayOf", "[I", true)
  | 40 => ("GrainledgerModel", "price", "[I", true)
  | 41 => ("GrainledgerModel", "isSettled", "[Z", true)
  | 42 => ("GrainledgerModel", "handed", "[I", true)
  | 43 => ("GrainledgerModel", "missing", "[I", true)
  | 44 => ("GrainledgerModel", "shares", "[I", true)
  | _ => ("GrainledgerModel", "rests", "[I", true)
def tyX6 : Nat → FieldType := fun k => match k with
  | 0 => .int
  | 1 => .int
  | 2 => .int
  | 3 => .int
  | 4 => .int
  | 5 => .array .long
  | 6 => .array .int
  | 7 => .int
  | 8 => .array .int
  | 9 => .array .int
  | 10 => .array .int
  | 11 => .array .int
  | 12 => .array .int
  | 13 => .int
  | 14 => .array .int
  | 15 => .array .int
  | 16 => .array .int
  | 17 => .array .int
  | 18 => .array .int
  | 19 => .array .int
  | 20 => .int
  | 21 => .array .int
  | 22 => .array .int
  | 23 => .array .int
  | 24 => .array .int
  | 25 => .array .int
  | 26 => .array .int
  | 27 => .array .int
  | 28 => .array .int
  | 29 => .int
  | 30 => .array .int
  | 31 => .array .int
  | 32 => .array .int
  | 33 => .int
  | 34 => .array .int
  | 35 => .array .int
  | 36 => .array .int
  | 37 => .array .int
  | 38 => .array .int
  | 39 => .array .int
  | 40 => .array .int
  | 41 => .array .boolean
  | 42 => .array .int
  | 43 => .array .int
  | 44 => .array .int
  | _ => .array .int
abbrev wsX60 : List Cond := u_ws RX6 TX6 46
theorem nmX6 : ∀ a, a < 46 → ∀ b, b < 46 → a ≠ b → (TX6 a).2.1 ≠ (TX6 b).2.1 := by decide +kernel
theorem tyX6_ok : ∀ k, k < 46 → parseFieldDescriptor (TX6 k).2.2.1 = some (tyX6 k) := by decide +kernel
abbrev cX6_init : ByteArray := prog_8_method_1_code
def yX6_init : MethodName := ⟨RX6, "<init>", "()V"⟩
abbrev cX6_thrown : ByteArray := prog_8_method_2_code
def yX6_thrown : MethodName := ⟨RX6, "thrown", "()I"⟩
abbrev cX6_goesWell : ByteArray := prog_8_method_3_code
def yX6_goesWell : MethodName := ⟨RX6, "goesWell", "(I)Z"⟩
abbrev cX6_in : ByteArray := prog_8_method_4_code
def yX6_in : MethodName := ⟨RX6, "in", "(III)Z"⟩
abbrev cX6_isHolder : ByteArray := prog_8_method_5_code
def yX6_isHolder : MethodName := ⟨RX6, "isHolder", "(I)Z"⟩
abbrev cX6_isKind : ByteArray := prog_8_method_6_code
def yX6_isKind : MethodName := ⟨RX6, "isKind", "(I)Z"⟩
abbrev cX6_isReceipt : ByteArray := prog_8_method_7_code
def yX6_isReceipt : MethodName := ⟨RX6, "isReceipt", "(I)Z"⟩
abbrev cX6_isSilo : ByteArray := prog_8_method_8_code
def yX6_isSilo : MethodName := ⟨RX6, "isSilo", "(I)Z"⟩
abbrev cX6_pay : ByteArray := prog_8_method_9_code
def yX6_pay : MethodName := ⟨RX6, "pay", "(IIJ)V"⟩
abbrev cX6_silo : ByteArray := prog_8_method_10_code
def yX6_silo : MethodName := ⟨RX6, "silo", "(I)I"⟩
abbrev cX6_terms : ByteArray := prog_8_method_11_code
def yX6_terms : MethodName := ⟨RX6, "terms", "(III)V"⟩
abbrev cX6_dryOf : ByteArray := prog_8_method_12_code
def yX6_dryOf : MethodName := ⟨RX6, "dryOf", "(II)I"⟩
abbrev cX6_isOf : ByteArray := prog_8_method_13_code
def yX6_isOf : MethodName := ⟨RX6, "isOf", "(III)Z"⟩
abbrev cX6_siloFor : ByteArray := prog_8_method_14_code
def yX6_siloFor : MethodName := ⟨RX6, "siloFor", "(III)I"⟩
abbrev cX6_become : ByteArray := prog_8_method_15_code
def yX6_become : MethodName := ⟨RX6, "become", "(II)V"⟩
abbrev cX6_make : ByteArray := prog_8_method_16_code
def yX6_make : MethodName := ⟨RX6, "make", "(IIII)I"⟩
abbrev cX6_deliver : ByteArray := prog_8_method_17_code
def yX6_deliver : MethodName := ⟨RX6, "deliver", "(IIII)I"⟩
abbrev cX6_splitOff : ByteArray := prog_8_method_18_code
def yX6_splitOff : MethodName := ⟨RX6, "splitOff", "(II)I"⟩
abbrev cX6_split : ByteArray := prog_8_method_19_code
def yX6_split : MethodName := ⟨RX6, "split", "(II)I"⟩
abbrev cX6_sell : ByteArray := prog_8_method_20_code
def yX6_sell : MethodName := ⟨RX6, "sell", "(III)I"⟩
abbrev cX6_pledge : ByteArray := prog_8_method_21_code
def yX6_pledge : MethodName := ⟨RX6, "pledge", "(IIII)I"⟩
abbrev cX6_redeem : ByteArray := prog_8_method_22_code
def yX6_redeem : MethodName := ⟨RX6, "redeem", "(I)I"⟩
abbrev cX6_lose : ByteArray := prog_8_method_23_code
def yX6_lose : MethodName := ⟨RX6, "lose", "(IIZ)V"⟩
abbrev cX6_takeOut : ByteArray := prog_8_method_24_code
def yX6_takeOut : MethodName := ⟨RX6, "takeOut", "(I)I"⟩
abbrev cX6_takeFor : ByteArray := prog_8_method_25_code
def yX6_takeFor : MethodName := ⟨RX6, "takeFor", "(III)I"⟩
abbrev cX6_reweigh : ByteArray := prog_8_method_26_code
def yX6_reweigh : MethodName := ⟨RX6, "reweigh", "(II)I"⟩
abbrev cX6_contract : ByteArray := prog_8_method_27_code
def yX6_contract : MethodName := ⟨RX6, "contract", "(IIIIIII)I"⟩
abbrev cX6_shrink : ByteArray := prog_8_method_28_code
def yX6_shrink : MethodName := ⟨RX6, "shrink", "(I)V"⟩
abbrev cX6_settle : ByteArray := prog_8_method_29_code
def yX6_settle : MethodName := ⟨RX6, "settle", "(I)V"⟩
abbrev cX6_pass : ByteArray := prog_8_method_30_code
def yX6_pass : MethodName := ⟨RX6, "pass", "(I)I"⟩
abbrev cX6_receipt : ByteArray := prog_8_method_31_code
def yX6_receipt : MethodName := ⟨RX6, "receipt", "(II)I"⟩
abbrev cX6_receipts : ByteArray := prog_8_method_32_code
def yX6_receipts : MethodName := ⟨RX6, "receipts", "()I"⟩
abbrev cX6_delivery : ByteArray := prog_8_method_33_code
def yX6_delivery : MethodName := ⟨RX6, "delivery", "(II)I"⟩
abbrev cX6_ofContract : ByteArray := prog_8_method_34_code
def yX6_ofContract : MethodName := ⟨RX6, "ofContract", "(II)I"⟩
abbrev cX6_ofSilo : ByteArray := prog_8_method_35_code
def yX6_ofSilo : MethodName := ⟨RX6, "ofSilo", "(II)I"⟩
abbrev cX6_contentAnew : ByteArray := prog_8_method_36_code
def yX6_contentAnew : MethodName := ⟨RX6, "contentAnew", "(I)I"⟩
abbrev cX6_account : ByteArray := prog_8_method_37_code
def yX6_account : MethodName := ⟨RX6, "account", "(I)J"⟩
abbrev cX6_owes : ByteArray := prog_8_method_38_code
def yX6_owes : MethodName := ⟨RX6, "owes", "(I)I"⟩
abbrev cX6_holds : ByteArray := prog_8_method_39_code
def yX6_holds : MethodName := ⟨RX6, "holds", "(III)I"⟩
abbrev cX6_ownerOn : ByteArray := prog_8_method_40_code
def yX6_ownerOn : MethodName := ⟨RX6, "ownerOn", "(II)I"⟩
def RJx145de : String := "java/io/Serializable"
def TJx145de : u_T := fun k => match k with
  | _ => ("", "", "", false)
def tyJx145de : Nat → FieldType := fun k => match k with
  | _ => .int
abbrev wsJx145de0 : List Cond := u_ws RJx145de TJx145de 0
theorem nmJx145de : ∀ a, a < 0 → ∀ b, b < 0 → a ≠ b → (TJx145de a).2.1 ≠ (TJx145de b).2.1 := by decide +kernel
theorem tyJx145de_ok : ∀ k, k < 0 → parseFieldDescriptor (TJx145de k).2.2.1 = some (tyJx145de k) := by decide +kernel
def RJx8e188 : String := "java/lang/Cloneable"
def TJx8e188 : u_T := fun k => match k with
  | _ => ("", "", "", false)
def tyJx8e188 : Nat → FieldType := fun k => match k with
  | _ => .int
abbrev wsJx8e1880 : List Cond := u_ws RJx8e188 TJx8e188 0
theorem nmJx8e188 : ∀ a, a < 0 → ∀ b, b < 0 → a ≠ b → (TJx8e188 a).2.1 ≠ (TJx8e188 b).2.1 := by decide +kernel
theorem tyJx8e188_ok : ∀ k, k < 0 → parseFieldDescriptor (TJx8e188 k).2.2.1 = some (tyJx8e188 k) := by decide +kernel
def RJxab1ab : String := "java/lang/Iterable"
def TJxab1ab : u_T := fun k => match k with
  | _ => ("", "", "", false)
def tyJxab1ab : Nat → FieldType := fun k => match k with
  | _ => .int
abbrev wsJxab1ab0 : List Cond := u_ws RJxab1ab TJxab1ab 0
theorem nmJxab1ab : ∀ a, a < 0 → ∀ b, b < 0 → a ≠ b → (TJxab1ab a).2.1 ≠ (TJxab1ab b).2.1 := by decide +kernel
theorem tyJxab1ab_ok : ∀ k, k < 0 → parseFieldDescriptor (TJxab1ab k).2.2.1 = some (tyJxab1ab k) := by decide +kernel
def RJ9 : String := "java/lang/Math"
def TJ9 : u_T := fun k => match k with
  | _ => ("", "", "", false)
def tyJ9 : Nat → FieldType := fun k => match k with
  | _ => .int
abbrev wsJ90 : List Cond := u_ws RJ9 TJ9 0
theorem nmJ9 : ∀ a, a < 0 → ∀ b, b < 0 → a ≠ b → (TJ9 a).2.1 ≠ (TJ9 b).2.1 := by decide +kernel
theorem tyJ9_ok : ∀ k, k < 0 → parseFieldDescriptor (TJ9 k).2.2.1 = some (tyJ9 k) := by decide +kernel
abbrev cJ9_max_7cf53 : ByteArray := prog_16_method_65_code
def yJ9_max_7cf53 : MethodName := ⟨RJ9, "max", "(II)I"⟩
abbrev cJ9_min_7cf53 : ByteArray := prog_16_method_69_code
def yJ9_min_7cf53 : MethodName := ⟨RJ9, "min", "(II)I"⟩
def RJ0 : String := "java/lang/String"
def TJ0 : u_T := fun k => match k with
  | _ => ("", "", "", false)
def tyJ0 : Nat → FieldType := fun k => match k with
  | _ => .int
abbrev wsJ00 : List Cond := u_ws RJ0 TJ0 0
theorem nmJ0 : ∀ a, a < 0 → ∀ b, b < 0 → a ≠ b → (TJ0 a).2.1 ≠ (TJ0 b).2.1 := by decide +kernel
theorem tyJ0_ok : ∀ k, k < 0 → parseFieldDescriptor (TJ0 k).2.2.1 = some (tyJ0 k) := by decide +kernel
def RJ10 : String := "java/lang/System"
def TJ10 : u_T := fun k => match k with
  | _ => ("", "", "", false)
def tyJ10 : Nat → FieldType := fun k => match k with
  | _ => .int
abbrev wsJ100 : List Cond := u_ws RJ10 TJ10 0
theorem nmJ10 : ∀ a, a < 0 → ∀ b, b < 0 → a ≠ b → (TJ10 a).2.1 ≠ (TJ10 b).2.1 := by decide +kernel
theorem tyJ10_ok : ∀ k, k < 0 → parseFieldDescriptor (TJ10 k).2.2.1 = some (tyJ10 k) := by decide +kernel
def RJxa1e45 : String := "java/util/AbstractCollection"
def TJxa1e45 : u_T := fun k => match k with
  | _ => ("", "", "", false)
def tyJxa1e45 : Nat → FieldType := fun k => match k with
  | _ => .int
abbrev wsJxa1e450 : List Cond := u_ws RJxa1e45 TJxa1e45 0
theorem nmJxa1e45 : ∀ a, a < 0 → ∀ b, b < 0 → a ≠ b → (TJxa1e45 a).2.1 ≠ (TJxa1e45 b).2.1 := by decide +kernel
theorem tyJxa1e45_ok : ∀ k, k < 0 → parseFieldDescriptor (TJxa1e45 k).2.2.1 = some (tyJxa1e45 k) := by decide +kernel
abbrev cJxa1e45_init_da8c8 : ByteArray := prog_21_method_1_code
def yJxa1e45_init_da8c8 : MethodName := ⟨RJxa1e45, "<init>", "()V"⟩
def RJxc12de : String := "java/util/AbstractList"
def TJxc12de : u_T := fun k => match k with
  | _ => ("", "", "", false)
def tyJxc12de : Nat → FieldType := fun k => match k with
  | _ => .int
abbrev wsJxc12de0 : List Cond := u_ws RJxc12de TJxc12de 0
theorem nmJxc12de : ∀ a, a < 0 → ∀ b, b < 0 → a ≠ b → (TJxc12de a).2.1 ≠ (TJxc12de b).2.1 := by decide +kernel
theorem tyJxc12de_ok : ∀ k, k < 0 → parseFieldDescriptor (TJxc12de k).2.2.1 = some (tyJxc12de k) := by decide +kernel
abbrev cJxc12de_init_da8c8 : ByteArray := prog_22_method_1_code
def yJxc12de_init_da8c8 : MethodName := ⟨RJxc12de, "<init>", "()V"⟩
def RJx4a65c : String := "java/util/ArrayList"
def TJx4a65c : u_T := fun k => match k with
  | 0 => ("java/util/AbstractList", "modCount", "I", false)
  | 1 => ("java/util/ArrayList", "elementData", "[Ljava/lang/Object;", false)
  | _ => ("java/util/ArrayList", "size", "I", false)
def tyJx4a65c : Nat → FieldType := fun k => match k with
  | 0 => .int
  | 1 => .array (.object "java/lang/Object")
  | _ => .int
abbrev wsJx4a65c0 : List Cond := u_ws RJx4a65c TJx4a65c 3
theorem nmJx4a65c : ∀ a, a < 3 → ∀ b, b < 3 → a ≠ b → (TJx4a65c a).2.1 ≠ (TJx4a65c b).2.1 := by decide +kernel
theorem tyJx4a65c_ok : ∀ k, k < 3 → parseFieldDescriptor (TJx4a65c k).2.2.1 = some (tyJx4a65c k) := by decide +kernel
abbrev cJx4a65c_init_da8c8 : ByteArray := prog_23_method_2_code
def yJx4a65c_init_da8c8 : MethodName := ⟨RJx4a65c, "<init>", "()V"⟩
abbrev cJx4a65c_grow_92f84 : ByteArray := prog_23_method_6_code
def yJx4a65c_grow_92f84 : MethodName := ⟨RJx4a65c, "grow", "(I)[Ljava/lang/Object;"⟩
abbrev cJx4a65c_grow_d5877 : ByteArray := prog_23_method_7_code
def yJx4a65c_grow_d5877 : MethodName := ⟨RJx4a65c, "grow", "()[Ljava/lang/Object;"⟩
abbrev cJx4a65c_size_8abf5 : ByteArray := prog_23_method_8_code
def yJx4a65c_size_8abf5 : MethodName := ⟨RJx4a65c, "size", "()I"⟩
abbrev cJx4a65c_elementData_915e3 : ByteArray := prog_23_method_18_code
def yJx4a65c_elementData_915e3 : MethodName := ⟨RJx4a65c, "elementData", "(I)Ljava/lang/Object;"⟩
abbrev cJx4a65c_get_915e3 : ByteArray := prog_23_method_20_code
def yJx4a65c_get_915e3 : MethodName := ⟨RJx4a65c, "get", "(I)Ljava/lang/Object;"⟩
abbrev cJx4a65c_add_72be8 : ByteArray := prog_23_method_24_code
def yJx4a65c_add_72be8 : MethodName := ⟨RJx4a65c, "add", "(Ljava/lang/Object;[Ljava/lang/Object;I)V"⟩
abbrev cJx4a65c_add_9ea2d : ByteArray := prog_23_method_25_code
def yJx4a65c_add_9ea2d : MethodName := ⟨RJx4a65c, "add", "(Ljava/lang/Object;)Z"⟩
def RJ7 : String := "java/util/Arrays"
def TJ7 : u_T := fun k => match k with
  | _ => ("", "", "", false)
def tyJ7 : Nat → FieldType := fun k => match k with
  | _ => .int
abbrev wsJ70 : List Cond := u_ws RJ7 TJ7 0
theorem nmJ7 : ∀ a, a < 0 → ∀ b, b < 0 → a ≠ b → (TJ7 a).2.1 ≠ (TJ7 b).2.1 := by decide +kernel
theorem tyJ7_ok : ∀ k, k < 0 → parseFieldDescriptor (TJ7 k).2.2.1 = some (tyJ7 k) := by decide +kernel
abbrev cJ7_copyOf_1904c : ByteArray := prog_24_method_119_code
def yJ7_copyOf_1904c : MethodName := ⟨RJ7, "copyOf", "([Ljava/lang/Object;I)[Ljava/lang/Object;"⟩
abbrev cJ7_copyOf_6403c : ByteArray := prog_24_method_120_code
def yJ7_copyOf_6403c : MethodName := ⟨RJ7, "copyOf", "([Ljava/lang/Object;ILjava/lang/Class;)[Ljava/lang/Object;"⟩
def RJx5ef63 : String := "java/util/Collection"
def TJx5ef63 : u_T := fun k => match k with
  | _ => ("", "", "", false)
def tyJx5ef63 : Nat → FieldType := fun k => match k with
  | _ => .int
abbrev wsJx5ef630 : List Cond := u_ws RJx5ef63 TJx5ef63 0
theorem nmJx5ef63 : ∀ a, a < 0 → ∀ b, b < 0 → a ≠ b → (TJx5ef63 a).2.1 ≠ (TJx5ef63 b).2.1 := by decide +kernel
theorem tyJx5ef63_ok : ∀ k, k < 0 → parseFieldDescriptor (TJx5ef63 k).2.2.1 = some (tyJx5ef63 k) := by decide +kernel
def RJxbd725 : String := "java/util/List"
def TJxbd725 : u_T := fun k => match k with
  | _ => ("", "", "", false)
def tyJxbd725 : Nat → FieldType := fun k => match k with
  | _ => .int
abbrev wsJxbd7250 : List Cond := u_ws RJxbd725 TJxbd725 0
theorem nmJxbd725 : ∀ a, a < 0 → ∀ b, b < 0 → a ≠ b → (TJxbd725 a).2.1 ≠ (TJxbd725 b).2.1 := by decide +kernel
theorem tyJxbd725_ok : ∀ k, k < 0 → parseFieldDescriptor (TJxbd725 k).2.2.1 = some (tyJxbd725 k) := by decide +kernel
def RJ15 : String := "java/util/Objects"
def TJ15 : u_T := fun k => match k with
  | _ => ("", "", "", false)
def tyJ15 : Nat → FieldType := fun k => match k with
  | _ => .int
abbrev wsJ150 : List Cond := u_ws RJ15 TJ15 0
theorem nmJ15 : ∀ a, a < 0 → ∀ b, b < 0 → a ≠ b → (TJ15 a).2.1 ≠ (TJ15 b).2.1 := by decide +kernel
theorem tyJ15_ok : ∀ k, k < 0 → parseFieldDescriptor (TJ15 k).2.2.1 = some (tyJ15 k) := by decide +kernel
abbrev cJ15_checkIndex_7cf53 : ByteArray := prog_27_method_17_code
def yJ15_checkIndex_7cf53 : MethodName := ⟨RJ15, "checkIndex", "(II)I"⟩
def RJxf0a74 : String := "java/util/RandomAccess"
def TJxf0a74 : u_T := fun k => match k with
  | _ => ("", "", "", false)
def tyJxf0a74 : Nat → FieldType := fun k => match k with
  | _ => .int
abbrev wsJxf0a740 : List Cond := u_ws RJxf0a74 TJxf0a74 0
theorem nmJxf0a74 : ∀ a, a < 0 → ∀ b, b < 0 → a ≠ b → (TJxf0a74 a).2.1 ≠ (TJxf0a74 b).2.1 := by decide +kernel
theorem tyJxf0a74_ok : ∀ k, k < 0 → parseFieldDescriptor (TJxf0a74 k).2.2.1 = some (tyJxf0a74 k) := by decide +kernel
def RJxa66e6 : String := "java/util/SequencedCollection"
def TJxa66e6 : u_T := fun k => match k with
  | _ => ("", "", "", false)
def tyJxa66e6 : Nat → FieldType := fun k => match k with
  | _ => .int
abbrev wsJxa66e60 : List Cond := u_ws RJxa66e6 TJxa66e6 0
theorem nmJxa66e6 : ∀ a, a < 0 → ∀ b, b < 0 → a ≠ b → (TJxa66e6 a).2.1 ≠ (TJxa66e6 b).2.1 := by decide +kernel
theorem tyJxa66e6_ok : ∀ k, k < 0 → parseFieldDescriptor (TJxa66e6 k).2.2.1 = some (tyJxa66e6 k) := by decide +kernel
def RJ8 : String := "jdk/internal/util/ArraysSupport"
def TJ8 : u_T := fun k => match k with
  | _ => ("", "", "", false)
def tyJ8 : Nat → FieldType := fun k => match k with
  | _ => .int
abbrev wsJ80 : List Cond := u_ws RJ8 TJ8 0
theorem nmJ8 : ∀ a, a < 0 → ∀ b, b < 0 → a ≠ b → (TJ8 a).2.1 ≠ (TJ8 b).2.1 := by decide +kernel
theorem tyJ8_ok : ∀ k, k < 0 → parseFieldDescriptor (TJ8 k).2.2.1 = some (tyJ8 k) := by decide +kernel
abbrev cJ8_newLength_cabcc : ByteArray := prog_30_method_27_code
def yJ8_newLength_cabcc : MethodName := ⟨RJ8, "newLength", "(III)I"⟩
abbrev cJ8_hugeLength_7cf53 : ByteArray := prog_30_method_28_code
def yJ8_hugeLength_7cf53 : MethodName := ⟨RJ8, "hugeLength", "(II)I"⟩
def RJ3 : String := "jdk/internal/util/Preconditions"
def TJ3 : u_T := fun k => match k with
  | _ => ("", "", "", false)
def tyJ3 : Nat → FieldType := fun k => match k with
  | _ => .int
abbrev wsJ30 : List Cond := u_ws RJ3 TJ3 0
theorem nmJ3 : ∀ a, a < 0 → ∀ b, b < 0 → a ≠ b → (TJ3 a).2.1 ≠ (TJ3 b).2.1 := by decide +kernel
theorem tyJ3_ok : ∀ k, k < 0 → parseFieldDescriptor (TJ3 k).2.2.1 = some (tyJ3 k) := by decide +kernel
abbrev cJ3_checkIndex_8e157 : ByteArray := prog_31_method_11_code
def yJ3_checkIndex_8e157 : MethodName := ⟨RJ3, "checkIndex", "(IILjava/util/function/BiFunction;)I"⟩
def RL : String := "GrainledgerLaw"
abbrev cL_silo : ByteArray := method_3_code
def yL_silo : MethodName := ⟨RL, "silo", "(LGrainledger;I[J)I"⟩
abbrev cL_terms : ByteArray := method_4_code
def yL_terms : MethodName := ⟨RL, "terms", "(LGrainledger;III)I"⟩
abbrev cL_deliver : ByteArray := method_5_code
def yL_deliver : MethodName := ⟨RL, "deliver", "(LGrainledger;IIII[J)I"⟩
abbrev cL_split : ByteArray := method_6_code
def yL_split : MethodName := ⟨RL, "split", "(LGrainledger;II[J)I"⟩
abbrev cL_sell : ByteArray := method_7_code
def yL_sell : MethodName := ⟨RL, "sell", "(LGrainledger;III[J)I"⟩
abbrev cL_pledge : ByteArray := method_8_code
def yL_pledge : MethodName := ⟨RL, "pledge", "(LGrainledger;IIII[J)I"⟩
abbrev cL_redeem : ByteArray := method_9_code
def yL_redeem : MethodName := ⟨RL, "redeem", "(LGrainledger;I[J)I"⟩
abbrev cL_takeOut : ByteArray := method_10_code
def yL_takeOut : MethodName := ⟨RL, "takeOut", "(LGrainledger;I[J)I"⟩
abbrev cL_reweigh : ByteArray := method_11_code
def yL_reweigh : MethodName := ⟨RL, "reweigh", "(LGrainledger;II[J)I"⟩
abbrev cL_contract : ByteArray := method_12_code
def yL_contract : MethodName := ⟨RL, "contract", "(LGrainledger;IIIIIII[J)I"⟩
abbrev cL_pass : ByteArray := method_13_code
def yL_pass : MethodName := ⟨RL, "pass", "(LGrainledger;I[J)I"⟩
abbrev cL_receipt : ByteArray := method_14_code
def yL_receipt : MethodName := ⟨RL, "receipt", "(LGrainledger;II[J)I"⟩
abbrev cL_delivery : ByteArray := method_15_code
def yL_delivery : MethodName := ⟨RL, "delivery", "(LGrainledger;II[J)I"⟩
abbrev cL_ofContract : ByteArray := method_16_code
def yL_ofContract : MethodName := ⟨RL, "ofContract", "(LGrainledger;II[J)I"⟩
abbrev cL_ofSilo : ByteArray := method_17_code
def yL_ofSilo : MethodName := ⟨RL, "ofSilo", "(LGrainledger;II[J)I"⟩
abbrev cL_contentAnew : ByteArray := method_18_code
def yL_contentAnew : MethodName := ⟨RL, "contentAnew", "(LGrainledger;I[J)I"⟩
abbrev cL_account : ByteArray := method_19_code
def yL_account : MethodName := ⟨RL, "account", "(LGrainledger;I[J)I"⟩
abbrev cL_owes : ByteArray := method_20_code
def yL_owes : MethodName := ⟨RL, "owes", "(LGrainledger;I[J)I"⟩
abbrev cL_holds : ByteArray := method_21_code
def yL_holds : MethodName := ⟨RL, "holds", "(LGrainledger;III[J)I"⟩
abbrev cL_ownerOn : ByteArray := method_22_code
def yL_ownerOn : MethodName := ⟨RL, "ownerOn", "(LGrainledger;II[J)I"⟩
abbrev cL_law : ByteArray := code
def yL_law : MethodName := ⟨RL, "law", "([I)Z"⟩
abbrev vwCl : List vw_C := [(RJx4a65c, TJx4a65c, 3), (RX0, TX0, 11), (RX1, TX1, 7), (RX2, TX2, 9), (RX3, TX3, 6), (RX4, TX4, 3), (RX5, TX5, 11), (RX6, TX6, 46)]
end
section
/-! the judgement gW: from every heap with P (what lies outside A being as at the method's entry), with the locals lv by place, the machine at pc with the stack st comes to Q -/
def gl_pr : Nat → List (Option Value) → List (Nat × Value)
  | _, [] => []
  | i, none :: t => gl_pr (i + 1) t
  | i, some v :: t => (i, v) :: gl_pr (i + 1) t
theorem gl_pr_get : ∀ (lv : List (Option Value)) (b i : Nat) (v : Value), lv[i]? = some (some v) → (b + i, v) ∈ gl_pr b lv
  | [], b, i, v, h => by simp at h
  | none :: t, b, 0, v, h => by simp at h
  | none :: t, b, i + 1, v, h => by
    rw [List.getElem?_cons_succ] at h
    have := gl_pr_get t (b + 1) i v h
    rw [show b + (i + 1) = b + 1 + i by omega]
    exact this
  | some x :: t, b, 0, v, h => by
    rw [List.getElem?_cons_zero] at h
    cases h
    exact List.mem_cons_self
  | some x :: t, b, i + 1, v, h => by
    rw [List.getElem?_cons_succ] at h
    have := gl_pr_get t (b + 1) i v h
    rw [show b + (i + 1) = b + 1 + i by omega]
    exact List.mem_cons_of_mem _ this
theorem gl_pr_mem : ∀ (lv : List (Option Value)) (b : Nat) (q : Nat × Value), q ∈ gl_pr b lv → b ≤ q.1 ∧ lv[q.1 - b]? = some (some q.2)
  | [], b, q, h => by simp [gl_pr] at h
  | none :: t, b, q, h => by
    obtain ⟨h1, h2⟩ := gl_pr_mem t (b + 1) q h
    refine ⟨by omega, ?_⟩
    rw [show q.1 - b = (q.1 - (b + 1)) + 1 by omega, List.getElem?_cons_succ]
    exact h2
  | some x :: t, b, q, h => by
    rcases List.mem_cons.mp h with rfl | h
    · simp
    · obtain ⟨h1, h2⟩ := gl_pr_mem t (b + 1) q h
      refine ⟨by omega, ?_⟩
      rw [show q.1 - b = (q.1 - (b + 1)) + 1 by omega, List.getElem?_cons_succ]
      exact h2
/-- the locals by place: some v where v is held -/
def gl_has (ls : Array Slot) (nL : Nat) (lv : List (Option Value)) : Prop := lv.length = nL ∧ lv_has ls nL (gl_pr 0 lv)
theorem gl_at {ls : Array Slot} {nL : Nat} {lv : List (Option Value)} (h : gl_has ls nL lv) {i : Nat} {v : Value} (hk : lv[i]? = some (some v)) : ls[i]? = some (.val v) := by
  have := h.2.2.2 (0 + i, v) (gl_pr_get lv 0 i v hk)
  simpa using this
def gl_ok (lv : List (Option Value)) : Nat → Bool
  | 0 => true
  | j + 1 => match lv[j]? with
    | some (some v) => v.category == 1
    | _ => true
theorem gl_ok_use {lv : List (Option Value)} {i j : Nat} {v : Value} (h : gl_ok lv i = true) (hj : j + 1 = i) (hv : lv[j]? = some (some v)) : v.category = 1 := by
  subst hj
  simpa [gl_ok, hv] using h
theorem gl_set1 {ls ls' : Array Slot} {nL : Nat} {lv : List (Option Value)} {i : Nat} {v : Value} (h : gl_has ls nL lv) (hi : i < nL) (hok : gl_ok lv i = true)
    (h' : lv_has ls' nL ((i, v) :: (gl_pr 0 lv).filter (fun q => !(q.1 == i) && !(q.1 + 1 == i && q.2.category == 2)))) : gl_has ls' nL (lv.set i (some v)) := by
  refine ⟨by rw [List.length_set]; exact h.1, h'.1, h'.2.1, fun q hq => ?_⟩
  obtain ⟨-, hq2⟩ := gl_pr_mem _ 0 q hq
  rw [Nat.sub_zero] at hq2
  by_cases a : q.1 = i
  · rw [a, List.getElem?_set_self (by rw [h.1]; exact hi)] at hq2
    cases hq2
    rw [a]
    exact h'.2.2 (i, q.2) List.mem_cons_self
  · rw [List.getElem?_set_ne (fun z => a z.symm)] at hq2
    refine h'.2.2 q (List.mem_cons_of_mem _ (List.mem_filter.mpr ⟨?_, ?_⟩))
    · have := gl_pr_get lv 0 q.1 q.2 hq2
      rwa [Nat.zero_add] at this
    · simp only [Bool.and_eq_true, Bool.not_eq_true', beq_eq_false_iff_ne, ne_eq, Bool.and_eq_false_iff]
      refine ⟨a, ?_⟩
      by_cases b : q.1 + 1 = i
      · right
        rw [gl_ok_use hok b hq2]
        decide
      · left; exact b
theorem gl_set2 {ls ls' : Array Slot} {nL : Nat} {lv : List (Option Value)} {i : Nat} {v : Value} (h : gl_has ls nL lv) (hi : i + 1 < nL) (hok : gl_ok lv i = true)
    (h' : lv_has ls' nL ((i, v) :: (gl_pr 0 lv).filter (fun q => !(q.1 == i) && (!(q.1 == i + 1) && !(q.1 + 1 == i && q.2.category == 2))))) : gl_has ls' nL ((lv.set i (some v)).set (i + 1) none) := by
  refine ⟨by rw [List.length_set, List.length_set]; exact h.1, h'.1, h'.2.1, fun q hq => ?_⟩
  obtain ⟨-, hq2⟩ := gl_pr_mem _ 0 q hq
  rw [Nat.sub_zero] at hq2
  by_cases a1 : q.1 = i + 1
  · rw [a1, List.getElem?_set_self (by rw [List.length_set, h.1]; exact hi)] at hq2
    cases hq2
  rw [List.getElem?_set_ne (fun z => a1 z.symm)] at hq2
  by_cases a : q.1 = i
  · rw [a, List.getElem?_set_self (by rw [h.1]; omega)] at hq2
    cases hq2
    rw [a]
    exact h'.2.2 (i, q.2) List.mem_cons_self
  · rw [List.getElem?_set_ne (fun z => a z.symm)] at hq2
    refine h'.2.2 q (List.mem_cons_of_mem _ (List.mem_filter.mpr ⟨?_, ?_⟩))
    · have := gl_pr_get lv 0 q.1 q.2 hq2
      rwa [Nat.zero_add] at this
    · simp only [Bool.and_eq_true, Bool.not_eq_true', beq_eq_false_iff_ne, ne_eq, Bool.and_eq_false_iff]
      refine ⟨a, a1, ?_⟩
      by_cases b : q.1 + 1 = i
      · right
        rw [gl_ok_use hok b hq2]
        decide
      · left; exact b
def gW (p : Program) (l : Launch) (e : Env) (R : Room) (s : State) (m : MethodId) (args : Array Value) (below : List Frame) (meth : Method) (c : Code) (A : Nat → Prop) (Q : State → Prop) (nL : Nat) (P : Heap → Prop) (k n : Nat) (pc : Nat) (lv : List (Option Value)) (st : List Value) : Prop :=
  ∀ (H : Heap) (locs : List Loc) (ls : Array Slot), P H → va_S A s.heap H locs → gl_has ls nL lv → W p l e R s m args below meth c H locs k n Q (F0 m pc ls st)
section GW
variable {p : Program} {l : Launch} {e : Env} {R : Room} {s : State} {m : MethodId} {args : Array Value} {below : List Frame} {meth : Method} {c : Code} {A : Nat → Prop} {Q : State → Prop} {nL : Nat} {P : Heap → Prop} {k n : Nat} {pc : Nat} {lv : List (Option Value)} {st : List Value}
variable {cc : ByteArray} {Ts : List Cond} {own : String}
theorem g_iconst (S : CallFix p m c cc nL s args Ts own) {z : Int} {v : Int32} (hdg : decode cc pc = .ok (.iconst z, 1)) (hv : Int32.ofInt z = v)
    (kk : gW p l e R s m args below meth c A Q nL P k n (pc + 1) lv (.int v :: st)) : gW p l e R s m args below meth c A Q nL P k n pc lv st := fun H locs ls hP hS hl => lv_iconst S.1 S.2.1 hdg hv (kk H locs ls hP hS hl)
theorem g_bipush (S : CallFix p m c cc nL s args Ts own) {z : Int} {v : Int32} (hdg : decode cc pc = .ok (.bipush z, 2)) (hv : (Int8.ofInt z).toInt32 = v)
    (kk : gW p l e R s m args below meth c A Q nL P k n (pc + 2) lv (.int v :: st)) : gW p l e R s m args below meth c A Q nL P k n pc lv st := fun H locs ls hP hS hl => lv_bipush S.1 S.2.1 hdg hv (kk H locs ls hP hS hl)
theorem g_sipush (S : CallFix p m c cc nL s args Ts own) {z : Int} {v : Int32} (hdg : decode cc pc = .ok (.sipush z, 3)) (hv : (Int16.ofInt z).toInt32 = v)
    (kk : gW p l e R s m args below meth c A Q nL P k n (pc + 3) lv (.int v :: st)) : gW p l e R s m args below meth c A Q nL P k n pc lv st := fun H locs ls hP hS hl => lv_sipush S.1 S.2.1 hdg hv (kk H locs ls hP hS hl)
theorem g_lconst (S : CallFix p m c cc nL s args Ts own) {z : Fin 2} {v : Int64} (hdg : decode cc pc = .ok (.lconst z, 1)) (hv : Int64.ofNat (z : Nat) = v)
    (kk : gW p l e R s m args below meth c A Q nL P k n (pc + 1) lv (.long v :: st)) : gW p l e R s m args below meth c A Q nL P k n pc lv st := fun H locs ls hP hS hl => lv_lconst S.1 S.2.1 hdg hv (kk H locs ls hP hS hl)
theorem g_iload_n (S : CallFix p m c cc nL s args Ts own) {i : Fin 4} {x : Int32} (hdg : decode cc pc = .ok (.iload_n i, 1)) (hl : lv[(i : Nat)]? = some (some (.int x)))
    (kk : gW p l e R s m args below meth c A Q nL P k n (pc + 1) lv (.int x :: st)) : gW p l e R s m args below meth c A Q nL P k n pc lv st := fun H locs ls hP hS hL => lv_iload_n S.1 S.2.1 hdg rfl (gl_at hL hl) (kk H locs ls hP hS hL)
theorem g_iload (S : CallFix p m c cc nL s args Ts own) {i : Nat} {x : Int32} (hdg : decode cc pc = .ok (.iload i, 2)) (hl : lv[i]? = some (some (.int x)))
    (kk : gW p l e R s m args below meth c A Q nL P k n (pc + 2) lv (.int x :: st)) : gW p l e R s m args below meth c A Q nL P k n pc lv st := fun H locs ls hP hS hL => lv_iload S.1 S.2.1 hdg (gl_at hL hl) (kk H locs ls hP hS hL)
theorem g_lload_n (S : CallFix p m c cc nL s args Ts own) {i : Fin 4} {x : Int64} (hdg : decode cc pc = .ok (.lload_n i, 1)) (hl : lv[(i : Nat)]? = some (some (.long x)))
    (kk : gW p l e R s m args below meth c A Q nL P k n (pc + 1) lv (.long x :: st)) : gW p l e R s m args below meth c A Q nL P k n pc lv st := fun H locs ls hP hS hL => lv_lload_n S.1 S.2.1 hdg rfl (gl_at hL hl) (kk H locs ls hP hS hL)
theorem g_lload (S : CallFix p m c cc nL s args Ts own) {i : Nat} {x : Int64} (hdg : decode cc pc = .ok (.lload i, 2)) (hl : lv[i]? = some (some (.long x)))
    (kk : gW p l e R s m args below meth c A Q nL P k n (pc + 2) lv (.long x :: st)) : gW p l e R s m args below meth c A Q nL P k n pc lv st := fun H locs ls hP hS hL => lv_lload S.1 S.2.1 hdg (gl_at hL hl) (kk H locs ls hP hS hL)
theorem g_aload_n (S : CallFix p m c cc nL s args Ts own) {i : Fin 4} {x : Nat} (hdg : decode cc pc = .ok (.aload_n i, 1)) (hl : lv[(i : Nat)]? = some (some (.ref x)))
    (kk : gW p l e R s m args below meth c A Q nL P k n (pc + 1) lv (.ref x :: st)) : gW p l e R s m args below meth c A Q nL P k n pc lv st := fun H locs ls hP hS hL => lv_aload_n S.1 S.2.1 hdg rfl (gl_at hL hl) (kk H locs ls hP hS hL)
theorem g_aload (S : CallFix p m c cc nL s args Ts own) {i : Nat} {x : Nat} (hdg : decode cc pc = .ok (.aload i, 2)) (hl : lv[i]? = some (some (.ref x)))
    (kk : gW p l e R s m args below meth c A Q nL P k n (pc + 2) lv (.ref x :: st)) : gW p l e R s m args below meth c A Q nL P k n pc lv st := fun H locs ls hP hS hL => lv_aload S.1 S.2.1 hdg (gl_at hL hl) (kk H locs ls hP hS hL)
theorem g_aload_nN (S : CallFix p m c cc nL s args Ts own) {i : Fin 4} (hdg : decode cc pc = .ok (.aload_n i, 1)) (hl : lv[(i : Nat)]? = some (some .null))
    (kk : gW p l e R s m args below meth c A Q nL P k n (pc + 1) lv (.null :: st)) : gW p l e R s m args below meth c A Q nL P k n pc lv st := fun H locs ls hP hS hL => lv_aload_nN S.1 S.2.1 hdg rfl (gl_at hL hl) (kk H locs ls hP hS hL)
theorem g_aloadN (S : CallFix p m c cc nL s args Ts own) {i : Nat} (hdg : decode cc pc = .ok (.aload i, 2)) (hl : lv[i]? = some (some .null))
    (kk : gW p l e R s m args below meth c A Q nL P k n (pc + 2) lv (.null :: st)) : gW p l e R s m args below meth c A Q nL P k n pc lv st := fun H locs ls hP hS hL => lv_aloadN S.1 S.2.1 hdg (gl_at hL hl) (kk H locs ls hP hS hL)
theorem g_istore_n (S : CallFix p m c cc nL s args Ts own) {i : Fin 4} {x : Int32} (hdg : decode cc pc = .ok (.istore_n i, 1)) (hi : (i : Nat) < nL) (hok : gl_ok lv (i : Nat) = true)
    (kk : gW p l e R s m args below meth c A Q nL P k n (pc + 1) (lv.set (i : Nat) (some (.int x))) st) : gW p l e R s m args below meth c A Q nL P k n pc lv (.int x :: st) := fun H locs ls hP hS hL => lv_istore_n S.1 S.2.1 hdg rfl hL.2 hi rfl (fun ls' h' => kk H locs ls' hP hS (gl_set1 hL hi hok h'))
theorem g_istore (S : CallFix p m c cc nL s args Ts own) {i : Nat} {x : Int32} (hdg : decode cc pc = .ok (.istore i, 2)) (hi : i < nL) (hok : gl_ok lv i = true)
    (kk : gW p l e R s m args below meth c A Q nL P k n (pc + 2) (lv.set i (some (.int x))) st) : gW p l e R s m args below meth c A Q nL P k n pc lv (.int x :: st) := fun H locs ls hP hS hL => lv_istore S.1 S.2.1 hdg hL.2 hi rfl (fun ls' h' => kk H locs ls' hP hS (gl_set1 hL hi hok h'))
theorem g_astore_n (S : CallFix p m c cc nL s args Ts own) {i : Fin 4} {x : Nat} (hdg : decode cc pc = .ok (.astore_n i, 1)) (hi : (i : Nat) < nL) (hok : gl_ok lv (i : Nat) = true)
    (kk : gW p l e R s m args below meth c A Q nL P k n (pc + 1) (lv.set (i : Nat) (some (.ref x))) st) : gW p l e R s m args below meth c A Q nL P k n pc lv (.ref x :: st) := fun H locs ls hP hS hL => lv_astore_n S.1 S.2.1 hdg rfl hL.2 hi rfl (fun ls' h' => kk H locs ls' hP hS (gl_set1 hL hi hok h'))
theorem g_astore (S : CallFix p m c cc nL s args Ts own) {i : Nat} {x : Nat} (hdg : decode cc pc = .ok (.astore i, 2)) (hi : i < nL) (hok : gl_ok lv i = true)
    (kk : gW p l e R s m args below meth c A Q nL P k n (pc + 2) (lv.set i (some (.ref x))) st) : gW p l e R s m args below meth c A Q nL P k n pc lv (.ref x :: st) := fun H locs ls hP hS hL => lv_astore S.1 S.2.1 hdg hL.2 hi rfl (fun ls' h' => kk H locs ls' hP hS (gl_set1 hL hi hok h'))
theorem g_astore_nN (S : CallFix p m c cc nL s args Ts own) {i : Fin 4} (hdg : decode cc pc = .ok (.astore_n i, 1)) (hi : (i : Nat) < nL) (hok : gl_ok lv (i : Nat) = true)
    (kk : gW p l e R s m args below meth c A Q nL P k n (pc + 1) (lv.set (i : Nat) (some .null)) st) : gW p l e R s m args below meth c A Q nL P k n pc lv (.null :: st) := fun H locs ls hP hS hL => lv_astore_nN S.1 S.2.1 hdg rfl hL.2 hi rfl (fun ls' h' => kk H locs ls' hP hS (gl_set1 hL hi hok h'))
theorem g_astoreN (S : CallFix p m c cc nL s args Ts own) {i : Nat} (hdg : decode cc pc = .ok (.astore i, 2)) (hi : i < nL) (hok : gl_ok lv i = true)
    (kk : gW p l e R s m args below meth c A Q nL P k n (pc + 2) (lv.set i (some .null)) st) : gW p l e R s m args below meth c A Q nL P k n pc lv (.null :: st) := fun H locs ls hP hS hL => lv_astoreN S.1 S.2.1 hdg hL.2 hi rfl (fun ls' h' => kk H locs ls' hP hS (gl_set1 hL hi hok h'))
theorem g_lstore_n (S : CallFix p m c cc nL s args Ts own) {i : Fin 4} {x : Int64} (hdg : decode cc pc = .ok (.lstore_n i, 1)) (hi : (i : Nat) + 1 < nL) (hok : gl_ok lv (i : Nat) = true)
    (kk : gW p l e R s m args below meth c A Q nL P k n (pc + 1) ((lv.set (i : Nat) (some (.long x))).set ((i : Nat) + 1) none) st) : gW p l e R s m args below meth c A Q nL P k n pc lv (.long x :: st) := fun H locs ls hP hS hL => lv_lstore_n S.1 S.2.1 hdg rfl hL.2 hi rfl (fun ls' h' => kk H locs ls' hP hS (gl_set2 hL hi hok h'))
theorem g_lstore (S : CallFix p m c cc nL s args Ts own) {i : Nat} {x : Int64} (hdg : decode cc pc = .ok (.lstore i, 2)) (hi : i + 1 < nL) (hok : gl_ok lv i = true)
    (kk : gW p l e R s m args below meth c A Q nL P k n (pc + 2) ((lv.set i (some (.long x))).set (i + 1) none) st) : gW p l e R s m args below meth c A Q nL P k n pc lv (.long x :: st) := fun H locs ls hP hS hL => lv_lstore S.1 S.2.1 hdg hL.2 hi rfl (fun ls' h' => kk H locs ls' hP hS (gl_set2 hL hi hok h'))
theorem gl_pr_idx {lv : List (Option Value)} {i : Nat} {v : Value} (h : lv[i]? = some (some v)) : ∃ j : Nat, (gl_pr 0 lv)[j]? = some (i, v) := by
  have := gl_pr_get lv 0 i v h
  rw [Nat.zero_add] at this
  exact List.getElem?_of_mem this
theorem g_iinc (S : CallFix p m c cc nL s args Ts own) {i : Nat} {z : Int} {x v : Int32} (hdg : decode cc pc = .ok (.iinc i z, 3)) (hl : lv[i]? = some (some (.int x))) (hv : x + Int32.ofInt z = v) (hi : i < nL) (hok : gl_ok lv i = true)
    (kk : gW p l e R s m args below meth c A Q nL P k n (pc + 3) (lv.set i (some (.int v))) st) : gW p l e R s m args below meth c A Q nL P k n pc lv st := by
  obtain ⟨j, hj⟩ := gl_pr_idx hl
  exact fun H locs ls hP hS hL => lv_iinc S.1 S.2.1 hdg hL.2 hj hv hi rfl (fun ls' h' => kk H locs ls' hP hS (gl_set1 hL hi hok h'))
theorem g_iadd (S : CallFix p m c cc nL s args Ts own) {x y : Int32} (hdg : decode cc pc = .ok (.iadd, 1))
    (kk : gW p l e R s m args below meth c A Q nL P k n (pc + 1) lv (.int (x + y) :: st)) : gW p l e R s m args below meth c A Q nL P k n pc lv (.int y :: .int x :: st) := fun H locs ls hP hS hl => lv_iadd S.1 S.2.1 hdg (kk H locs ls hP hS hl)
theorem g_isub (S : CallFix p m c cc nL s args Ts own) {x y : Int32} (hdg : decode cc pc = .ok (.isub, 1))
    (kk : gW p l e R s m args below meth c A Q nL P k n (pc + 1) lv (.int (x - y) :: st)) : gW p l e R s m args below meth c A Q nL P k n pc lv (.int y :: .int x :: st) := fun H locs ls hP hS hl => lv_isub S.1 S.2.1 hdg (kk H locs ls hP hS hl)
theorem g_imul (S : CallFix p m c cc nL s args Ts own) {x y : Int32} (hdg : decode cc pc = .ok (.imul, 1))
    (kk : gW p l e R s m args below meth c A Q nL P k n (pc + 1) lv (.int (x * y) :: st)) : gW p l e R s m args below meth c A Q nL P k n pc lv (.int y :: .int x :: st) := fun H locs ls hP hS hl => lv_imul S.1 S.2.1 hdg (kk H locs ls hP hS hl)
theorem g_iand (S : CallFix p m c cc nL s args Ts own) {x y : Int32} (hdg : decode cc pc = .ok (.iand, 1))
    (kk : gW p l e R s m args below meth c A Q nL P k n (pc + 1) lv (.int (x &&& y) :: st)) : gW p l e R s m args below meth c A Q nL P k n pc lv (.int y :: .int x :: st) := fun H locs ls hP hS hl => lv_iand S.1 S.2.1 hdg (kk H locs ls hP hS hl)
theorem g_idiv (S : CallFix p m c cc nL s args Ts own) {x y : Int32} (hdg : decode cc pc = .ok (.idiv, 1)) (hne : ¬ y = 0)
    (kk : gW p l e R s m args below meth c A Q nL P k n (pc + 1) lv (.int (x / y) :: st)) : gW p l e R s m args below meth c A Q nL P k n pc lv (.int y :: .int x :: st) := fun H locs ls hP hS hl => lv_idiv S.1 S.2.1 hdg hne (kk H locs ls hP hS hl)
theorem g_ineg (S : CallFix p m c cc nL s args Ts own) {x : Int32} (hdg : decode cc pc = .ok (.ineg, 1))
    (kk : gW p l e R s m args below meth c A Q nL P k n (pc + 1) lv (.int (-x) :: st)) : gW p l e R s m args below meth c A Q nL P k n pc lv (.int x :: st) := fun H locs ls hP hS hl => lv_ineg S.1 S.2.1 hdg (kk H locs ls hP hS hl)
theorem g_ladd (S : CallFix p m c cc nL s args Ts own) {x y : Int64} (hdg : decode cc pc = .ok (.ladd, 1))
    (kk : gW p l e R s m args below meth c A Q nL P k n (pc + 1) lv (.long (x + y) :: st)) : gW p l e R s m args below meth c A Q nL P k n pc lv (.long y :: .long x :: st) := fun H locs ls hP hS hl => lv_ladd S.1 S.2.1 hdg (kk H locs ls hP hS hl)
theorem g_lsub (S : CallFix p m c cc nL s args Ts own) {x y : Int64} (hdg : decode cc pc = .ok (.lsub, 1))
    (kk : gW p l e R s m args below meth c A Q nL P k n (pc + 1) lv (.long (x - y) :: st)) : gW p l e R s m args below meth c A Q nL P k n pc lv (.long y :: .long x :: st) := fun H locs ls hP hS hl => lv_lsub S.1 S.2.1 hdg (kk H locs ls hP hS hl)
theorem g_lmul (S : CallFix p m c cc nL s args Ts own) {x y : Int64} (hdg : decode cc pc = .ok (.lmul, 1))
    (kk : gW p l e R s m args below meth c A Q nL P k n (pc + 1) lv (.long (x * y) :: st)) : gW p l e R s m args below meth c A Q nL P k n pc lv (.long y :: .long x :: st) := fun H locs ls hP hS hl => lv_lmul S.1 S.2.1 hdg (kk H locs ls hP hS hl)
theorem g_ldiv (S : CallFix p m c cc nL s args Ts own) {x y : Int64} (hdg : decode cc pc = .ok (.ldiv, 1)) (hne : ¬ y = 0)
    (kk : gW p l e R s m args below meth c A Q nL P k n (pc + 1) lv (.long (x / y) :: st)) : gW p l e R s m args below meth c A Q nL P k n pc lv (.long y :: .long x :: st) := fun H locs ls hP hS hl => lv_ldiv S.1 S.2.1 hdg hne (kk H locs ls hP hS hl)
theorem g_lrem (S : CallFix p m c cc nL s args Ts own) {x y : Int64} (hdg : decode cc pc = .ok (.lrem, 1)) (hne : ¬ y = 0)
    (kk : gW p l e R s m args below meth c A Q nL P k n (pc + 1) lv (.long (x - x / y * y) :: st)) : gW p l e R s m args below meth c A Q nL P k n pc lv (.long y :: .long x :: st) := fun H locs ls hP hS hl => lv_lrem S.1 S.2.1 hdg hne (kk H locs ls hP hS hl)
theorem g_i2l (S : CallFix p m c cc nL s args Ts own) {x : Int32} (hdg : decode cc pc = .ok (.i2l, 1))
    (kk : gW p l e R s m args below meth c A Q nL P k n (pc + 1) lv (.long x.toInt64 :: st)) : gW p l e R s m args below meth c A Q nL P k n pc lv (.int x :: st) := fun H locs ls hP hS hl => lv_i2l S.1 S.2.1 hdg rfl (kk H locs ls hP hS hl)
theorem g_l2i (S : CallFix p m c cc nL s args Ts own) {x : Int64} (hdg : decode cc pc = .ok (.l2i, 1))
    (kk : gW p l e R s m args below meth c A Q nL P k n (pc + 1) lv (.int x.toInt32 :: st)) : gW p l e R s m args below meth c A Q nL P k n pc lv (.long x :: st) := fun H locs ls hP hS hl => lv_l2i S.1 S.2.1 hdg rfl (kk H locs ls hP hS hl)
theorem g_lcmp (S : CallFix p m c cc nL s args Ts own) {x y : Int64} (hdg : decode cc pc = .ok (.lcmp, 1))
    (kk : gW p l e R s m args below meth c A Q nL P k n (pc + 1) lv (.int (lg_cmp x y) :: st)) : gW p l e R s m args below meth c A Q nL P k n pc lv (.long y :: .long x :: st) := fun H locs ls hP hS hl => W.lcmp S.1 S.2.1 hdg (kk H locs ls hP hS hl)
theorem g_dup (S : CallFix p m c cc nL s args Ts own) {va : Value} (hdg : decode cc pc = .ok (.dup, 1)) (hva : va.category = 1)
    (kk : gW p l e R s m args below meth c A Q nL P k n (pc + 1) lv (va :: va :: st)) : gW p l e R s m args below meth c A Q nL P k n pc lv (va :: st) := fun H locs ls hP hS hl => lv_dup S.1 S.2.1 hdg hva (kk H locs ls hP hS hl)
theorem g_pop (S : CallFix p m c cc nL s args Ts own) {va : Value} (hdg : decode cc pc = .ok (.pop, 1)) (hva : va.category = 1)
    (kk : gW p l e R s m args below meth c A Q nL P k n (pc + 1) lv st) : gW p l e R s m args below meth c A Q nL P k n pc lv (va :: st) := fun H locs ls hP hS hl => lv_pop S.1 S.2.1 hdg hva (kk H locs ls hP hS hl)
theorem g_dup_x1 (S : CallFix p m c cc nL s args Ts own) {va vb : Value} (hdg : decode cc pc = .ok (.dup_x1, 1)) (hva : va.category = 1) (hvb : vb.category = 1)
    (kk : gW p l e R s m args below meth c A Q nL P k n (pc + 1) lv (va :: vb :: va :: st)) : gW p l e R s m args below meth c A Q nL P k n pc lv (va :: vb :: st) := fun H locs ls hP hS hl => lv_dup_x1 S.1 S.2.1 hdg hva hvb (kk H locs ls hP hS hl)
theorem g_dup2_11 (S : CallFix p m c cc nL s args Ts own) {va vb : Value} (hdg : decode cc pc = .ok (.dup2, 1)) (hva : va.category = 1) (hvb : vb.category = 1)
    (kk : gW p l e R s m args below meth c A Q nL P k n (pc + 1) lv (va :: vb :: va :: vb :: st)) : gW p l e R s m args below meth c A Q nL P k n pc lv (va :: vb :: st) := fun H locs ls hP hS hl => lv_dup2_11 S.1 S.2.1 hdg hva hvb (kk H locs ls hP hS hl)
theorem g_null (S : CallFix p m c cc nL s args Ts own) (hdg : decode cc pc = .ok (.aconst_null, 1))
    (kk : gW p l e R s m args below meth c A Q nL P k n (pc + 1) lv (.null :: st)) : gW p l e R s m args below meth c A Q nL P k n pc lv st := fun H locs ls hP hS hl => lv_null S.1 S.2.1 hdg (kk H locs ls hP hS hl)
theorem g_ldc (S : CallFix p m c cc nL s args Ts own) {index : Nat} {v : Int32} (hconst : (Jvm.Cond.constant own index v).before args s = true) (hdg : decode cc pc = .ok (.ldc index, 2))
    (kk : gW p l e R s m args below meth c A Q nL P k n (pc + 2) lv (.int v :: st)) : gW p l e R s m args below meth c A Q nL P k n pc lv st := fun H locs ls hP hS hl => lv_ldc S.1 S.2.1 S.2.2.2.1 hconst hdg (kk H locs ls hP hS hl)
theorem g_ldcw (S : CallFix p m c cc nL s args Ts own) {index : Nat} {v : Int32} (hconst : (Jvm.Cond.constant own index v).before args s = true) (hdg : decode cc pc = .ok (.ldc_w index, 3))
    (kk : gW p l e R s m args below meth c A Q nL P k n (pc + 3) lv (.int v :: st)) : gW p l e R s m args below meth c A Q nL P k n pc lv st := fun H locs ls hP hS hl => lv_ldcw S.1 S.2.1 S.2.2.2.1 hconst hdg (kk H locs ls hP hS hl)
theorem g_ldc2 (S : CallFix p m c cc nL s args Ts own) {index : Nat} {v : Int64} (hconst : (Jvm.Cond.constantLong own index v).before args s = true) (hdg : decode cc pc = .ok (.ldc2_w index, 3))
    (kk : gW p l e R s m args below meth c A Q nL P k n (pc + 3) lv (.long v :: st)) : gW p l e R s m args below meth c A Q nL P k n pc lv st := fun H locs ls hP hS hl => lv_ldc2 S.1 S.2.1 S.2.2.2.1 hconst hdg (kk H locs ls hP hS hl)
theorem g_goto (S : CallFix p m c cc nL s args Ts own) {off : Int} {tgt : Nat} (hdg : decode cc pc = .ok (.goto off, 3)) (ht : (pc : Int) + off = (tgt : Int))
    (kk : gW p l e R s m args below meth c A Q nL P k n tgt lv st) : gW p l e R s m args below meth c A Q nL P k n pc lv st := fun H locs ls hP hS hl => lv_goto S.1 S.2.1 hdg ht (kk H locs ls hP hS hl)
theorem g_if_eq (S : CallFix p m c cc nL s args Ts own) {x : Int32} {off : Int} {tgt : Nat} (hdg : decode cc pc = .ok (.ifCond .eq off, 3)) (ht : (pc : Int) + off = (tgt : Int))
    (kt : x = 0 → gW p l e R s m args below meth c A Q nL P k n tgt lv st) (kf : ¬ x = 0 → gW p l e R s m args below meth c A Q nL P k n (pc + 3) lv st) : gW p l e R s m args below meth c A Q nL P k n pc lv (.int x :: st) := fun H locs ls hP hS hl => lv_if_eq S.1 S.2.1 hdg ht (fun z => kt z H locs ls hP hS hl) (fun z => kf z H locs ls hP hS hl)
theorem g_icmp_eq (S : CallFix p m c cc nL s args Ts own) {x y : Int32} {off : Int} {tgt : Nat} (hdg : decode cc pc = .ok (.if_icmp .eq off, 3)) (ht : (pc : Int) + off = (tgt : Int))
    (kt : x = y → gW p l e R s m args below meth c A Q nL P k n tgt lv st) (kf : ¬ x = y → gW p l e R s m args below meth c A Q nL P k n (pc + 3) lv st) : gW p l e R s m args below meth c A Q nL P k n pc lv (.int y :: .int x :: st) := fun H locs ls hP hS hl => lv_icmp_eq S.1 S.2.1 hdg ht (fun z => kt z H locs ls hP hS hl) (fun z => kf z H locs ls hP hS hl)
theorem g_if_ne (S : CallFix p m c cc nL s args Ts own) {x : Int32} {off : Int} {tgt : Nat} (hdg : decode cc pc = .ok (.ifCond .ne off, 3)) (ht : (pc : Int) + off = (tgt : Int))
    (kt : ¬ x = 0 → gW p l e R s m args below meth c A Q nL P k n tgt lv st) (kf : x = 0 → gW p l e R s m args below meth c A Q nL P k n (pc + 3) lv st) : gW p l e R s m args below meth c A Q nL P k n pc lv (.int x :: st) := fun H locs ls hP hS hl => lv_if_ne S.1 S.2.1 hdg ht (fun z => kt z H locs ls hP hS hl) (fun z => kf z H locs ls hP hS hl)
theorem g_icmp_ne (S : CallFix p m c cc nL s args Ts own) {x y : Int32} {off : Int} {tgt : Nat} (hdg : decode cc pc = .ok (.if_icmp .ne off, 3)) (ht : (pc : Int) + off = (tgt : Int))
    (kt : ¬ x = y → gW p l e R s m args below meth c A Q nL P k n tgt lv st) (kf : x = y → gW p l e R s m args below meth c A Q nL P k n (pc + 3) lv st) : gW p l e R s m args below meth c A Q nL P k n pc lv (.int y :: .int x :: st) := fun H locs ls hP hS hl => lv_icmp_ne S.1 S.2.1 hdg ht (fun z => kt z H locs ls hP hS hl) (fun z => kf z H locs ls hP hS hl)
theorem g_if_lt (S : CallFix p m c cc nL s args Ts own) {x : Int32} {off : Int} {tgt : Nat} (hdg : decode cc pc = .ok (.ifCond .lt off, 3)) (ht : (pc : Int) + off = (tgt : Int))
    (kt : x < 0 → gW p l e R s m args below meth c A Q nL P k n tgt lv st) (kf : ¬ x < 0 → gW p l e R s m args below meth c A Q nL P k n (pc + 3) lv st) : gW p l e R s m args below meth c A Q nL P k n pc lv (.int x :: st) := fun H locs ls hP hS hl => lv_if_lt S.1 S.2.1 hdg ht (fun z => kt z H locs ls hP hS hl) (fun z => kf z H locs ls hP hS hl)
theorem g_icmp_lt (S : CallFix p m c cc nL s args Ts own) {x y : Int32} {off : Int} {tgt : Nat} (hdg : decode cc pc = .ok (.if_icmp .lt off, 3)) (ht : (pc : Int) + off = (tgt : Int))
    (kt : x < y → gW p l e R s m args below meth c A Q nL P k n tgt lv st) (kf : ¬ x < y → gW p l e R s m args below meth c A Q nL P k n (pc + 3) lv st) : gW p l e R s m args below meth c A Q nL P k n pc lv (.int y :: .int x :: st) := fun H locs ls hP hS hl => lv_icmp_lt S.1 S.2.1 hdg ht (fun z => kt z H locs ls hP hS hl) (fun z => kf z H locs ls hP hS hl)
theorem g_if_ge (S : CallFix p m c cc nL s args Ts own) {x : Int32} {off : Int} {tgt : Nat} (hdg : decode cc pc = .ok (.ifCond .ge off, 3)) (ht : (pc : Int) + off = (tgt : Int))
    (kt : 0 ≤ x → gW p l e R s m args below meth c A Q nL P k n tgt lv st) (kf : ¬ 0 ≤ x → gW p l e R s m args below meth c A Q nL P k n (pc + 3) lv st) : gW p l e R s m args below meth c A Q nL P k n pc lv (.int x :: st) := fun H locs ls hP hS hl => lv_if_ge S.1 S.2.1 hdg ht (fun z => kt z H locs ls hP hS hl) (fun z => kf z H locs ls hP hS hl)
theorem g_icmp_ge (S : CallFix p m c cc nL s args Ts own) {x y : Int32} {off : Int} {tgt : Nat} (hdg : decode cc pc = .ok (.if_icmp .ge off, 3)) (ht : (pc : Int) + off = (tgt : Int))
    (kt : y ≤ x → gW p l e R s m args below meth c A Q nL P k n tgt lv st) (kf : ¬ y ≤ x → gW p l e R s m args below meth c A Q nL P k n (pc + 3) lv st) : gW p l e R s m args below meth c A Q nL P k n pc lv (.int y :: .int x :: st) := fun H locs ls hP hS hl => lv_icmp_ge S.1 S.2.1 hdg ht (fun z => kt z H locs ls hP hS hl) (fun z => kf z H locs ls hP hS hl)
theorem g_if_gt (S : CallFix p m c cc nL s args Ts own) {x : Int32} {off : Int} {tgt : Nat} (hdg : decode cc pc = .ok (.ifCond .gt off, 3)) (ht : (pc : Int) + off = (tgt : Int))
    (kt : 0 < x → gW p l e R s m args below meth c A Q nL P k n tgt lv st) (kf : ¬ 0 < x → gW p l e R s m args below meth c A Q nL P k n (pc + 3) lv st) : gW p l e R s m args below meth c A Q nL P k n pc lv (.int x :: st) := fun H locs ls hP hS hl => lv_if_gt S.1 S.2.1 hdg ht (fun z => kt z H locs ls hP hS hl) (fun z => kf z H locs ls hP hS hl)
theorem g_icmp_gt (S : CallFix p m c cc nL s args Ts own) {x y : Int32} {off : Int} {tgt : Nat} (hdg : decode cc pc = .ok (.if_icmp .gt off, 3)) (ht : (pc : Int) + off = (tgt : Int))
    (kt : y < x → gW p l e R s m args below meth c A Q nL P k n tgt lv st) (kf : ¬ y < x → gW p l e R s m args below meth c A Q nL P k n (pc + 3) lv st) : gW p l e R s m args below meth c A Q nL P k n pc lv (.int y :: .int x :: st) := fun H locs ls hP hS hl => lv_icmp_gt S.1 S.2.1 hdg ht (fun z => kt z H locs ls hP hS hl) (fun z => kf z H locs ls hP hS hl)
theorem g_if_le (S : CallFix p m c cc nL s args Ts own) {x : Int32} {off : Int} {tgt : Nat} (hdg : decode cc pc = .ok (.ifCond .le off, 3)) (ht : (pc : Int) + off = (tgt : Int))
    (kt : x ≤ 0 → gW p l e R s m args below meth c A Q nL P k n tgt lv st) (kf : ¬ x ≤ 0 → gW p l e R s m args below meth c A Q nL P k n (pc + 3) lv st) : gW p l e R s m args below meth c A Q nL P k n pc lv (.int x :: st) := fun H locs ls hP hS hl => lv_if_le S.1 S.2.1 hdg ht (fun z => kt z H locs ls hP hS hl) (fun z => kf z H locs ls hP hS hl)
theorem g_icmp_le (S : CallFix p m c cc nL s args Ts own) {x y : Int32} {off : Int} {tgt : Nat} (hdg : decode cc pc = .ok (.if_icmp .le off, 3)) (ht : (pc : Int) + off = (tgt : Int))
    (kt : x ≤ y → gW p l e R s m args below meth c A Q nL P k n tgt lv st) (kf : ¬ x ≤ y → gW p l e R s m args below meth c A Q nL P k n (pc + 3) lv st) : gW p l e R s m args below meth c A Q nL P k n pc lv (.int y :: .int x :: st) := fun H locs ls hP hS hl => lv_icmp_le S.1 S.2.1 hdg ht (fun z => kt z H locs ls hP hS hl) (fun z => kf z H locs ls hP hS hl)
theorem g_acmp_eq (S : CallFix p m c cc nL s args Ts own) {a b : Nat} {off : Int} {tgt : Nat} (hdg : decode cc pc = .ok (.if_acmp .eq off, 3)) (ht : (pc : Int) + off = (tgt : Int))
    (kt : a = b → gW p l e R s m args below meth c A Q nL P k n tgt lv st) (kf : ¬ a = b → gW p l e R s m args below meth c A Q nL P k n (pc + 3) lv st) : gW p l e R s m args below meth c A Q nL P k n pc lv (.ref b :: .ref a :: st) := fun H locs ls hP hS hl => lv_acmp_eq (rx := some a) (ry := some b) S.1 S.2.1 hdg ht (fun z => kt (Option.some.inj z) H locs ls hP hS hl) (fun z => kf (fun q => z (congrArg some q)) H locs ls hP hS hl)
theorem g_acmp_ne (S : CallFix p m c cc nL s args Ts own) {a b : Nat} {off : Int} {tgt : Nat} (hdg : decode cc pc = .ok (.if_acmp .ne off, 3)) (ht : (pc : Int) + off = (tgt : Int))
    (kt : ¬ a = b → gW p l e R s m args below meth c A Q nL P k n tgt lv st) (kf : a = b → gW p l e R s m args below meth c A Q nL P k n (pc + 3) lv st) : gW p l e R s m args below meth c A Q nL P k n pc lv (.ref b :: .ref a :: st) := fun H locs ls hP hS hl => lv_acmp_ne (rx := some a) (ry := some b) S.1 S.2.1 hdg ht (fun z => kt (fun q => z (congrArg some q)) H locs ls hP hS hl) (fun z => kf (Option.some.inj z) H locs ls hP hS hl)
theorem g_ifnonnull (S : CallFix p m c cc nL s args Ts own) {a : Nat} {off : Int} {tgt : Nat} (hdg : decode cc pc = .ok (.ifnonnull off, 3)) (ht : (pc : Int) + off = (tgt : Int)) (kk : gW p l e R s m args below meth c A Q nL P k n tgt lv st) : gW p l e R s m args below meth c A Q nL P k n pc lv (.ref a :: st) := fun H locs ls hP hS hl => lv_ifnonnull S.1 S.2.1 hdg ht (kk H locs ls hP hS hl)
theorem g_ifnonnullN (S : CallFix p m c cc nL s args Ts own) {off : Int} (hdg : decode cc pc = .ok (.ifnonnull off, 3)) (kk : gW p l e R s m args below meth c A Q nL P k n (pc + 3) lv st) : gW p l e R s m args below meth c A Q nL P k n pc lv (.null :: st) := fun H locs ls hP hS hl => lv_ifnonnullN S.1 S.2.1 hdg (kk H locs ls hP hS hl)
theorem g_ifnull (S : CallFix p m c cc nL s args Ts own) {a : Nat} {off : Int} (hdg : decode cc pc = .ok (.ifnull off, 3)) (kk : gW p l e R s m args below meth c A Q nL P k n (pc + 3) lv st) : gW p l e R s m args below meth c A Q nL P k n pc lv (.ref a :: st) := fun H locs ls hP hS hl => lv_ifnull S.1 S.2.1 hdg (kk H locs ls hP hS hl)
theorem g_ifnullN (S : CallFix p m c cc nL s args Ts own) {off : Int} {tgt : Nat} (hdg : decode cc pc = .ok (.ifnull off, 3)) (ht : (pc : Int) + off = (tgt : Int)) (kk : gW p l e R s m args below meth c A Q nL P k n tgt lv st) : gW p l e R s m args below meth c A Q nL P k n pc lv (.null :: st) := fun H locs ls hP hS hl => lv_ifnullN S.1 S.2.1 hdg ht (kk H locs ls hP hS hl)
theorem g_widen {k' n' : Nat} (h1 : k ≤ k') (h2 : n ≤ n') (kk : gW p l e R s m args below meth c A Q nL P k' n' pc lv st) : gW p l e R s m args below meth c A Q nL P k n pc lv st := fun H locs ls hP hS hl => W.widen h1 h2 (kk H locs ls hP hS hl)
theorem g_P {P' : Heap → Prop} (h : ∀ H, P H → P' H) (kk : gW p l e R s m args below meth c A Q nL P' k n pc lv st) : gW p l e R s m args below meth c A Q nL P k n pc lv st := fun H locs ls hP hS hl => kk H locs ls (h H hP) hS hl
theorem g_ex {α : Sort _} {P' : α → Heap → Prop} (h : ∀ H, P H → ∃ a, P' a H) (kk : ∀ a, gW p l e R s m args below meth c A Q nL (P' a) k n pc lv st) : gW p l e R s m args below meth c A Q nL P k n pc lv st := fun H locs ls hP hS hl => (h H hP).elim fun a ha => kk a H locs ls ha hS hl
theorem g_and {b : Prop} {P' : Heap → Prop} (h : ∀ H, P H → b ∧ P' H) (kk : b → gW p l e R s m args below meth c A Q nL P' k n pc lv st) : gW p l e R s m args below meth c A Q nL P k n pc lv st := fun H locs ls hP hS hl => kk (h H hP).1 H locs ls (h H hP).2 hS hl
theorem g_lv {lv' : List (Option Value)} (h : lv = lv') (kk : gW p l e R s m args below meth c A Q nL P k n pc lv' st) : gW p l e R s m args below meth c A Q nL P k n pc lv st := h ▸ kk
/-- fewer locals known -/
theorem g_less {lv' : List (Option Value)} (h : lv'.length = lv.length) (hs : ∀ (i : Nat) (v : Value), lv'[i]? = some (some v) → lv[i]? = some (some v)) (kk : gW p l e R s m args below meth c A Q nL P k n pc lv' st) : gW p l e R s m args below meth c A Q nL P k n pc lv st := fun H locs ls hP hS hl => kk H locs ls hP hS ⟨h.trans hl.1, hl.2.1, hl.2.2.1, fun q hq => by
  obtain ⟨-, hq2⟩ := gl_pr_mem _ 0 q hq
  rw [Nat.sub_zero] at hq2
  exact gl_at hl (hs _ _ hq2)⟩
theorem g_st {st' : List Value} (h : st = st') (kk : gW p l e R s m args below meth c A Q nL P k n pc lv st') : gW p l e R s m args below meth c A Q nL P k n pc lv st := h ▸ kk
def gtys (ty : Nat → ClassId) : List (ClassId × FieldType) := [(ty 0, .int), (ty 1, .long), (ty 2, .boolean), (ty 3, .object "java/lang/Object")]
/-- what the machine's statics and constants are, for the class that makes and throws; nothing for one that doesn't -/
def gE (b : Bool) (strs : List (Nat × String)) (A : Nat → Prop) (tE : Nat) (U : State) (H : Heap) : Prop := b = true →
  vx_Zq Bundle.tN "UNASSIGNED_STACK" Bundle.steD A U H ∧ vx_Zq Bundle.tN "SUPPRESSED_SENTINEL" Bundle.listD A U H ∧ (∀ q ∈ strs, ∃ sa, vk_R RX5 q.1 q.2 sa U) ∧ (∀ q, H.size ≤ q → A q) ∧
  va_Z "java/util/ArrayList" "DEFAULTCAPACITY_EMPTY_ELEMENTDATA" "[Ljava/lang/Object;" (.ref tE) A U H ∧ va_T (.object "java/lang/Object") tE 0 (fun _ => .null) A U H ∧ (∃ mi, va_Mi "[Ljava/lang/Object;" mi U) ∧ va_Dc U ∧ va_AO "java/lang/Object" U
theorem gE.moved {b : Bool} {strs : List (Nat × String)} {A : Nat → Prop} {tE : Nat} {s U : State} {H H1 : Heap} (h : gE b strs A tE s H) (hW : s.WarmedH U.vm) (hz : H.size ≤ H1.size) (hq : ∀ a : Nat, a < H.size → ¬ A a → H1[a]? = H[a]?) : gE b strs A tE U H1 := by
  intro hb
  obtain ⟨h1, h2, h3, h4, h5, h6, ⟨mi, h7⟩, h8, h9⟩ := h hb
  exact ⟨vx_Zq.moved hW.alike (h1.kept hq), vx_Zq.moved hW.alike (h2.kept hq), fun q hq9 => (h3 q hq9).elim fun sa z => ⟨sa, vk_R.warm hW z⟩, fun q z => h4 q (Nat.le_trans hz z), va_Z.moved hW.alike (h5.kept hq), va_T.moved hW.alike (h6.kept hq), ⟨mi, h7.moved hW.alike⟩, h8.moved hW.alike, h9.moved hW.alike⟩
def gK (D : va_G) (ty : Nat → ClassId) (U : State) : Prop := va_K D vwCl (gtys ty) U ∧ ∀ (ci : Nat) (q : vw_C), vwCl[ci]? = some q → ∀ w ∈ u_ws q.1 q.2.1 q.2.2, ∀ a : Array Value, w.before a U = true
theorem u_lay_ok {C : String} {T : u_T} {N : Nat} {w : Cond} (h : w ∈ u_ws C T N) : (w.onTables && w.keeps) = true := by
  obtain ⟨k, -, rfl⟩ := List.mem_map.mp h
  unfold u_lay
  split <;> rfl
theorem gK.moved {D : va_G} {ty : Nat → ClassId} {s U : State} (hW : s.WarmedH U.vm) (h : gK D ty s) : gK D ty U := ⟨va_K.moved hW.alike h.1, fun ci q hq w hw a => word_at (args := a) hW (Or.inl (u_lay_ok hw)) (h.2 ci q hq w hw a)⟩
def gPc (D : va_G) (ty : Nat → ClassId) (b : Bool) (strs : List (Nat × String)) (tE : Nat) (A : Nat → Prop) (av : List Value) (P : Heap → Prop) : Array Value → State → Prop := fun v U => v = av.toArray ∧ P U.heap ∧ gK D ty U ∧ gE b strs A tE U U.heap
def gQ (A : Nat → Prop) (Post : Option Value → Heap → Prop) : Array Value → State → Outcome → State → Prop := fun _ st o t => (∃ r, o = .returned r ∧ Post r t.heap) ∧ va_F A st t
def gX (A : Nat → Prop) (PX : String → Heap → Prop) : String → State → State → Prop := fun E st t => PX E t.heap ∧ va_F A st t
theorem gPc_blind {D : va_G} {ty : Nat → ClassId} {b : Bool} {strs : List (Nat × String)} {tE : Nat} {A : Nat → Prop} {av : List Value} {P : Heap → Prop} : FrameBlind (gPc D ty b strs tE A av P) := by
  intro a U g mk q
  obtain ⟨q1, q2, q3, q4⟩ := q
  exact ⟨q1, q2, gK.moved (s := U) (U := U.calling g mk a) (State.WarmedH.refl U) q3, q4.moved (U := U.calling g mk a) (State.WarmedH.refl U) (Nat.le_refl _) (fun _ _ _ => rfl)⟩
theorem g_S {A : Nat → Prop} {s : State} {H : Heap} {locs : List Loc} (hS : va_S A s.heap H locs) : s.heap.size ≤ H.size ∧ ∀ a : Nat, a < s.heap.size → ¬ A a → H[a]? = s.heap[a]? := ⟨hS.1, hS.2.1⟩
theorem gPc_at {D : va_G} {ty : Nat → ClassId} {b : Bool} {strs : List (Nat × String)} {tE : Nat} {A : Nat → Prop} {av : List Value} {P : Heap → Prop} {s : State} {H : Heap} {locs : List Loc} (hK : gK D ty s) (hE : gE b strs A tE s s.heap) (hP : P H) (hS : va_S A s.heap H locs) : ∀ U : State, U.heap = H → s.WarmedH U.vm → gPc D ty b strs tE A av P av.toArray U := by
  intro U hU hW
  refine ⟨rfl, by rw [hU]; exact hP, gK.moved hW hK, ?_⟩
  rw [hU]
  exact hE.moved hW hS.1 hS.2.1
section CALLS
variable {D : va_G} {ty : Nat → ClassId} {b : Bool} {strs : List (Nat × String)} {tE : Nat} {y : MethodName} {bytes : ByteArray} {maxL mc ms na index : Nat} {ret : Option FieldType} {ws : List Cond} {rm : Room} {P1 : Heap → Prop} {Post : Option Value → Heap → Prop} {PX : String → Heap → Prop} {C : String} {b0 : Nat} {As : List Value}
theorem g_call {st0 : List Value} {a : Array Value} (hr : ∀ (H : Heap) (locs : List Loc) (ls : Array Slot), P H → va_S A s.heap H locs → gl_has ls nL lv → va_Run p l e R s m args below meth c H locs k n mc ms (F0 m pc ls st0) st (gQ A Post a) A)
    (kk : ∀ r : Option Value, gW p l e R s m args below meth c A Q nL (Post r) (k + mc) (n + ms) (pc + 3) lv (r.toList ++ st)) : gW p l e R s m args below meth c A Q nL P k n pc lv st0 := by
  intro H locs ls hP hS hl T hT X
  obtain ⟨v, st₀, t, T', L, h0, X', hL, e1, e2, ⟨⟨r, hv, hb⟩, hz, hk⟩, st9⟩ := hr H locs ls hP hS hl T hT X
  cases hv
  rw [h0] at hz hk
  obtain ⟨t2, a1, b1⟩ := kk v T'.heap (locs ++ L) ls (by rw [e1]; exact hb) ⟨Nat.le_trans hS.1 (by rw [e1]; exact hz), fun q h1 h2 => by rw [e1, hk q (Nat.lt_of_lt_of_le h1 hS.1) h2]; exact hS.2.1 q h1 h2, fun q hq => by
      rcases List.mem_append.mp hq with h | h
      · exact hS.2.2 q h
      · exact hL q h⟩ hl T' rfl X'
  exact ⟨t2, st9 t2 a1, b1⟩
theorem gl_size {ls : Array Slot} (h : gl_has ls nL lv) : ls.size = nL := h.2.1
/-- a virtual call of a method that returns -/
theorem g_callV (S : CallFix p m c cc nL s args Ts own) (hM : Met l y ws rm (gPc D ty b strs tE A (.ref b0 :: As) P1) (gQ A Post) mc ms A) (cw : CallW R s args own C index y bytes maxL ret ws rm mc ms na) (hK : gK D ty s) (hE : gE b strs A tE s s.heap)
    (hP1 : ∀ H, P H → P1 H) (hrecv : ∀ H, P H → ∃ cellB : Cell, H[b0]? = some cellB ∧ cellB.vm.isStatics = false ∧ s.vm.findClass C = some cellB.cls) (hn : As.length = na) (hcat : (st.map fun v => v.category).sum ≤ 8) (hdg : decode cc pc = .ok (.invokevirtual index, 3)) (hf : k + mc ≤ R.cells ∧ n + ms ≤ R.slots)
    (kk : ∀ r : Option Value, gW p l e R s m args below meth c A Q nL (Post r) (k + mc) (n + ms) (pc + 3) lv (r.toList ++ st)) : gW p l e R s m args below meth c A Q nL P k n pc lv (As.reverse ++ .ref b0 :: st) :=
  g_call (fun H locs ls hP hS hl => va_runV S hM cw ⟨gPc_blind, hrecv H hP, gPc_at hK hE (hP1 H hP) hS⟩ rfl hn (gl_size hl) rfl (lv_room hcat) hdg hf) kk
theorem g_callS (S : CallFix p m c cc nL s args Ts own) (hM : Met l y ws rm (gPc D ty b strs tE A As P1) (gQ A Post) mc ms A) (cw : CallB R s args own index y bytes maxL ret ws rm mc ms na ∧ (Cond.static y).before args s = true) (hK : gK D ty s) (hE : gE b strs A tE s s.heap)
    (hP1 : ∀ H, P H → P1 H) (hn : As.length = na) (hcat : (st.map fun v => v.category).sum ≤ 8) (hdg : decode cc pc = .ok (.invokestatic index, 3)) (hf : k + mc ≤ R.cells ∧ n + ms ≤ R.slots)
    (kk : ∀ r : Option Value, gW p l e R s m args below meth c A Q nL (Post r) (k + mc) (n + ms) (pc + 3) lv (r.toList ++ st)) : gW p l e R s m args below meth c A Q nL P k n pc lv (As.reverse ++ st) :=
  g_call (fun H locs ls hP hS hl => va_runS S hM cw ⟨gPc_blind, gPc_at hK hE (hP1 H hP) hS⟩ rfl hn (gl_size hl) rfl (lv_room hcat) hdg hf) kk
theorem g_callI (S : CallFix p m c cc nL s args Ts own) (hM : Met l y ws rm (gPc D ty b strs tE A (.ref b0 :: As) P1) (gQ A Post) mc ms A) (cw : CallB R s args own index y bytes maxL none ws rm mc ms na ∧ y.name = "<init>" ∧ (Cond.instanceMethod y).before args s = true) (hK : gK D ty s) (hE : gE b strs A tE s s.heap)
    (hP1 : ∀ H, P H → P1 H) (hn : As.length = na) (hcat : (st.map fun v => v.category).sum ≤ 8) (hdg : decode cc pc = .ok (.invokespecial index, 3)) (hf : k + mc ≤ R.cells ∧ n + ms ≤ R.slots)
    (kk : ∀ r : Option Value, gW p l e R s m args below meth c A Q nL (Post r) (k + mc) (n + ms) (pc + 3) lv (r.toList ++ st)) : gW p l e R s m args below meth c A Q nL P k n pc lv (As.reverse ++ .ref b0 :: st) :=
  g_call (fun H locs ls hP hS hl => va_runI S hM cw ⟨gPc_blind, gPc_at hK hE (hP1 H hP) hS⟩ rfl hn (gl_size hl) rfl (lv_room hcat) hdg hf) kk
/-- the goal with q thrown over the frame -/
def gXW (p : Program) (l : Launch) (e : Env) (R : Room) (s : State) (m : MethodId) (args : Array Value) (below : List Frame) (meth : Method) (c : Code) (A : Nat → Prop) (Q : State → Prop) (nL : Nat) (E : String) (P : Heap → Prop) (k n : Nat) (pc : Nat) (lv : List (Option Value)) (st : List Value) : Prop :=
  ∀ (H : Heap) (locs : List Loc) (ls : Array Slot) (q : Addr) (ce : Cell), P H → va_S A s.heap H locs → gl_has ls nL lv → H[q]? = some ce → ce.vm = .none → s.vm.findClass E = some ce.cls → vx_W p l e R s m args below meth c H locs k n Q (F0 m pc ls st) q
/-- a call of a method that throws -/
theorem g_tcall {st0 : List Value} {a : Array Value} (hr : ∀ (H : Heap) (locs : List Loc) (ls : Array Slot), P H → va_S A s.heap H locs → gl_has ls nL lv → vx_Run p l e R s m args below meth c H locs k n mc ms (F0 m pc ls st0) st (gQ A (fun _ _ => False) a) (gX A PX) A)
    (kx : ∀ E : String, gXW p l e R s m args below meth c A Q nL E (PX E) (k + mc) (n + ms) pc lv st) : gW p l e R s m args below meth c A Q nL P k n pc lv st0 := by
  intro H locs ls hP hS hl T hT X
  rcases hr H locs ls hP hS hl T hT X with ⟨v, st₀, t, T', L, h0, X', hL, e1, e2, ⟨⟨r, hv, hb⟩, hF⟩, st9⟩ | ⟨q, st₀, t, T', L, E, ce, h0, X', hL, e1, e2, ⟨hb, hz, hk⟩, hce, hcv, hcl, st9⟩
  · exact hb.elim
  · rw [h0] at hz hk
    obtain ⟨t2, a1, b1⟩ := kx E T'.heap (locs ++ L) ls q ce (by rw [e1]; exact hb) ⟨Nat.le_trans hS.1 (by rw [e1]; exact hz), fun q h1 h2 => by rw [e1, hk q (Nat.lt_of_lt_of_le h1 hS.1) h2]; exact hS.2.1 q h1 h2, fun q hq => by
      rcases List.mem_append.mp hq with h | h
      · exact hS.2.2 q h
      · exact hL q h⟩ hl (by rw [e1]; exact hce) hcv hcl T' rfl X'
    exact ⟨t2, st9.trans a1, b1⟩
theorem g_tcallV (S : CallFix p m c cc nL s args Ts own) (hM : vx_Met l y ws rm (gPc D ty b strs tE A (.ref b0 :: As) P1) (gQ A (fun _ _ => False)) (gX A PX) mc ms A) (cw : CallW R s args own C index y bytes maxL ret ws rm mc ms na) (hK : gK D ty s) (hE : gE b strs A tE s s.heap)
    (hP1 : ∀ H, P H → P1 H) (hrecv : ∀ H, P H → ∃ cellB : Cell, H[b0]? = some cellB ∧ cellB.vm.isStatics = false ∧ s.vm.findClass C = some cellB.cls) (hn : As.length = na) (hcat : (st.map fun v => v.category).sum ≤ 8) (hdg : decode cc pc = .ok (.invokevirtual index, 3)) (hf : k + mc ≤ R.cells ∧ n + ms ≤ R.slots)
    (kx : ∀ E : String, gXW p l e R s m args below meth c A Q nL E (PX E) (k + mc) (n + ms) pc lv st) : gW p l e R s m args below meth c A Q nL P k n pc lv (As.reverse ++ .ref b0 :: st) :=
  g_tcall (fun H locs ls hP hS hl => vx_runV S hM cw ⟨gPc_blind, hrecv H hP, gPc_at hK hE (hP1 H hP) hS⟩ rfl hn (gl_size hl) rfl (lv_room hcat) hdg hf) kx
theorem g_tcallS (S : CallFix p m c cc nL s args Ts own) (hM : vx_Met l y ws rm (gPc D ty b strs tE A As P1) (gQ A (fun _ _ => False)) (gX A PX) mc ms A) (cw : CallB R s args own index y bytes maxL ret ws rm mc ms na ∧ (Cond.static y).before args s = true) (hK : gK D ty s) (hE : gE b strs A tE s s.heap)
    (hP1 : ∀ H, P H → P1 H) (hn : As.length = na) (hcat : (st.map fun v => v.category).sum ≤ 8) (hdg : decode cc pc = .ok (.invokestatic index, 3)) (hf : k + mc ≤ R.cells ∧ n + ms ≤ R.slots)
    (kx : ∀ E : String, gXW p l e R s m args below meth c A Q nL E (PX E) (k + mc) (n + ms) pc lv st) : gW p l e R s m args below meth c A Q nL P k n pc lv (As.reverse ++ st) :=
  g_tcall (fun H locs ls hP hS hl => vx_runS S hM cw ⟨gPc_blind, gPc_at hK hE (hP1 H hP) hS⟩ rfl hn (gl_size hl) rfl (lv_room hcat) hdg hf) kx
end CALLS
section ENDS
variable {mc ms : Nat} {Post : Option Value → Heap → Prop} {PX : String → Heap → Prop}
/-- what a method that returns, or throws, owes at its end -/
abbrev gR (below : List Frame) (A : Nat → Prop) (args : Array Value) (s : State) (mc ms : Nat) (Post : Option Value → Heap → Prop) : State → Prop := MQ below (gQ A Post) args s mc ms A
abbrev gT (below : List Frame) (A : Nat → Prop) (args : Array Value) (s : State) (mc ms : Nat) (PX : String → Heap → Prop) : State → Prop := vx_MQ below (gQ A (fun _ _ => False)) (gX A PX) args s mc ms A
theorem g_iret (S : CallFix p m c cc nL s args Ts own) (hlocks : meth.locks = false) {v : Int32} (hr : meth.sig.returnType = some .int) (hq : ∀ H, P H → Post (some (.int v)) H) (hk : k ≤ mc) (hn : n ≤ ms) (hdg : decode cc pc = .ok (.ireturn, 1)) : gW p l e R s m args below meth c A (gR below A args s mc ms Post) nL P k n pc lv [.int v] := fun H locs ls hP hS hl =>
  W.widen hk hn (W.iret S.1 S.2.1 hr (fun t ht hW => ⟨⟨_, rfl, by rw [ht]; exact hq H hP⟩, hS.F ht⟩) hS.2.2 hdg hlocks)
theorem g_zret (S : CallFix p m c cc nL s args Ts own) (hlocks : meth.locks = false) {v : Int32} {rt : FieldType} (hr : meth.sig.returnType = some rt) (hnr : narrow rt (.int v) = .int v) (hq : ∀ H, P H → Post (some (.int v)) H) (hk : k ≤ mc) (hn : n ≤ ms) (hdg : decode cc pc = .ok (.ireturn, 1)) : gW p l e R s m args below meth c A (gR below A args s mc ms Post) nL P k n pc lv [.int v] := fun H locs ls hP hS hl =>
  W.widen hk hn (W.zret S.1 S.2.1 hr hnr (fun t ht hW => ⟨⟨_, rfl, by rw [ht]; exact hq H hP⟩, hS.F ht⟩) hS.2.2 hdg hlocks)
theorem g_lret (S : CallFix p m c cc nL s args Ts own) (hlocks : meth.locks = false) {v : Int64} (hr : meth.sig.returnType = some .long) (hq : ∀ H, P H → Post (some (.long v)) H) (hk : k ≤ mc) (hn : n ≤ ms) (hdg : decode cc pc = .ok (.lreturn, 1)) : gW p l e R s m args below meth c A (gR below A args s mc ms Post) nL P k n pc lv [.long v] := fun H locs ls hP hS hl =>
  W.widen hk hn (W.lret S.1 S.2.1 hr (fun t ht hW => ⟨⟨_, rfl, by rw [ht]; exact hq H hP⟩, hS.F ht⟩) hS.2.2 hdg hlocks)
theorem g_vret (S : CallFix p m c cc nL s args Ts own) (hlocks : meth.locks = false) (hr : meth.sig.returnType = none) (hq : ∀ H, P H → Post none H) (hk : k ≤ mc) (hn : n ≤ ms) (hdg : decode cc pc = .ok (.return_, 1)) : gW p l e R s m args below meth c A (gR below A args s mc ms Post) nL P k n pc lv [] := fun H locs ls hP hS hl =>
  W.widen hk hn (W.vret S.1 S.2.1 hr (fun t ht hW => ⟨⟨_, rfl, by rw [ht]; exact hq H hP⟩, hS.F ht⟩) hS.2.2 hdg hlocks)
theorem g_aret (S : CallFix p m c cc nL s args Ts own) (hlocks : meth.locks = false) {v : Value} {rt : FieldType} (hr : meth.sig.returnType = some rt) (hrt : (∃ n, rt = .object n) ∨ ∃ t, rt = .array t) (hv : v = .null ∨ ∃ a, v = .ref a) (hq : ∀ H, P H → Post (some v) H) (hk : k ≤ mc) (hn : n ≤ ms) (hdg : decode cc pc = .ok (.areturn, 1)) : gW p l e R s m args below meth c A (gR below A args s mc ms Post) nL P k n pc lv [v] := fun H locs ls hP hS hl =>
  W.widen hk hn (W.aret S.1 S.2.1 hr hrt hv (fun t ht hW => ⟨⟨_, rfl, by rw [ht]; exact hq H hP⟩, hS.F ht⟩) hS.2.2 hdg hlocks)
/-- thrown on to the caller, from a method without handlers -/
theorem g_out {E : String} (hout : ∀ x ∈ c.exceptionTable.toList, False) (hlocks : meth.locks = false) (hq : ∀ H, P H → PX E H) (hk : k ≤ mc) (hn : n ≤ ms) : gXW p l e R s m args below meth c A (gT below A args s mc ms PX) nL E P k n pc lv st := fun H locs ls q ce hP hS hl hce hcv hcl =>
  vx_out (fun x hx => (hout x hx).elim) hlocks hce hcv hcl (fun t ht hal => ⟨by rw [ht]; exact hq H hP, hS.F ht⟩) hS.2.2 hk hn
/-- the entry of a method -/
def gl_ent : List Value → List (Option Value)
  | [] => []
  | v :: t => if v.category = 2 then some v :: none :: gl_ent t else some v :: gl_ent t
theorem gl_ent_args : ∀ (av : List Value) (i : Nat), gl_pr i (gl_ent av) = lv_args i av
  | [], i => rfl
  | v :: t, i => by
    by_cases h : v.category = 2
    · simp only [gl_ent, if_pos h, gl_pr, lv_args, gl_ent_args t (i + 1 + 1)]
    · simp only [gl_ent, if_neg h, gl_pr, lv_args, gl_ent_args t (i + 1)]
theorem gl_pr_rep : ∀ (lv : List (Option Value)) (i r : Nat), gl_pr i (lv ++ List.replicate r none) = gl_pr i lv
  | [], i, 0 => rfl
  | [], i, r + 1 => by
    have := gl_pr_rep [] (i + 1) r
    rw [List.nil_append] at this ⊢
    rw [List.replicate_succ]
    exact this
  | none :: t, i, r => by
    rw [List.cons_append]
    show gl_pr (i + 1) (t ++ List.replicate r none) = gl_pr (i + 1) t
    exact gl_pr_rep t (i + 1) r
  | some v :: t, i, r => by
    rw [List.cons_append]
    show (i, v) :: gl_pr (i + 1) (t ++ List.replicate r none) = (i, v) :: gl_pr (i + 1) t
    rw [gl_pr_rep t (i + 1) r]
theorem gl_ent_len : ∀ (av : List Value), (gl_ent av).length = (lg_sl av).length
  | [] => rfl
  | v :: t => by
    have ih := gl_ent_len t
    by_cases h : v.category = 2
    · simp only [gl_ent, if_pos h, List.length_cons, ih]
      simp [lg_sl, h]
    · simp only [gl_ent, if_neg h, List.length_cons, ih]
      simp [lg_sl, h]
theorem gl_entry {av : List Value} {n : Nat} {lv : List (Option Value)} (h : (gl_ent av).length ≤ n) (hl : gl_ent av ++ List.replicate (n - (gl_ent av).length) none = lv) : gl_has ((lg_sl av ++ List.replicate (n - (lg_sl av).length) Slot.unset).toArray) n lv := by
  subst hl
  have h2 := lv_entry av (n := n) (by rw [← gl_ent_len]; exact h)
  refine ⟨by rw [List.length_append, List.length_replicate]; omega, ?_⟩
  rw [gl_pr_rep, gl_ent_args]
  exact h2
end ENDS
end GW
theorem g_Met {l : Launch} {D : va_G} {ty : Nat → ClassId} {b : Bool} {strs : List (Nat × String)} {tE : Nat} {A : Nat → Prop} {av : List Value} {P : Heap → Prop} {Post : Option Value → Heap → Prop} {mc ms : Nat} {y : MethodName} {ws ws' : List Cond} {rm : Room} {cc : ByteArray} {maxL : Nat} {ret : Option FieldType} (lv : List (Option Value))
    (hy : plainName y.cls = true) (hw : ws = Cond.code y cc maxL ret :: ws') (hle : (gl_ent av).length ≤ maxL) (hlv : gl_ent av ++ List.replicate (maxL - (gl_ent av).length) none = lv)
    (body : ∀ (p : Program) (e : Env) (s : State) (m : MethodId) (args : Array Value) (below : List Frame) (meth : Method) (c : Code), CallFix p m c cc maxL s args ws y.cls → meth.locks = false → meth.sig.returnType = ret → meth.name = y.name → gK D ty s → gE b strs A tE s s.heap → P s.heap →
      gW p l e (headSpec ws rm).room s m args below meth c A (gR below A args s mc ms Post) maxL P 0 0 0 lv []) : Met l y ws rm (gPc D ty b strs tE A av P) (gQ A Post) mc ms A := by
  refine Met.ofW (cc := cc) (maxL := maxL) (ret := ret) hy hw ?_
  intro p e s m args below meth c s₁ B hml hv
  obtain ⟨rfl, hP, hK, hE⟩ := hv
  rw [lg_entry_eq]
  exact body p e s m _ below meth c ⟨B.exec, B.bytes, hml, findClass_of_methodNamed B.named, atoms_spec (ws := ws) B.pre⟩ B.notSynchronized B.returns (name_of_methodNamed B.named B.method).1 hK hE hP s.heap [] _ hP va_S.rf (gl_entry hle hlv)
theorem g_tMet {l : Launch} {D : va_G} {ty : Nat → ClassId} {b : Bool} {strs : List (Nat × String)} {tE : Nat} {A : Nat → Prop} {av : List Value} {P : Heap → Prop} {PX : String → Heap → Prop} {mc ms : Nat} {y : MethodName} {ws ws' : List Cond} {rm : Room} {cc : ByteArray} {maxL : Nat} {ret : Option FieldType} (lv : List (Option Value))
    (hy : plainName y.cls = true) (hw : ws = Cond.code y cc maxL ret :: ws') (hle : (gl_ent av).length ≤ maxL) (hlv : gl_ent av ++ List.replicate (maxL - (gl_ent av).length) none = lv)
    (body : ∀ (p : Program) (e : Env) (s : State) (m : MethodId) (args : Array Value) (below : List Frame) (meth : Method) (c : Code), CallFix p m c cc maxL s args ws y.cls → meth.locks = false → (∀ x ∈ c.exceptionTable.toList, False) → gK D ty s → gE b strs A tE s s.heap → P s.heap →
      gW p l e (headSpec ws rm).room s m args below meth c A (gT below A args s mc ms PX) maxL P 0 0 0 lv []) : vx_Met l y ws rm (gPc D ty b strs tE A av P) (gQ A (fun _ _ => False)) (gX A PX) mc ms A := by
  refine vx_ofW (cc := cc) (maxL := maxL) (ret := ret) hy hw ?_
  intro p e s m args below meth c s₁ B hml ht hv
  obtain ⟨rfl, hP, hK, hE⟩ := hv
  rw [lg_entry_eq]
  exact body p e s m _ below meth c ⟨B.exec, B.bytes, hml, findClass_of_methodNamed B.named, atoms_spec (ws := ws) B.pre⟩ B.notSynchronized ht hK hE hP s.heap [] _ hP va_S.rf (gl_entry hle hlv)
end
section
/-! fields and arrays under gW: what P says of the cell, and what becomes of P -/
section GF
variable {p : Program} {l : Launch} {e : Env} {R : Room} {s : State} {m : MethodId} {args : Array Value} {below : List Frame} {meth : Method} {c : Code} {A : Nat → Prop} {Q : State → Prop} {nL : Nat} {P : Heap → Prop} {k n : Nat} {pc : Nat} {lv : List (Option Value)} {st : List Value}
variable {cc : ByteArray} {Ts : List Cond} {own : String} {D : va_G} {ty : Nat → ClassId}
theorem g_getf (S : CallFix p m c cc nL s args Ts own) (hK : gK D ty s) {C : String} {T : u_T} {N ci index a : Nat} {fs : List Value} {v : Value} (hat : ∀ H, P H → va_at D vwCl (a, .inr (ci, fs)) H) (hc : vwCl[ci]? = some (C, T, N)) (j : Nat) (hj : j < N) (hlink : (Cond.fieldLink own index (T j).1 (T j).2.1 (T j).2.2.1).before args s = true) (hv : fs[j]? = some v) (hdg : decode cc pc = .ok (.getfield index, 3))
    (kk : gW p l e R s m args below meth c A Q nL P k n (pc + 3) lv (v :: st)) : gW p l e R s m args below meth c A Q nL P k n pc lv (.ref a :: st) := fun H locs ls hP hS hl =>
  va_get (ws := [(a, .inr (ci, fs))]) S.1 S.2.1 (Ts := u_ws C T N) (fun w hw => hK.2 ci _ hc w hw args) (fun _ h => h) S.2.2.2.1 hK.1 (fun q0 q hq => by
    match q0, hq with
    | 0, hq => cases hq; exact hat H hP) 0 rfl hc j hj hlink (fun _ h => h) hv hdg (kk H locs ls hP hS hl)
theorem g_putf (S : CallFix p m c cc nL s args Ts own) (hK : gK D ty s) {C : String} {T : u_T} {N ci index a j : Nat} {fs : List Value} {v : Value} {P' : Heap → Prop} (ty0 : Nat → FieldType) (hty : ∀ k, k < N → parseFieldDescriptor (T k).2.2.1 = some (ty0 k)) (hnm : ∀ a, a < N → ∀ b, b < N → a ≠ b → (T a).2.1 ≠ (T b).2.1)
    (hat : ∀ H, P H → va_at D vwCl (a, .inr (ci, fs)) H) (hA : ∀ H, P H → A a) (hput : ∀ H H1, P H → va_at D vwCl (a, .inr (ci, fs.set j v)) H1 → H1.size = H.size → (∀ q : Nat, q ≠ a → H1[q]? = H[q]?) → P' H1)
    (hc : vwCl[ci]? = some (C, T, N)) (hj : j < N) (hlink : (Cond.fieldLink own index (T j).1 (T j).2.1 (T j).2.2.1).before args s = true) (hfin : (T j).2.2.2 = false ∨ ((T j).2.2.2 = true ∧ meth.name = "<init>" ∧ (T j).1 = own)) (hn : narrow (ty0 j) v = v) (hfit : fits (ty0 j) v = true) (hl : j < fs.length) (hdg : decode cc pc = .ok (.putfield index, 3))
    (kk : gW p l e R s m args below meth c A Q nL P' k n (pc + 3) lv st) : gW p l e R s m args below meth c A Q nL P k n pc lv (v :: .ref a :: st) := by
  intro H locs ls hP hS hL
  have hts : ∀ w ∈ u_ws C T N, w.before args s = true := fun w hw => hK.2 ci _ hc w hw args
  have hin : ∀ w ∈ u_ws C T N, w ∈ u_ws C T N := fun _ h => h
  have hap := va_apart (own := own) hts hin ty0 hty hnm hK.1 hc
  obtain ⟨r, h1, cell, q1, q2, q3, q4⟩ := hat H hP
  have hr : r = (C, T, N) := Option.some.inj (h1.symm.trans hc)
  subst hr
  obtain ⟨hSl, hfc, kC, hkC, hkind⟩ := hK.1.1 ci _ hc
  obtain ⟨cf, kf, fi, f, hi, hsl⟩ := hSl j hj
  have hst := (u_facts hfc hkC (u_lays hts hin hj) hi).1
  have fin : ∀ H1 : Heap, H1[a]? = some (cell.setSlot (D.2 ci j) v) → H1.size = H.size → (∀ q : Nat, q ≠ a → H1[q]? = H[q]?) → P' H1 := fun H1 e1 e2 e3 =>
    hput H H1 hP ⟨_, hc, t_OB.to (V := updV (vp_V fs) j v) ⟨_, e1, q2, q3, t_set q4 hap hj v⟩ (fun i _ => vp_updV_set hl v i)⟩ e2 e3
  have hlay := hts _ (hin _ (u_in_lay hj))
  unfold u_lay at hlay
  rcases hfin with hfin | ⟨hfin, hini, hdecl⟩
  · rw [if_neg (by rw [hfin]; decide)] at hlay
    have h6 := u_store hfc hkC hkind hlay hi (hty j hj) hn hfit
    refine W.putK S.1 S.2.1 (f := f) ⟨S.2.2.2.1, hlink, ⟨_, _, _, hi⟩, hst⟩ (by rw [q2]; exact h6) q1 q3 (by rw [hsl]; exact k2_hasslot (q4 j hj)) rfl rfl hdg fun H1 e1 e2 e3 => ?_
    rw [hsl] at e1 ⊢
    exact kk H1 _ ls (fin H1 e1 e2 e3) (hS.put e2 e3 (hA H hP)) hL
  · rw [if_pos hfin] at hlay
    have hcf : m.cls = cf := by
      obtain ⟨_, _, c', _, _, _, -, -, hf', -, -, -, hown2, -⟩ := Cond.laysFinal_spec hlay
      have e1 : c' = cf := by have := hi.symm.trans hf'; simp at this; exact this.1.symm
      rw [hdecl] at hown2
      rw [← e1]; exact Option.some.inj (S.2.2.2.1.symm.trans hown2)
    have h6 := u_fits hfc hkC hkind (Or.inr hlay) hi (hty j hj) hn hfit
    refine W.putFinK S.1 S.2.1 S.2.2.2.1 hlink hi hst hcf hini (by rw [q2]; exact h6) q1 q3 (by rw [hsl]; exact k2_hasslot (q4 j hj)) rfl rfl hdg fun H1 e1 e2 e3 => ?_
    rw [hsl] at e1 ⊢
    exact kk H1 _ ls (fin H1 e1 e2 e3) (hS.put e2 e3 (hA H hP)) hL
theorem g_new (S : CallFix p m c cc nL s args Ts own) (hK : gK D ty s) {C : String} {T : u_T} {N ci index : Nat} {fs : List Value} {P' : Nat → Heap → Prop} (ty0 : Nat → FieldType) (hty : ∀ k, k < N → parseFieldDescriptor (T k).2.2.1 = some (ty0 k)) (hc : vwCl[ci]? = some (C, T, N)) (hcl : (Cond.classLink own index C).before args s = true) (hinst : (Cond.instantiable C N).before args s = true) (hini : (Cond.initialized C).before args s = true)
    (hA : ∀ q, s.heap.size ≤ q → A q) (hfs : ∀ j, j < N → defaultValue (ty0 j) = vp_V fs j) (hcells : k + 1 ≤ R.cells) (hslots : n + N ≤ R.slots)
    (hput : ∀ H H1, P H → va_at D vwCl (H.size, .inr (ci, fs)) H1 → H1.size = H.size + 1 → (∀ q : Nat, q < H.size → H1[q]? = H[q]?) → A H.size → P' H.size H1) (hdg : decode cc pc = .ok (.new index, 3))
    (kk : ∀ q : Nat, gW p l e R s m args below meth c A Q nL (P' q) (k + 1) (n + N) (pc + 3) lv (.ref q :: st)) : gW p l e R s m args below meth c A Q nL P k n pc lv st := by
  intro H locs ls hP hS hL
  have hts : ∀ w ∈ u_ws C T N, w.before args s = true := fun w hw => hK.2 ci _ hc w hw args
  have hKn := hK.1.1 ci _ hc
  refine W.newcK S.1 S.2.1 S.2.2.2.1 hcl hinst hini rfl hdg hcells hslots hKn.2.1 rfl fun H1 kC hkC e1 z1 o1 => ?_
  exact kk H.size H1 locs ls (hput H H1 hP ⟨_, hc, (u_born ty0 hts (fun _ h => h) hKn hkC e1 hty).to hfs⟩ z1 o1 (hA _ hS.1)) ⟨Nat.le_trans hS.1 (by omega), fun x h1 h2 => (o1 x (Nat.lt_of_lt_of_le h1 hS.1)).trans (hS.2.1 x h1 h2), hS.2.2⟩ hL
theorem g_newa (S : CallFix p m c cc nL s args Ts own) (hK : gK D ty s) {atype : ArrayType} {t0 : Nat} {z : Int32} {N' : Nat} {a0 : vp_A} {P' : Nat → Heap → Prop} (harr : (Cond.arrayClass (newarray.typeOf atype)).before args s = true) {tt : FieldType} (htt : newarray.typeOf atype = tt) (ht : (gtys ty)[t0]? = some (ty t0, tt)) (hprim : ∀ U, va_RA U (ty t0) tt → U.vm.findClass ("[" ++ tt.toString) = some (ty t0))
    (ha : ∀ cA : ClassId, vp_cell cA a0 = arrV cA N' (fun _ => defaultValue tt)) (hz : ¬ z < 0) (hN : z.toNatClampNeg = N') (hbytes : N' * componentBytes tt ≤ 536870912) (hA : ∀ q, s.heap.size ≤ q → A q) (hcells : k + 1 ≤ R.cells) (hslots : n + N' ≤ R.slots)
    (hput : ∀ H H1, P H → va_at D vwCl (H.size, .inl (ty t0, a0)) H1 → H1.size = H.size + 1 → (∀ q : Nat, q < H.size → H1[q]? = H[q]?) → A H.size → P' H.size H1) (hdg : decode cc pc = .ok (.newarray atype, 2))
    (kk : ∀ q : Nat, gW p l e R s m args below meth c A Q nL (P' q) (k + 1) (n + N') (pc + 2) lv (.ref q :: st)) : gW p l e R s m args below meth c A Q nL P k n pc lv (.int z :: st) := by
  intro H locs ls hP hS hL
  subst htt
  refine va_newaK S.1 S.2.1 harr (g := F0 m pc ls (.int z :: st)) rfl hdg rfl hz hN hbytes hcells hslots rfl fun H1 cA e1 z1 o1 hAT hfA => ?_
  have hcA : cA = ty t0 := Option.some.inj (hfA.symm.trans (hprim s (hK.1.2 t0 _ ht).2))
  subst hcA
  exact kk H.size H1 locs ls (hput H H1 hP (by show H1[H.size]? = some (vp_cell _ _); rw [ha]; exact e1) z1 o1 (hA _ hS.1)) ⟨Nat.le_trans hS.1 (by omega), fun x h1 h2 => (o1 x (Nat.lt_of_lt_of_le h1 hS.1)).trans (hS.2.1 x h1 h2), hS.2.2⟩ hL
theorem g_P1 {a : Nat} {x : va_E} {H : Heap} (h : va_at D vwCl (a, x) H) : va_P D vwCl [(a, x)] H := fun q0 q hq => by
  match q0, hq with
  | 0, hq => cases hq; exact h
theorem g_alen (S : CallFix p m c cc nL s args Ts own) (hK : gK D ty s) {a : Nat} {x : vp_A} {t0 : Nat} {tt : FieldType} (hat : ∀ H, P H → va_at D vwCl (a, .inl (ty t0, x)) H) (ht : (gtys ty)[t0]? = some (ty t0, tt)) (hdg : decode cc pc = .ok (.arraylength, 1))
    (kk : gW p l e R s m args below meth c A Q nL P k n (pc + 1) lv (.int (nI x.1) :: st)) : gW p l e R s m args below meth c A Q nL P k n pc lv (.ref a :: st) := fun H locs ls hP hS hl =>
  va_alen (ws := [(a, .inl (ty t0, x))]) S.1 S.2.1 hK.1 (g_P1 (hat H hP)) 0 t0 rfl ht rfl hdg (kk H locs ls hP hS hl)
theorem g_iald (S : CallFix p m c cc nL s args Ts own) (hK : gK D ty s) {a N' : Nat} {f : Nat → Int32} {i : Int32} (hat : ∀ H, P H → va_at D vwCl (a, .inl (ty 0, N', .inl f)) H) (hin : vp_in i N') (hdg : decode cc pc = .ok (.iaload, 1))
    (kk : gW p l e R s m args below meth c A Q nL P k n (pc + 1) lv (.int (f i.toNatClampNeg) :: st)) : gW p l e R s m args below meth c A Q nL P k n pc lv (.int i :: .ref a :: st) := fun H locs ls hP hS hl =>
  va_iald (ws := [(a, .inl (ty 0, N', .inl f))]) S.1 S.2.1 hK.1 (g_P1 (hat H hP)) 0 0 rfl rfl hin hdg (kk H locs ls hP hS hl)
theorem g_zald (S : CallFix p m c cc nL s args Ts own) (hK : gK D ty s) {a N' : Nat} {f : Nat → Int32} {i : Int32} (hat : ∀ H, P H → va_at D vwCl (a, .inl (ty 2, N', .inl f)) H) (hin : vp_in i N') (hdg : decode cc pc = .ok (.baload, 1))
    (kk : gW p l e R s m args below meth c A Q nL P k n (pc + 1) lv (.int (f i.toNatClampNeg) :: st)) : gW p l e R s m args below meth c A Q nL P k n pc lv (.int i :: .ref a :: st) := fun H locs ls hP hS hl =>
  va_zald (ws := [(a, .inl (ty 2, N', .inl f))]) S.1 S.2.1 hK.1 (g_P1 (hat H hP)) 0 2 rfl rfl hin hdg (kk H locs ls hP hS hl)
theorem g_lald (S : CallFix p m c cc nL s args Ts own) (hK : gK D ty s) {a N' : Nat} {f : Nat → Int64} {i : Int32} (hat : ∀ H, P H → va_at D vwCl (a, .inl (ty 1, N', .inr (.inl f))) H) (hin : vp_in i N') (hdg : decode cc pc = .ok (.laload, 1))
    (kk : gW p l e R s m args below meth c A Q nL P k n (pc + 1) lv (.long (f i.toNatClampNeg) :: st)) : gW p l e R s m args below meth c A Q nL P k n pc lv (.int i :: .ref a :: st) := fun H locs ls hP hS hl =>
  va_lald (ws := [(a, .inl (ty 1, N', .inr (.inl f)))]) S.1 S.2.1 hK.1 (g_P1 (hat H hP)) 0 1 rfl rfl hin hdg (kk H locs ls hP hS hl)
theorem g_iast (S : CallFix p m c cc nL s args Ts own) (hK : gK D ty s) {a N' : Nat} {f : Nat → Int32} {i x : Int32} {P' : Heap → Prop} (hat : ∀ H, P H → va_at D vwCl (a, .inl (ty 0, N', .inl f)) H) (hA : ∀ H, P H → A a) (hput : ∀ H H1, P H → va_at D vwCl (a, .inl (ty 0, N', .inl (upd f i.toNatClampNeg x))) H1 → H1.size = H.size → (∀ q : Nat, q ≠ a → H1[q]? = H[q]?) → P' H1) (hin : vp_in i N') (hdg : decode cc pc = .ok (.iastore, 1))
    (kk : gW p l e R s m args below meth c A Q nL P' k n (pc + 1) lv st) : gW p l e R s m args below meth c A Q nL P k n pc lv (.int x :: .int i :: .ref a :: st) := by
  intro H locs ls hP hS hl
  refine W.iast S.1 S.2.1 (hat H hP) ((hK.1.2 0 _ rfl).1 N' (fun j => .int (f j))) (fun q => by cases q) (by show ¬ (i < 0 ∨ (arrV _ _ _).slots.size ≤ _); rw [arrV_size]; exact hin) rfl rfl hdg fun H1 e z oq => ?_
  refine kk H1 _ ls (hput H H1 hP ?_ z oq) (hS.put z oq (hA H hP)) hl
  show H1[a]? = some (vp_cell _ _)
  rw [e, vp_cell_i, vp_cell_i, arrV_store]
  congr 2
  funext q
  by_cases hq : q = i.toNatClampNeg
  · subst hq
    simp [updV, upd]
  · simp [updV, upd, hq]
theorem g_zast (S : CallFix p m c cc nL s args Ts own) (hK : gK D ty s) {a N' : Nat} {f : Nat → Int32} {i x : Int32} {P' : Heap → Prop} (hat : ∀ H, P H → va_at D vwCl (a, .inl (ty 2, N', .inl f)) H) (hA : ∀ H, P H → A a) (hput : ∀ H H1, P H → va_at D vwCl (a, .inl (ty 2, N', .inl (upd f i.toNatClampNeg (vp_nar .boolean x)))) H1 → H1.size = H.size → (∀ q : Nat, q ≠ a → H1[q]? = H[q]?) → P' H1) (hin : vp_in i N') (hdg : decode cc pc = .ok (.bastore, 1))
    (kk : gW p l e R s m args below meth c A Q nL P' k n (pc + 1) lv st) : gW p l e R s m args below meth c A Q nL P k n pc lv (.int x :: .int i :: .ref a :: st) := by
  intro H locs ls hP hS hl
  refine W.zast S.1 S.2.1 (hat H hP) ((hK.1.2 2 _ rfl).1 N' (fun j => .int (f j))) (fun q => by cases q) (by show ¬ (i < 0 ∨ (arrV _ _ _).slots.size ≤ _); rw [arrV_size]; exact hin) rfl rfl hdg fun H1 e z oq => ?_
  refine kk H1 _ ls (hput H H1 hP ?_ z oq) (hS.put z oq (hA H hP)) hl
  show H1[a]? = some (vp_cell _ _)
  rw [e, vp_cell_i, vp_cell_i, arrV_store]
  congr 2
  funext q
  by_cases hq : q = i.toNatClampNeg
  · subst hq
    simp [updV, upd, vp_nar]
    try rfl
  · simp [updV, upd, hq]
theorem g_last (S : CallFix p m c cc nL s args Ts own) (hK : gK D ty s) {a N' : Nat} {f : Nat → Int64} {i : Int32} {x : Int64} {P' : Heap → Prop} (hat : ∀ H, P H → va_at D vwCl (a, .inl (ty 1, N', .inr (.inl f))) H) (hA : ∀ H, P H → A a) (hput : ∀ H H1, P H → va_at D vwCl (a, .inl (ty 1, N', .inr (.inl (vp_updL f i.toNatClampNeg x)))) H1 → H1.size = H.size → (∀ q : Nat, q ≠ a → H1[q]? = H[q]?) → P' H1) (hin : vp_in i N') (hdg : decode cc pc = .ok (.lastore, 1))
    (kk : gW p l e R s m args below meth c A Q nL P' k n (pc + 1) lv st) : gW p l e R s m args below meth c A Q nL P k n pc lv (.long x :: .int i :: .ref a :: st) := by
  intro H locs ls hP hS hl
  refine W.last S.1 S.2.1 (hat H hP) ((hK.1.2 1 _ rfl).1 N' (fun j => .long (f j))) (fun q => by cases q) (by show ¬ (i < 0 ∨ (arrV _ _ _).slots.size ≤ _); rw [arrV_size]; exact hin) rfl rfl hdg fun H1 e z oq => ?_
  refine kk H1 _ ls (hput H H1 hP ?_ z oq) (hS.put z oq (hA H hP)) hl
  show H1[a]? = some (vp_cell _ _)
  rw [e, vp_cell_l, vp_cell_l, arrV_store]
  congr 2
  funext q
  by_cases hq : q = i.toNatClampNeg
  · subst hq
    simp [updV, vp_updL]
  · simp [updV, vp_updL, hq]
theorem g_recv {a ci : Nat} {q : vw_C} {fs : List Value} (hK : gK D ty s) (hat : ∀ H, P H → va_at D vwCl (a, .inr (ci, fs)) H) (hc : vwCl[ci]? = some q) : ∀ H, P H → ∃ cellB : Cell, H[a]? = some cellB ∧ cellB.vm.isStatics = false ∧ s.vm.findClass q.1 = some cellB.cls := fun H hP => va_recv hK.1 (g_P1 (hat H hP)) hc (q0 := 0) rfl
theorem g_objInit (S : CallFix p m c cc nL s args Ts own) {idx a : Nat} (hlink : (Cond.methodLink own idx Lib.objectInit).before args s = true) (hinst : (Cond.instanceMethod Lib.objectInit).before args s = true) (hcode : (Cond.code Lib.objectInit ⟨#[0xb1]⟩ 1 none).before args s = true) (hdg : decode cc pc = .ok (.invokespecial idx, 3)) (hst : (st.map fun v => v.category).sum ≤ 8) (hR : 1 ≤ R.frames ∧ 20 ≤ R.locals)
    (kk : gW p l e R s m args below meth c A Q nL P k n (pc + 3) lv st) : gW p l e R s m args below meth c A Q nL P k n pc lv (.ref a :: st) := fun H locs ls hP hS hl =>
  W.objInit S.1 S.2.1 S.2.2.2.1 hlink hinst hcode rfl (by rw [S.2.2.1]; exact gl_size hl) rfl hdg hR.1 (Nat.le_trans (Nat.add_le_add_right (lv_room hst) 12) hR.2) (kk H locs ls hP hS hl)
end GF
end
section
/-! the reference's state: its numbers S, its rows X of ints by the field's place, its row Y of longs; and what holds it in the heap -/
abbrev MS : Type := (Nat → Int32) × (Nat → Nat → Int32) × (Nat → Int64)
def mlen (k : Nat) : Nat := [0, 0, 0, 0, 0, 6, 6, 0, 6, 6, 6, 6, 6, 0, 40, 40, 40, 40, 40, 40, 0, 80, 80, 80, 80, 80, 80, 80, 80, 0, 6000, 6000, 6000, 0, 30, 30, 30, 30, 30, 30, 30, 30, 30, 30, 80, 80].getD k 0
def mfs (ad : Nat → Nat) (S : Nat → Int32) : List Value := [.int (S 0), .int (S 1), .int (S 2), .int (S 3), .int (S 4), .ref (ad 5), .ref (ad 6), .int (S 7), .ref (ad 8), .ref (ad 9), .ref (ad 10), .ref (ad 11), .ref (ad 12), .int (S 13), .ref (ad 14), .ref (ad 15), .ref (ad 16), .ref (ad 17), .ref (ad 18), .ref (ad 19), .int (S 20), .ref (ad 21), .ref (ad 22), .ref (ad 23), .ref (ad 24), .ref (ad 25), .ref (ad 26), .ref (ad 27), .ref (ad 28), .int (S 29), .ref (ad 30), .ref (ad 31), .ref (ad 32), .int (S 33), .ref (ad 34), .ref (ad 35), .ref (ad 36), .ref (ad 37), .ref (ad 38), .ref (ad 39), .ref (ad 40), .ref (ad 41), .ref (ad 42), .ref (ad 43), .ref (ad 44), .ref (ad 45)]
def uS (S : Nat → Int32) (k : Nat) (x : Int32) : Nat → Int32 := fun q => if q = k then x else S q
def u2 (X : Nat → Nat → Int32) (k i : Nat) (x : Int32) : Nat → Nat → Int32 := fun q => if q = k then upd (X k) i x else X q
def mS (a : MS) (k : Nat) (x : Int32) : MS := (uS a.1 k x, a.2.1, a.2.2)
def mX (a : MS) (k : Nat) (i x : Int32) : MS := (a.1, u2 a.2.1 k i.toNatClampNeg x, a.2.2)
def mY (a : MS) (i : Int32) (x : Int64) : MS := (a.1, a.2.1, vp_updL a.2.2 i.toNatClampNeg x)
/-- a number of the state, an int of a row, a long of the accounts -/
def gS (a : MS) (k : Nat) : Int32 := a.1 k
def gA (a : MS) (k : Nat) (i : Int32) : Int32 := a.2.1 k i.toNatClampNeg
def gY (a : MS) (i : Int32) : Int64 := a.2.2 i.toNatClampNeg
def ment (ty : Nat → ClassId) (a : MS) (k : Nat) : va_E := if k = 5 then .inl (ty 1, 6, .inr (.inl a.2.2)) else if k = 41 then .inl (ty 2, 30, .inl (a.2.1 41)) else .inl (ty 0, mlen k, .inl (a.2.1 k))
def hM (D : va_G) (ty : Nat → ClassId) (A : Nat → Prop) (mo : Nat) (ad : Nat → Nat) (a : MS) (H : Heap) : Prop :=
  (va_at D vwCl (mo, .inr (7, mfs ad a.1)) H ∧ A mo) ∧ (∀ k, 0 < mlen k → va_at D vwCl (ad k, ment ty a k) H ∧ A (ad k) ∧ ad k ≠ mo) ∧ ∀ k k', 0 < mlen k → 0 < mlen k' → ad k = ad k' → k = k'
def b2 (b : Bool) : Int32 := cond b 1 0
theorem b2_0 {b : Bool} : b2 b = 0 ↔ b = false := by cases b <;> decide
theorem mlen_sc {k : Nat} (h : 0 < mlen k) : k < 46 := by
  rcases Nat.lt_or_ge k 46 with q | q
  · exact q
  · exfalso
    unfold mlen at h
    rw [List.getD_eq_getElem?_getD, List.getElem?_eq_none (by simpa using q)] at h
    simp at h
theorem mfs_set (ad : Nat → Nat) (S : Nat → Int32) (x : Int32) : ∀ j ∈ [0, 1, 2, 3, 4, 7, 13, 20, 29, 33], (mfs ad S).set j (.int x) = mfs ad (uS S j x) := by
  intro j hj
  simp only [List.mem_cons, List.not_mem_nil, or_false] at hj
  rcases hj with rfl | rfl | rfl | rfl | rfl | rfl | rfl | rfl | rfl | rfl <;> simp [mfs, uS]
theorem msc_ty : ∀ j ∈ [0, 1, 2, 3, 4, 7, 13, 20, 29, 33], tyX6 j = .int ∧ (TX6 j).2.2.2 = false ∧ j < 46 := by decide +kernel
theorem mfs_len (ad : Nat → Nat) (S : Nat → Int32) : (mfs ad S).length = 46 := rfl
theorem u2_same (X : Nat → Nat → Int32) (k i : Nat) (x : Int32) : u2 X k i x k = upd (X k) i x := by simp [u2]
theorem u2_other (X : Nat → Nat → Int32) {k k' : Nat} (h : k' ≠ k) (i : Nat) (x : Int32) : u2 X k i x k' = X k' := by simp [u2, h]
section MR
variable {p : Program} {l : Launch} {e : Env} {R : Room} {s : State} {m : MethodId} {args : Array Value} {below : List Frame} {meth : Method} {c : Code} {A : Nat → Prop} {Q : State → Prop} {nL : Nat} {P : Heap → Prop} {k n : Nat} {pc : Nat} {lv : List (Option Value)} {st : List Value}
variable {cc : ByteArray} {Ts : List Cond} {own : String} {D : va_G} {ty : Nat → ClassId} {mo : Nat} {ad : Nat → Nat} {a : MS}
theorem m_getf (S : CallFix p m c cc nL s args Ts own) (hK : gK D ty s) {index : Nat} {v : Value} (j : Nat) (hj : j < 46) (hlink : (Cond.fieldLink own index (TX6 j).1 (TX6 j).2.1 (TX6 j).2.2.1).before args s = true) (hv : (mfs ad a.1)[j]? = some v) (hdg : decode cc pc = .ok (.getfield index, 3))
    (kk : gW p l e R s m args below meth c A Q nL (hM D ty A mo ad a) k n (pc + 3) lv (v :: st)) : gW p l e R s m args below meth c A Q nL (hM D ty A mo ad a) k n pc lv (.ref mo :: st) :=
  g_getf S hK (C := RX6) (T := TX6) (N := 46) (fun H h => h.1.1) rfl j hj hlink hv hdg kk
theorem m_puts (S : CallFix p m c cc nL s args Ts own) (hK : gK D ty s) {index : Nat} {x : Int32} (j : Nat) (hj : j ∈ [0, 1, 2, 3, 4, 7, 13, 20, 29, 33]) (hlink : (Cond.fieldLink own index (TX6 j).1 (TX6 j).2.1 (TX6 j).2.2.1).before args s = true) (hdg : decode cc pc = .ok (.putfield index, 3))
    (kk : gW p l e R s m args below meth c A Q nL (hM D ty A mo ad (mS a j x)) k n (pc + 3) lv st) : gW p l e R s m args below meth c A Q nL (hM D ty A mo ad a) k n pc lv (.int x :: .ref mo :: st) := by
  obtain ⟨h1, h2, h3⟩ := msc_ty j hj
  refine g_putf S hK (C := RX6) (T := TX6) (N := 46) (j := j) (fs := mfs ad a.1) (P' := hM D ty A mo ad (mS a j x)) tyX6 tyX6_ok nmX6 (fun H h => h.1.1) (fun H h => h.1.2) ?_ rfl h3 hlink (Or.inl h2) (by rw [h1]; rfl) (by rw [h1]; rfl) (by rw [mfs_len]; exact h3) hdg kk
  intro H H1 hP hat z oq
  refine ⟨⟨by rw [mfs_set ad a.1 x j hj] at hat; exact hat, hP.1.2⟩, fun q hq => ?_, hP.2.2⟩
  obtain ⟨g1, g2, g3⟩ := hP.2.1 q hq
  exact ⟨g1.kept (oq _ g3), g2, g3⟩
theorem hM_row {H H1 : Heap} {a' : MS} {j : Nat} (hP : hM D ty A mo ad a H) (hj : 0 < mlen j) (h1 : a'.1 = a.1) (hat : va_at D vwCl (ad j, ment ty a' j) H1) (ho : ∀ q, q ≠ j → ment ty a' q = ment ty a q) (oq : ∀ q : Nat, q ≠ ad j → H1[q]? = H[q]?) : hM D ty A mo ad a' H1 := by
  obtain ⟨⟨g0, g9⟩, g1, g2⟩ := hP
  refine ⟨⟨by rw [h1]; exact g0.kept (oq _ (fun z => (g1 j hj).2.2 z.symm)), g9⟩, fun q hq => ?_, g2⟩
  obtain ⟨f1, f2, f3⟩ := g1 q hq
  by_cases hqj : q = j
  · subst hqj
    exact ⟨hat, f2, f3⟩
  · rw [ho q hqj]
    exact ⟨f1.kept (oq _ (fun z => hqj (g2 q j hq hj z))), f2, f3⟩
theorem ment_i {j : Nat} (h5 : j ≠ 5) (h41 : j ≠ 41) (ty : Nat → ClassId) (a : MS) : ment ty a j = .inl (ty 0, mlen j, .inl (a.2.1 j)) := by simp [ment, h5, h41]
theorem m_iald (S : CallFix p m c cc nL s args Ts own) (hK : gK D ty s) {j : Nat} {i : Int32} (hj : (0 < mlen j) ∧ j ≠ 5 ∧ j ≠ 41) (hin : vp_in i (mlen j)) (hdg : decode cc pc = .ok (.iaload, 1))
    (kk : gW p l e R s m args below meth c A Q nL (hM D ty A mo ad a) k n (pc + 1) lv (.int (gA a j i) :: st)) : gW p l e R s m args below meth c A Q nL (hM D ty A mo ad a) k n pc lv (.int i :: .ref (ad j) :: st) :=
  g_iald S hK (fun H h => by have := (h.2.1 j hj.1).1; rw [ment_i hj.2.1 hj.2.2] at this; exact this) hin hdg kk
theorem m_iast (S : CallFix p m c cc nL s args Ts own) (hK : gK D ty s) {j : Nat} {i x : Int32} (hj : (0 < mlen j) ∧ j ≠ 5 ∧ j ≠ 41) (hin : vp_in i (mlen j)) (hdg : decode cc pc = .ok (.iastore, 1))
    (kk : gW p l e R s m args below meth c A Q nL (hM D ty A mo ad (mX a j i x)) k n (pc + 1) lv st) : gW p l e R s m args below meth c A Q nL (hM D ty A mo ad a) k n pc lv (.int x :: .int i :: .ref (ad j) :: st) :=
  g_iast S hK (N' := mlen j) (f := a.2.1 j) (P' := hM D ty A mo ad (mX a j i x)) (fun H h => by have := (h.2.1 j hj.1).1; rw [ment_i hj.2.1 hj.2.2] at this; exact this) (fun H h => (h.2.1 j hj.1).2.1) (fun H H1 hP hat z oq => hM_row hP hj.1 rfl (by rw [ment_i hj.2.1 hj.2.2]; show va_at D vwCl (ad j, .inl (ty 0, mlen j, .inl (u2 a.2.1 j i.toNatClampNeg x j))) H1; rw [u2_same]; exact hat) (fun q hq => by
    have e : (mX a j i x).2.1 q = a.2.1 q := u2_other _ hq _ _
    have e41 : (mX a j i x).2.1 41 = a.2.1 41 := u2_other _ (fun z => hj.2.2 z.symm) _ _
    simp only [ment, e, e41]
    rfl) oq) hin hdg kk
theorem m_zald (S : CallFix p m c cc nL s args Ts own) (hK : gK D ty s) {i : Int32} (hin : vp_in i 30) (hdg : decode cc pc = .ok (.baload, 1))
    (kk : gW p l e R s m args below meth c A Q nL (hM D ty A mo ad a) k n (pc + 1) lv (.int (gA a 41 i) :: st)) : gW p l e R s m args below meth c A Q nL (hM D ty A mo ad a) k n pc lv (.int i :: .ref (ad 41) :: st) :=
  g_zald S hK (fun H h => (h.2.1 41 (by decide)).1) hin hdg kk
theorem m_zast (S : CallFix p m c cc nL s args Ts own) (hK : gK D ty s) {i x : Int32} (hx : vp_nar .boolean x = x) (hin : vp_in i 30) (hdg : decode cc pc = .ok (.bastore, 1))
    (kk : gW p l e R s m args below meth c A Q nL (hM D ty A mo ad (mX a 41 i x)) k n (pc + 1) lv st) : gW p l e R s m args below meth c A Q nL (hM D ty A mo ad a) k n pc lv (.int x :: .int i :: .ref (ad 41) :: st) :=
  g_zast S hK (N' := 30) (f := a.2.1 41) (P' := hM D ty A mo ad (mX a 41 i x)) (fun H h => (h.2.1 41 (by decide)).1) (fun H h => (h.2.1 41 (by decide)).2.1) (fun H H1 hP hat z oq => hM_row hP (j := 41) (by decide) rfl (by show va_at D vwCl (ad 41, .inl (ty 2, 30, .inl (u2 a.2.1 41 i.toNatClampNeg x 41))) H1; rw [u2_same]; rw [hx] at hat; exact hat) (fun q hq => by
    have e : (mX a 41 i x).2.1 q = a.2.1 q := u2_other _ hq _ _
    simp only [ment, if_neg hq, e]
    rfl) oq) hin hdg kk
theorem m_lald (S : CallFix p m c cc nL s args Ts own) (hK : gK D ty s) {i : Int32} (hin : vp_in i 6) (hdg : decode cc pc = .ok (.laload, 1))
    (kk : gW p l e R s m args below meth c A Q nL (hM D ty A mo ad a) k n (pc + 1) lv (.long (gY a i) :: st)) : gW p l e R s m args below meth c A Q nL (hM D ty A mo ad a) k n pc lv (.int i :: .ref (ad 5) :: st) :=
  g_lald S hK (fun H h => (h.2.1 5 (by decide)).1) hin hdg kk
theorem m_last (S : CallFix p m c cc nL s args Ts own) (hK : gK D ty s) {i : Int32} {x : Int64} (hin : vp_in i 6) (hdg : decode cc pc = .ok (.lastore, 1))
    (kk : gW p l e R s m args below meth c A Q nL (hM D ty A mo ad (mY a i x)) k n (pc + 1) lv st) : gW p l e R s m args below meth c A Q nL (hM D ty A mo ad a) k n pc lv (.long x :: .int i :: .ref (ad 5) :: st) :=
  g_last S hK (N' := 6) (f := a.2.2) (P' := hM D ty A mo ad (mY a i x)) (fun H h => (h.2.1 5 (by decide)).1) (fun H h => (h.2.1 5 (by decide)).2.1) (fun H H1 hP hat z oq => hM_row hP (j := 5) (by decide) rfl hat (fun q hq => by simp only [ment, if_neg hq]; rfl) oq) hin hdg kk
theorem m_recv (hK : gK D ty s) : ∀ H, hM D ty A mo ad a H → ∃ cellB : Cell, H[mo]? = some cellB ∧ cellB.vm.isStatics = false ∧ s.vm.findClass RX6 = some cellB.cls := g_recv (q := (RX6, TX6, 46)) hK (fun H h => h.1.1) rfl
/-- what a method answers, and what holds behind it -/
def gRet (v : Option Value) (P : Heap → Prop) : Option Value → Heap → Prop := fun r H => r = v ∧ P H
section CR
variable {b : Bool} {strs : List (Nat × String)} {tE : Nat} {y : MethodName} {bytes : ByteArray} {maxL mc ms na index : Nat} {ret : Option FieldType} {ws : List Cond} {rm : Room} {P1 P2 : Heap → Prop} {C : String} {b0 : Nat} {As : List Value} {v : Value}
theorem g_cVr (S : CallFix p m c cc nL s args Ts own) (hM : Met l y ws rm (gPc D ty b strs tE A (.ref b0 :: As) P1) (gQ A (gRet (some v) P2)) mc ms A) (cw : CallW R s args own C index y bytes maxL ret ws rm mc ms na) (hK : gK D ty s) (hE : gE b strs A tE s s.heap)
    (hP1 : ∀ H, P H → P1 H) (hrecv : ∀ H, P H → ∃ cellB : Cell, H[b0]? = some cellB ∧ cellB.vm.isStatics = false ∧ s.vm.findClass C = some cellB.cls) (hn : As.length = na) (hcat : (st.map fun v => v.category).sum ≤ 8) (hdg : decode cc pc = .ok (.invokevirtual index, 3)) (hf : k + mc ≤ R.cells ∧ n + ms ≤ R.slots)
    (kk : gW p l e R s m args below meth c A Q nL P2 (k + mc) (n + ms) (pc + 3) lv (v :: st)) : gW p l e R s m args below meth c A Q nL P k n pc lv (As.reverse ++ .ref b0 :: st) :=
  g_callV S hM cw hK hE hP1 hrecv hn hcat hdg hf (fun r => g_and (fun H h => h) (fun hr => by subst hr; exact kk))
theorem g_cVv (S : CallFix p m c cc nL s args Ts own) (hM : Met l y ws rm (gPc D ty b strs tE A (.ref b0 :: As) P1) (gQ A (gRet none P2)) mc ms A) (cw : CallW R s args own C index y bytes maxL ret ws rm mc ms na) (hK : gK D ty s) (hE : gE b strs A tE s s.heap)
    (hP1 : ∀ H, P H → P1 H) (hrecv : ∀ H, P H → ∃ cellB : Cell, H[b0]? = some cellB ∧ cellB.vm.isStatics = false ∧ s.vm.findClass C = some cellB.cls) (hn : As.length = na) (hcat : (st.map fun v => v.category).sum ≤ 8) (hdg : decode cc pc = .ok (.invokevirtual index, 3)) (hf : k + mc ≤ R.cells ∧ n + ms ≤ R.slots)
    (kk : gW p l e R s m args below meth c A Q nL P2 (k + mc) (n + ms) (pc + 3) lv st) : gW p l e R s m args below meth c A Q nL P k n pc lv (As.reverse ++ .ref b0 :: st) :=
  g_callV S hM cw hK hE hP1 hrecv hn hcat hdg hf (fun r => g_and (fun H h => h) (fun hr => by subst hr; exact kk))
theorem g_cSr (S : CallFix p m c cc nL s args Ts own) (hM : Met l y ws rm (gPc D ty b strs tE A As P1) (gQ A (gRet (some v) P2)) mc ms A) (cw : CallB R s args own index y bytes maxL ret ws rm mc ms na ∧ (Cond.static y).before args s = true) (hK : gK D ty s) (hE : gE b strs A tE s s.heap)
    (hP1 : ∀ H, P H → P1 H) (hn : As.length = na) (hcat : (st.map fun v => v.category).sum ≤ 8) (hdg : decode cc pc = .ok (.invokestatic index, 3)) (hf : k + mc ≤ R.cells ∧ n + ms ≤ R.slots)
    (kk : gW p l e R s m args below meth c A Q nL P2 (k + mc) (n + ms) (pc + 3) lv (v :: st)) : gW p l e R s m args below meth c A Q nL P k n pc lv (As.reverse ++ st) :=
  g_callS S hM cw hK hE hP1 hn hcat hdg hf (fun r => g_and (fun H h => h) (fun hr => by subst hr; exact kk))
theorem g_cSv (S : CallFix p m c cc nL s args Ts own) (hM : Met l y ws rm (gPc D ty b strs tE A As P1) (gQ A (gRet none P2)) mc ms A) (cw : CallB R s args own index y bytes maxL ret ws rm mc ms na ∧ (Cond.static y).before args s = true) (hK : gK D ty s) (hE : gE b strs A tE s s.heap)
    (hP1 : ∀ H, P H → P1 H) (hn : As.length = na) (hcat : (st.map fun v => v.category).sum ≤ 8) (hdg : decode cc pc = .ok (.invokestatic index, 3)) (hf : k + mc ≤ R.cells ∧ n + ms ≤ R.slots)
    (kk : gW p l e R s m args below meth c A Q nL P2 (k + mc) (n + ms) (pc + 3) lv st) : gW p l e R s m args below meth c A Q nL P k n pc lv (As.reverse ++ st) :=
  g_callS S hM cw hK hE hP1 hn hcat hdg hf (fun r => g_and (fun H h => h) (fun hr => by subst hr; exact kk))
theorem g_cIv (S : CallFix p m c cc nL s args Ts own) (hM : Met l y ws rm (gPc D ty b strs tE A (.ref b0 :: As) P1) (gQ A (gRet none P2)) mc ms A) (cw : CallB R s args own index y bytes maxL none ws rm mc ms na ∧ y.name = "<init>" ∧ (Cond.instanceMethod y).before args s = true) (hK : gK D ty s) (hE : gE b strs A tE s s.heap)
    (hP1 : ∀ H, P H → P1 H) (hn : As.length = na) (hcat : (st.map fun v => v.category).sum ≤ 8) (hdg : decode cc pc = .ok (.invokespecial index, 3)) (hf : k + mc ≤ R.cells ∧ n + ms ≤ R.slots)
    (kk : gW p l e R s m args below meth c A Q nL P2 (k + mc) (n + ms) (pc + 3) lv st) : gW p l e R s m args below meth c A Q nL P k n pc lv (As.reverse ++ .ref b0 :: st) :=
  g_callI S hM cw hK hE hP1 hn hcat hdg hf (fun r => g_and (fun H h => h) (fun hr => by subst hr; exact kk))
end CR
theorem g_ifb_eq (S : CallFix p m c cc nL s args Ts own) {b : Bool} {off : Int} {tgt : Nat} (hdg : decode cc pc = .ok (.ifCond .eq off, 3)) (ht : (pc : Int) + off = (tgt : Int))
    (kt : b = false → gW p l e R s m args below meth c A Q nL P k n tgt lv st) (kf : b = true → gW p l e R s m args below meth c A Q nL P k n (pc + 3) lv st) : gW p l e R s m args below meth c A Q nL P k n pc lv (.int (b2 b) :: st) := g_if_eq S hdg ht (fun z => kt (b2_0.mp z)) (fun z => kf (by cases b <;> simp_all [b2_0]))
theorem g_ifb_ne (S : CallFix p m c cc nL s args Ts own) {b : Bool} {off : Int} {tgt : Nat} (hdg : decode cc pc = .ok (.ifCond .ne off, 3)) (ht : (pc : Int) + off = (tgt : Int))
    (kt : b = true → gW p l e R s m args below meth c A Q nL P k n tgt lv st) (kf : b = false → gW p l e R s m args below meth c A Q nL P k n (pc + 3) lv st) : gW p l e R s m args below meth c A Q nL P k n pc lv (.int (b2 b) :: st) := g_if_ne S hdg ht (fun z => kt (by cases b <;> simp_all [b2_0])) (fun z => kf (b2_0.mp z))
end MR
end
