theorem vin_of {v : Int32} {n : Nat} (h0 : ¬ v < 0) (h : v < nI n) (hn : n < 2 ^ 31) : vp_in v n := by
  rw [Int32.lt_iff_toInt_lt] at h h0
  rw [nI_toInt hn] at h
  rw [show (0 : Int32).toInt = 0 by decide] at h0
  exact vp_in_iff.mpr ⟨by omega, by omega⟩
theorem nI_nneg {q n : Nat} (h : q < n) (hn : n < 2 ^ 31) : ¬ nI q < 0 := nI_pos (by omega)
theorem nI_ltn {q n : Nat} (h : q < n) (hn : n < 2 ^ 31) : nI q < nI n := nI_lt h hn
abbrev rmJ3_checkIndex_8e157 : Room := { frames := 0, cells := 0, slots := 0, locals := 0 }
set_option maxHeartbeats 1500000 in
set_option maxRecDepth 100000 in
theorem k_ci3 (l : Launch) (D : va_G) (ty : Nat → ClassId) (A : Nat → Prop) (tE : Nat) (el : Nat → Nat → Nat) (a : CS) (P : Heap → Prop) (q n9 : Nat) (hq : q < n9) (hn9 : n9 < 2 ^ 31) : Met l yJ3_checkIndex_8e157 wsJ3_checkIndex_8e157 rmJ3_checkIndex_8e157 (gPc D ty true cstrs tE A [.int (nI q), .int (nI n9), .null] P) (gQ A (gRet (some (.int (nI q))) P)) 0 0 A := by
  refine g_Met (cc := cJ3_checkIndex_8e157) (maxL := 3) (ret := (some .int)) [some (.int (nI q)), some (.int (nI n9)), some (.null)] (by decide) rfl (Nat.le_of_ble_eq_true rfl) rfl ?_
  intro p e s m args below meth c S hlk hr hnm hK hE hP0
  have S : CallFix p m c cJ3_checkIndex_8e157 3 s args wsJ3_checkIndex_8e157 RJ3 := S
  refine g_iload_n S dJ3_checkIndex_8e157_0 rfl ?_
  refine g_if_lt S (tgt := 9) dJ3_checkIndex_8e157_1 (by decide) (fun c_1 => ?_) (fun c_1 => ?_)
  · exact absurd c_1 (nI_nneg hq hn9)
  · refine g_iload_n S dJ3_checkIndex_8e157_4 rfl ?_
    refine g_iload_n S dJ3_checkIndex_8e157_5 rfl ?_
    refine g_icmp_lt S (tgt := 16) dJ3_checkIndex_8e157_6 (by decide) (fun c_6 => ?_) (fun c_6 => ?_)
    · refine g_iload_n S dJ3_checkIndex_8e157_16 rfl ?_
      exact g_iret S hlk hr (fun H h => ⟨rfl, h⟩) (Nat.le_refl _) (Nat.le_refl _) dJ3_checkIndex_8e157_17
    · exact absurd (nI_ltn hq hn9) c_6

abbrev rmJ15_checkIndex_7cf53 : Room := { frames := 1, cells := 0, slots := 0, locals := 22 }
set_option maxHeartbeats 1500000 in
set_option maxRecDepth 100000 in
theorem k_ci15 (l : Launch) (D : va_G) (ty : Nat → ClassId) (A : Nat → Prop) (tE : Nat) (el : Nat → Nat → Nat) (a : CS) (P : Heap → Prop) (q n9 : Nat) (hq : q < n9) (hn9 : n9 < 2 ^ 31) : Met l yJ15_checkIndex_7cf53 wsJ15_checkIndex_7cf53 rmJ15_checkIndex_7cf53 (gPc D ty true cstrs tE A [.int (nI q), .int (nI n9)] P) (gQ A (gRet (some (.int (nI q))) P)) 0 0 A := by
  refine g_Met (cc := cJ15_checkIndex_7cf53) (maxL := 2) (ret := (some .int)) [some (.int (nI q)), some (.int (nI n9))] (by decide) rfl (Nat.le_of_ble_eq_true rfl) rfl ?_
  intro p e s m args below meth c S hlk hr hnm hK hE hP0
  have S : CallFix p m c cJ15_checkIndex_7cf53 2 s args wsJ15_checkIndex_7cf53 RJ15 := S
  refine g_iload_n S dJ15_checkIndex_7cf53_0 rfl ?_
  refine g_iload_n S dJ15_checkIndex_7cf53_1 rfl ?_
  refine g_null S dJ15_checkIndex_7cf53_2 ?_
  refine g_cSr S (k_ci3 l D ty A tE el a P q n9 hq hn9) (va_cwS 3 S.2.2.2.2 gJ15_checkIndex_7cf53_J3_checkIndex_8e157 rfl rfl rfl (by decide +kernel) ⟨Nat.le_of_ble_eq_true rfl, Nat.le_of_ble_eq_true rfl⟩) hK hE (fun H h => h) rfl (Nat.le_of_ble_eq_true rfl) dJ15_checkIndex_7cf53_3 ⟨Nat.le_of_ble_eq_true rfl, Nat.le_of_ble_eq_true rfl⟩ ?_
  exact g_iret S hlk hr (fun H h => ⟨rfl, h⟩) (Nat.le_refl _) (Nat.le_refl _) dJ15_checkIndex_7cf53_6

abbrev rmJx4a65c_elementData_915e3 : Room := { frames := 0, cells := 0, slots := 0, locals := 0 }
set_option maxHeartbeats 1500000 in
set_option maxRecDepth 100000 in
theorem k_elementData (l : Launch) (D : va_G) (ty : Nat → ClassId) (A : Nat → Prop) (tE : Nat) (el : Nat → Nat → Nat) (a : CS) {j : Nat} (hj : j < 4) {q : Nat} (hq : q < cL a j) (hb : cL a j < 2 ^ 31) : Met l yJx4a65c_elementData_915e3 wsJx4a65c_elementData_915e3 rmJx4a65c_elementData_915e3 (gPc D ty true cstrs tE A [.ref (el 0 j), .int (nI q)] (hC D ty A tE el a)) (gQ A (gRet (some (.ref (el (lkd j) q))) (hC D ty A tE el a))) 0 0 A := by
  refine g_Met (cc := cJx4a65c_elementData_915e3) (maxL := 2) (ret := (some (.object "java/lang/Object"))) [some (.ref (el 0 j)), some (.int (nI q))] (by decide) rfl (Nat.le_of_ble_eq_true rfl) rfl ?_
  intro p e s m args below meth c S hlk hr hnm hK hE hP0
  have S : CallFix p m c cJx4a65c_elementData_915e3 2 s args wsJx4a65c_elementData_915e3 RJx4a65c := S
  refine hC_open (fun z => ?_)
  refine g_aload_n S dJx4a65c_elementData_915e3_0 rfl ?_
  refine k0_get S hK hj 1 (by decide) (S.2.2.2.2 _ (List.mem_of_getElem? (i := 1) rfl)) rfl dJx4a65c_elementData_915e3_1 ?_
  refine g_iload_n S dJx4a65c_elementData_915e3_4 rfl ?_
  refine k0_ald S hK hj hq (by omega) dJx4a65c_elementData_915e3_5 ?_
  exact g_aret S hlk hr (Or.inl ⟨_, rfl⟩) (Or.inr ⟨_, rfl⟩) (fun H h => ⟨rfl, hC_close h⟩) (Nat.le_refl _) (Nat.le_refl _) dJx4a65c_elementData_915e3_6

abbrev rmJx4a65c_get_915e3 : Room := { frames := 2, cells := 0, slots := 0, locals := 43 }
set_option maxHeartbeats 1500000 in
set_option maxRecDepth 100000 in
theorem k_get (l : Launch) (D : va_G) (ty : Nat → ClassId) (A : Nat → Prop) (tE : Nat) (el : Nat → Nat → Nat) (a : CS) {j : Nat} (hj : j < 4) {q : Nat} (hq : q < cL a j) (hb : cL a j < 2 ^ 31) : Met l yJx4a65c_get_915e3 wsJx4a65c_get_915e3 rmJx4a65c_get_915e3 (gPc D ty true cstrs tE A [.ref (el 0 j), .int (nI q)] (hC D ty A tE el a)) (gQ A (gRet (some (.ref (el (lkd j) q))) (hC D ty A tE el a))) 0 0 A := by
  refine g_Met (cc := cJx4a65c_get_915e3) (maxL := 2) (ret := (some (.object "java/lang/Object"))) [some (.ref (el 0 j)), some (.int (nI q))] (by decide) rfl (Nat.le_of_ble_eq_true rfl) rfl ?_
  intro p e s m args below meth c S hlk hr hnm hK hE hP0
  have S : CallFix p m c cJx4a65c_get_915e3 2 s args wsJx4a65c_get_915e3 RJx4a65c := S
  refine hC_open (fun z => ?_)
  refine g_iload_n S dJx4a65c_get_915e3_0 rfl ?_
  refine g_aload_n S dJx4a65c_get_915e3_1 rfl ?_
  refine k0_get S hK hj 2 (by decide) (S.2.2.2.2 _ (List.mem_of_getElem? (i := 1) rfl)) rfl dJx4a65c_get_915e3_2 ?_
  refine g_cSr S (k_ci15 l D ty A tE el a (hC D ty A tE el a) q (cL a j) hq hb) (va_cwS 2 S.2.2.2.2 gJx4a65c_get_915e3_J15_checkIndex_7cf53 rfl rfl rfl (by decide +kernel) ⟨Nat.le_of_ble_eq_true rfl, Nat.le_of_ble_eq_true rfl⟩) hK hE (fun H h => hC_close h) rfl (Nat.le_of_ble_eq_true rfl) dJx4a65c_get_915e3_5 ⟨Nat.le_of_ble_eq_true rfl, Nat.le_of_ble_eq_true rfl⟩ ?_
  refine g_pop S dJx4a65c_get_915e3_8 rfl ?_
  refine g_aload_n S dJx4a65c_get_915e3_9 rfl ?_
  refine g_iload_n S dJx4a65c_get_915e3_10 rfl ?_
  refine g_cVr S (k_elementData l D ty A tE el a hj hq hb) (cwV 1 S.2.2.2.2 gJx4a65c_get_915e3_Jx4a65c_elementData_915e3 rfl rfl rfl (by decide +kernel) ⟨Nat.le_of_ble_eq_true rfl, Nat.le_of_ble_eq_true rfl⟩) hK hE (fun H h => h) (k0_recv hK hj) rfl (Nat.le_of_ble_eq_true rfl) dJx4a65c_get_915e3_11 ⟨Nat.le_of_ble_eq_true rfl, Nat.le_of_ble_eq_true rfl⟩ ?_
  exact g_aret S hlk hr (Or.inl ⟨_, rfl⟩) (Or.inr ⟨_, rfl⟩) (fun H h => ⟨rfl, h⟩) (Nat.le_refl _) (Nat.le_refl _) dJx4a65c_get_915e3_14

abbrev rmX5_findSilo : Room := { frames := 3, cells := 0, slots := 0, locals := 64 }
set_option maxHeartbeats 1500000 in
set_option maxRecDepth 100000 in
theorem k_findSilo (l : Launch) (D : va_G) (ty : Nat → ClassId) (A : Nat → Prop) (tE : Nat) (el : Nat → Nat → Nat) (a : CS) (h6 : cOb a 6 0) (hb : cL a 0 < 2 ^ 31) {q : Nat} (hq : q < cL a 0) (ho : cOb a 4 q) : Met l yX5_findSilo wsX5_findSilo rmX5_findSilo (gPc D ty true cstrs tE A [.ref (el 6 0), .int (nI q)] (hC D ty A tE el a)) (gQ A (gRet (some (.ref (el 4 q))) (hC D ty A tE el a))) 0 0 A := by
  refine g_Met (cc := cX5_findSilo) (maxL := 2) (ret := (some (.object "Grainledger$Silo"))) [some (.ref (el 6 0)), some (.int (nI q))] (by decide) rfl (Nat.le_of_ble_eq_true rfl) rfl ?_
  intro p e s m args below meth c S hlk hr hnm hK hE hP0
  have S : CallFix p m c cX5_findSilo 2 s args wsX5_findSilo RX5 := S
  have hj : 0 < 4 := by decide
  refine g_iload_n S dX5_findSilo_0 rfl ?_
  refine g_if_lt S (tgt := 15) dX5_findSilo_1 (by decide) (fun c_1 => ?_) (fun c_1 => ?_)
  · exact absurd c_1 (nI_nneg hq hb)
  · refine g_iload_n S dX5_findSilo_4 rfl ?_
    refine g_aload_n S dX5_findSilo_5 rfl ?_
    refine k6_get S hK (by exact h6) 0 (by decide) (S.2.2.2.2 _ (List.mem_of_getElem? (i := 3) rfl)) rfl dX5_findSilo_6 ?_
    refine g_cVr S (k_size l D ty A tE el a hj) (cwV 0 S.2.2.2.2 gX5_findSilo_Jx4a65c_size_8abf5 rfl rfl rfl (by decide +kernel) ⟨Nat.le_of_ble_eq_true rfl, Nat.le_of_ble_eq_true rfl⟩) hK hE (fun H h => h) (k0_recv hK hj) rfl (Nat.le_of_ble_eq_true rfl) dX5_findSilo_9 ⟨Nat.le_of_ble_eq_true rfl, Nat.le_of_ble_eq_true rfl⟩ ?_
    refine g_icmp_lt S (tgt := 26) dX5_findSilo_12 (by decide) (fun c_12 => ?_) (fun c_12 => ?_)
    · refine g_aload_n S dX5_findSilo_26 rfl ?_
      refine k6_get S hK (by exact h6) 0 (by decide) (S.2.2.2.2 _ (List.mem_of_getElem? (i := 3) rfl)) rfl dX5_findSilo_27 ?_
      refine g_iload_n S dX5_findSilo_30 rfl ?_
      refine g_cVr S (k_get l D ty A tE el a hj hq hb) (cwV 1 S.2.2.2.2 gX5_findSilo_Jx4a65c_get_915e3 rfl rfl rfl (by decide +kernel) ⟨Nat.le_of_ble_eq_true rfl, Nat.le_of_ble_eq_true rfl⟩) hK hE (fun H h => h) (k0_recv hK hj) rfl (Nat.le_of_ble_eq_true rfl) dX5_findSilo_31 ⟨Nat.le_of_ble_eq_true rfl, Nat.le_of_ble_eq_true rfl⟩ ?_
      refine g_cast S hK (q := (RX3, TX3, 6)) (S.2.2.2.2 _ (List.mem_of_getElem? (i := 4) rfl)) (ci := 4) rfl (k4_recv hK ho) dX5_findSilo_34 ?_
      exact g_aret S hlk hr (Or.inl ⟨_, rfl⟩) (Or.inr ⟨_, rfl⟩) (fun H h => ⟨rfl, h⟩) (Nat.le_refl _) (Nat.le_refl _) dX5_findSilo_37
    · exact absurd (nI_ltn hq hb) c_12

abbrev rtX5_findSilo : Room := { frames := 6, cells := 1, slots := 6, locals := 100 }
set_option maxHeartbeats 1500000 in
set_option maxRecDepth 100000 in
theorem t_findSilo (l : Launch) (D : va_G) (ty : Nat → ClassId) (A : Nat → Prop) (hl : l.stackTraces = false) (tE : Nat) (el : Nat → Nat → Nat) (a : CS) (h6 : cOb a 6 0) (hb : cL a 0 < 2 ^ 31) (v : Int32) (hv : ¬ vp_in v (cL a 0)) : vx_Met l yX5_findSilo wsX5_findSilo rtX5_findSilo (gPc D ty true cstrs tE A [.ref (el 6 0), .int v] (hC D ty A tE el a)) (gQ A (fun _ _ => False)) (gX A (fun E H => E = "java/lang/IndexOutOfBoundsException" ∧ hC D ty A tE el a H)) 1 6 A := by
  refine g_tMet (cc := cX5_findSilo) (maxL := 2) (ret := (some (.object "Grainledger$Silo"))) [some (.ref (el 6 0)), some (.int v)] (by decide) rfl (Nat.le_of_ble_eq_true rfl) rfl ?_
  intro p e s m args below meth c S hlk hout hK hE hP0
  have S : CallFix p m c cX5_findSilo 2 s args wsX5_findSilo RX5 := S
  have hj : 0 < 4 := by decide
  refine g_iload_n S dX5_findSilo_0 rfl ?_
  refine g_if_lt S (tgt := 15) dX5_findSilo_1 (by decide) (fun c_1 => ?_) (fun c_1 => ?_)
  · exact g_throwSW S hl (cls := "java/lang/IndexOutOfBoundsException") (text := "there is no such silo") (names := ["java/lang/RuntimeException", "java/lang/Exception"]) (by decide) (by decide) (S.2.2.2.2 _ (List.mem_of_getElem? (i := 1) rfl)) (S.2.2.2.2 _ (List.mem_of_getElem? (i := 2) rfl)) (by decide +kernel) (by decide +kernel) (by decide +kernel) hE (by decide +kernel) dX5_findSilo_15 dX5_findSilo_18 dX5_findSilo_19 dX5_findSilo_22 dX5_findSilo_25 hout rfl rfl ⟨Nat.le_of_ble_eq_true rfl, Nat.le_of_ble_eq_true rfl⟩ ⟨Nat.le_of_ble_eq_true rfl, Nat.le_of_ble_eq_true rfl⟩ hlk (fun H H1 hP hz hq => ⟨rfl, hC_grow hP hz hq⟩) (Nat.le_of_ble_eq_true rfl) (Nat.le_of_ble_eq_true rfl)
  · refine g_iload_n S dX5_findSilo_4 rfl ?_
    refine g_aload_n S dX5_findSilo_5 rfl ?_
    refine k6_get S hK (by exact h6) 0 (by decide) (S.2.2.2.2 _ (List.mem_of_getElem? (i := 3) rfl)) rfl dX5_findSilo_6 ?_
    refine g_cVr S (k_size l D ty A tE el a hj) (cwV 0 S.2.2.2.2 gX5_findSilo_Jx4a65c_size_8abf5 rfl rfl rfl (by decide +kernel) ⟨Nat.le_of_ble_eq_true rfl, Nat.le_of_ble_eq_true rfl⟩) hK hE (fun H h => h) (k0_recv hK hj) rfl (Nat.le_of_ble_eq_true rfl) dX5_findSilo_9 ⟨Nat.le_of_ble_eq_true rfl, Nat.le_of_ble_eq_true rfl⟩ ?_
    refine g_icmp_lt S (tgt := 26) dX5_findSilo_12 (by decide) (fun c_12 => ?_) (fun c_12 => ?_)
    · exact absurd (vin_of c_1 c_12 hb) hv
    · exact g_throwSW S hl (cls := "java/lang/IndexOutOfBoundsException") (text := "there is no such silo") (names := ["java/lang/RuntimeException", "java/lang/Exception"]) (by decide) (by decide) (S.2.2.2.2 _ (List.mem_of_getElem? (i := 1) rfl)) (S.2.2.2.2 _ (List.mem_of_getElem? (i := 2) rfl)) (by decide +kernel) (by decide +kernel) (by decide +kernel) hE (by decide +kernel) dX5_findSilo_15 dX5_findSilo_18 dX5_findSilo_19 dX5_findSilo_22 dX5_findSilo_25 hout rfl rfl ⟨Nat.le_of_ble_eq_true rfl, Nat.le_of_ble_eq_true rfl⟩ ⟨Nat.le_of_ble_eq_true rfl, Nat.le_of_ble_eq_true rfl⟩ hlk (fun H H1 hP hz hq => ⟨rfl, hC_grow hP hz hq⟩) (Nat.le_of_ble_eq_true rfl) (Nat.le_of_ble_eq_true rfl)

abbrev rmX5_findDelivery : Room := { frames := 3, cells := 0, slots := 0, locals := 64 }
set_option maxHeartbeats 1500000 in
set_option maxRecDepth 100000 in
theorem k_findDelivery (l : Launch) (D : va_G) (ty : Nat → ClassId) (A : Nat → Prop) (tE : Nat) (el : Nat → Nat → Nat) (a : CS) (h6 : cOb a 6 0) (hb : cL a 1 < 2 ^ 31) {q : Nat} (hq : q < cL a 1) (ho : cOb a 2 q) : Met l yX5_findDelivery wsX5_findDelivery rmX5_findDelivery (gPc D ty true cstrs tE A [.ref (el 6 0), .int (nI q)] (hC D ty A tE el a)) (gQ A (gRet (some (.ref (el 2 q))) (hC D ty A tE el a))) 0 0 A := by
  refine g_Met (cc := cX5_findDelivery) (maxL := 2) (ret := (some (.object "Grainledger$Delivery"))) [some (.ref (el 6 0)), some (.int (nI q))] (by decide) rfl (Nat.le_of_ble_eq_true rfl) rfl ?_
  intro p e s m args below meth c S hlk hr hnm hK hE hP0
  have S : CallFix p m c cX5_findDelivery 2 s args wsX5_findDelivery RX5 := S
  have hj : 1 < 4 := by decide
  refine g_iload_n S dX5_findDelivery_0 rfl ?_
  refine g_if_lt S (tgt := 15) dX5_findDelivery_1 (by decide) (fun c_1 => ?_) (fun c_1 => ?_)
  · exact absurd c_1 (nI_nneg hq hb)
  · refine g_iload_n S dX5_findDelivery_4 rfl ?_
    refine g_aload_n S dX5_findDelivery_5 rfl ?_
    refine k6_get S hK (by exact h6) 1 (by decide) (S.2.2.2.2 _ (List.mem_of_getElem? (i := 3) rfl)) rfl dX5_findDelivery_6 ?_
    refine g_cVr S (k_size l D ty A tE el a hj) (cwV 0 S.2.2.2.2 gX5_findDelivery_Jx4a65c_size_8abf5 rfl rfl rfl (by decide +kernel) ⟨Nat.le_of_ble_eq_true rfl, Nat.le_of_ble_eq_true rfl⟩) hK hE (fun H h => h) (k0_recv hK hj) rfl (Nat.le_of_ble_eq_true rfl) dX5_findDelivery_9 ⟨Nat.le_of_ble_eq_true rfl, Nat.le_of_ble_eq_true rfl⟩ ?_
    refine g_icmp_lt S (tgt := 26) dX5_findDelivery_12 (by decide) (fun c_12 => ?_) (fun c_12 => ?_)
    · refine g_aload_n S dX5_findDelivery_26 rfl ?_
      refine k6_get S hK (by exact h6) 1 (by decide) (S.2.2.2.2 _ (List.mem_of_getElem? (i := 3) rfl)) rfl dX5_findDelivery_27 ?_
      refine g_iload_n S dX5_findDelivery_30 rfl ?_
      refine g_cVr S (k_get l D ty A tE el a hj hq hb) (cwV 1 S.2.2.2.2 gX5_findDelivery_Jx4a65c_get_915e3 rfl rfl rfl (by decide +kernel) ⟨Nat.le_of_ble_eq_true rfl, Nat.le_of_ble_eq_true rfl⟩) hK hE (fun H h => h) (k0_recv hK hj) rfl (Nat.le_of_ble_eq_true rfl) dX5_findDelivery_31 ⟨Nat.le_of_ble_eq_true rfl, Nat.le_of_ble_eq_true rfl⟩ ?_
      refine g_cast S hK (q := (RX1, TX1, 7)) (S.2.2.2.2 _ (List.mem_of_getElem? (i := 4) rfl)) (ci := 2) rfl (k2_recv hK ho) dX5_findDelivery_34 ?_
      exact g_aret S hlk hr (Or.inl ⟨_, rfl⟩) (Or.inr ⟨_, rfl⟩) (fun H h => ⟨rfl, h⟩) (Nat.le_refl _) (Nat.le_refl _) dX5_findDelivery_37
    · exact absurd (nI_ltn hq hb) c_12

abbrev rtX5_findDelivery : Room := { frames := 6, cells := 1, slots := 6, locals := 100 }
set_option maxHeartbeats 1500000 in
set_option maxRecDepth 100000 in
theorem t_findDelivery (l : Launch) (D : va_G) (ty : Nat → ClassId) (A : Nat → Prop) (hl : l.stackTraces = false) (tE : Nat) (el : Nat → Nat → Nat) (a : CS) (h6 : cOb a 6 0) (hb : cL a 1 < 2 ^ 31) (v : Int32) (hv : ¬ vp_in v (cL a 1)) : vx_Met l yX5_findDelivery wsX5_findDelivery rtX5_findDelivery (gPc D ty true cstrs tE A [.ref (el 6 0), .int v] (hC D ty A tE el a)) (gQ A (fun _ _ => False)) (gX A (fun E H => E = "java/lang/IndexOutOfBoundsException" ∧ hC D ty A tE el a H)) 1 6 A := by
  refine g_tMet (cc := cX5_findDelivery) (maxL := 2) (ret := (some (.object "Grainledger$Delivery"))) [some (.ref (el 6 0)), some (.int v)] (by decide) rfl (Nat.le_of_ble_eq_true rfl) rfl ?_
  intro p e s m args below meth c S hlk hout hK hE hP0
  have S : CallFix p m c cX5_findDelivery 2 s args wsX5_findDelivery RX5 := S
  have hj : 1 < 4 := by decide
  refine g_iload_n S dX5_findDelivery_0 rfl ?_
  refine g_if_lt S (tgt := 15) dX5_findDelivery_1 (by decide) (fun c_1 => ?_) (fun c_1 => ?_)
  · exact g_throwSW S hl (cls := "java/lang/IndexOutOfBoundsException") (text := "there is no such delivery") (names := ["java/lang/RuntimeException", "java/lang/Exception"]) (by decide) (by decide) (S.2.2.2.2 _ (List.mem_of_getElem? (i := 1) rfl)) (S.2.2.2.2 _ (List.mem_of_getElem? (i := 2) rfl)) (by decide +kernel) (by decide +kernel) (by decide +kernel) hE (by decide +kernel) dX5_findDelivery_15 dX5_findDelivery_18 dX5_findDelivery_19 dX5_findDelivery_22 dX5_findDelivery_25 hout rfl rfl ⟨Nat.le_of_ble_eq_true rfl, Nat.le_of_ble_eq_true rfl⟩ ⟨Nat.le_of_ble_eq_true rfl, Nat.le_of_ble_eq_true rfl⟩ hlk (fun H H1 hP hz hq => ⟨rfl, hC_grow hP hz hq⟩) (Nat.le_of_ble_eq_true rfl) (Nat.le_of_ble_eq_true rfl)
  · refine g_iload_n S dX5_findDelivery_4 rfl ?_
    refine g_aload_n S dX5_findDelivery_5 rfl ?_
    refine k6_get S hK (by exact h6) 1 (by decide) (S.2.2.2.2 _ (List.mem_of_getElem? (i := 3) rfl)) rfl dX5_findDelivery_6 ?_
    refine g_cVr S (k_size l D ty A tE el a hj) (cwV 0 S.2.2.2.2 gX5_findDelivery_Jx4a65c_size_8abf5 rfl rfl rfl (by decide +kernel) ⟨Nat.le_of_ble_eq_true rfl, Nat.le_of_ble_eq_true rfl⟩) hK hE (fun H h => h) (k0_recv hK hj) rfl (Nat.le_of_ble_eq_true rfl) dX5_findDelivery_9 ⟨Nat.le_of_ble_eq_true rfl, Nat.le_of_ble_eq_true rfl⟩ ?_
    refine g_icmp_lt S (tgt := 26) dX5_findDelivery_12 (by decide) (fun c_12 => ?_) (fun c_12 => ?_)
    · exact absurd (vin_of c_1 c_12 hb) hv
    · exact g_throwSW S hl (cls := "java/lang/IndexOutOfBoundsException") (text := "there is no such delivery") (names := ["java/lang/RuntimeException", "java/lang/Exception"]) (by decide) (by decide) (S.2.2.2.2 _ (List.mem_of_getElem? (i := 1) rfl)) (S.2.2.2.2 _ (List.mem_of_getElem? (i := 2) rfl)) (by decide +kernel) (by decide +kernel) (by decide +kernel) hE (by decide +kernel) dX5_findDelivery_15 dX5_findDelivery_18 dX5_findDelivery_19 dX5_findDelivery_22 dX5_findDelivery_25 hout rfl rfl ⟨Nat.le_of_ble_eq_true rfl, Nat.le_of_ble_eq_true rfl⟩ ⟨Nat.le_of_ble_eq_true rfl, Nat.le_of_ble_eq_true rfl⟩ hlk (fun H H1 hP hz hq => ⟨rfl, hC_grow hP hz hq⟩) (Nat.le_of_ble_eq_true rfl) (Nat.le_of_ble_eq_true rfl)

abbrev rmX5_findReceipt : Room := { frames := 3, cells := 0, slots := 0, locals := 64 }
set_option maxHeartbeats 1500000 in
set_option maxRecDepth 100000 in
theorem k_findReceipt (l : Launch) (D : va_G) (ty : Nat → ClassId) (A : Nat → Prop) (tE : Nat) (el : Nat → Nat → Nat) (a : CS) (h6 : cOb a 6 0) (hb : cL a 2 < 2 ^ 31) {q : Nat} (hq : q < cL a 2) (ho : cOb a 3 q) : Met l yX5_findReceipt wsX5_findReceipt rmX5_findReceipt (gPc D ty true cstrs tE A [.ref (el 6 0), .int (nI q)] (hC D ty A tE el a)) (gQ A (gRet (some (.ref (el 3 q))) (hC D ty A tE el a))) 0 0 A := by
  refine g_Met (cc := cX5_findReceipt) (maxL := 2) (ret := (some (.object "Grainledger$Receipt"))) [some (.ref (el 6 0)), some (.int (nI q))] (by decide) rfl (Nat.le_of_ble_eq_true rfl) rfl ?_
  intro p e s m args below meth c S hlk hr hnm hK hE hP0
  have S : CallFix p m c cX5_findReceipt 2 s args wsX5_findReceipt RX5 := S
  have hj : 2 < 4 := by decide
  refine g_iload_n S dX5_findReceipt_0 rfl ?_
  refine g_if_lt S (tgt := 15) dX5_findReceipt_1 (by decide) (fun c_1 => ?_) (fun c_1 => ?_)
  · exact absurd c_1 (nI_nneg hq hb)
  · refine g_iload_n S dX5_findReceipt_4 rfl ?_
    refine g_aload_n S dX5_findReceipt_5 rfl ?_
    refine k6_get S hK (by exact h6) 2 (by decide) (S.2.2.2.2 _ (List.mem_of_getElem? (i := 3) rfl)) rfl dX5_findReceipt_6 ?_
    refine g_cVr S (k_size l D ty A tE el a hj) (cwV 0 S.2.2.2.2 gX5_findReceipt_Jx4a65c_size_8abf5 rfl rfl rfl (by decide +kernel) ⟨Nat.le_of_ble_eq_true rfl, Nat.le_of_ble_eq_true rfl⟩) hK hE (fun H h => h) (k0_recv hK hj) rfl (Nat.le_of_ble_eq_true rfl) dX5_findReceipt_9 ⟨Nat.le_of_ble_eq_true rfl, Nat.le_of_ble_eq_true rfl⟩ ?_
    refine g_icmp_lt S (tgt := 26) dX5_findReceipt_12 (by decide) (fun c_12 => ?_) (fun c_12 => ?_)
    · refine g_aload_n S dX5_findReceipt_26 rfl ?_
      refine k6_get S hK (by exact h6) 2 (by decide) (S.2.2.2.2 _ (List.mem_of_getElem? (i := 3) rfl)) rfl dX5_findReceipt_27 ?_
      refine g_iload_n S dX5_findReceipt_30 rfl ?_
      refine g_cVr S (k_get l D ty A tE el a hj hq hb) (cwV 1 S.2.2.2.2 gX5_findReceipt_Jx4a65c_get_915e3 rfl rfl rfl (by decide +kernel) ⟨Nat.le_of_ble_eq_true rfl, Nat.le_of_ble_eq_true rfl⟩) hK hE (fun H h => h) (k0_recv hK hj) rfl (Nat.le_of_ble_eq_true rfl) dX5_findReceipt_31 ⟨Nat.le_of_ble_eq_true rfl, Nat.le_of_ble_eq_true rfl⟩ ?_
      refine g_cast S hK (q := (RX2, TX2, 9)) (S.2.2.2.2 _ (List.mem_of_getElem? (i := 4) rfl)) (ci := 3) rfl (k3_recv hK ho) dX5_findReceipt_34 ?_
      exact g_aret S hlk hr (Or.inl ⟨_, rfl⟩) (Or.inr ⟨_, rfl⟩) (fun H h => ⟨rfl, h⟩) (Nat.le_refl _) (Nat.le_refl _) dX5_findReceipt_37
    · exact absurd (nI_ltn hq hb) c_12

abbrev rtX5_findReceipt : Room := { frames := 6, cells := 1, slots := 6, locals := 100 }
set_option maxHeartbeats 1500000 in
set_option maxRecDepth 100000 in
theorem t_findReceipt (l : Launch) (D : va_G) (ty : Nat → ClassId) (A : Nat → Prop) (hl : l.stackTraces = false) (tE : Nat) (el : Nat → Nat → Nat) (a : CS) (h6 : cOb a 6 0) (hb : cL a 2 < 2 ^ 31) (v : Int32) (hv : ¬ vp_in v (cL a 2)) : vx_Met l yX5_findReceipt wsX5_findReceipt rtX5_findReceipt (gPc D ty true cstrs tE A [.ref (el 6 0), .int v] (hC D ty A tE el a)) (gQ A (fun _ _ => False)) (gX A (fun E H => E = "java/lang/IndexOutOfBoundsException" ∧ hC D ty A tE el a H)) 1 6 A := by
  refine g_tMet (cc := cX5_findReceipt) (maxL := 2) (ret := (some (.object "Grainledger$Receipt"))) [some (.ref (el 6 0)), some (.int v)] (by decide) rfl (Nat.le_of_ble_eq_true rfl) rfl ?_
  intro p e s m args below meth c S hlk hout hK hE hP0
  have S : CallFix p m c cX5_findReceipt 2 s args wsX5_findReceipt RX5 := S
  have hj : 2 < 4 := by decide
  refine g_iload_n S dX5_findReceipt_0 rfl ?_
  refine g_if_lt S (tgt := 15) dX5_findReceipt_1 (by decide) (fun c_1 => ?_) (fun c_1 => ?_)
  · exact g_throwSW S hl (cls := "java/lang/IndexOutOfBoundsException") (text := "there is no such receipt") (names := ["java/lang/RuntimeException", "java/lang/Exception"]) (by decide) (by decide) (S.2.2.2.2 _ (List.mem_of_getElem? (i := 1) rfl)) (S.2.2.2.2 _ (List.mem_of_getElem? (i := 2) rfl)) (by decide +kernel) (by decide +kernel) (by decide +kernel) hE (by decide +kernel) dX5_findReceipt_15 dX5_findReceipt_18 dX5_findReceipt_19 dX5_findReceipt_22 dX5_findReceipt_25 hout rfl rfl ⟨Nat.le_of_ble_eq_true rfl, Nat.le_of_ble_eq_true rfl⟩ ⟨Nat.le_of_ble_eq_true rfl, Nat.le_of_ble_eq_true rfl⟩ hlk (fun H H1 hP hz hq => ⟨rfl, hC_grow hP hz hq⟩) (Nat.le_of_ble_eq_true rfl) (Nat.le_of_ble_eq_true rfl)
  · refine g_iload_n S dX5_findReceipt_4 rfl ?_
    refine g_aload_n S dX5_findReceipt_5 rfl ?_
    refine k6_get S hK (by exact h6) 2 (by decide) (S.2.2.2.2 _ (List.mem_of_getElem? (i := 3) rfl)) rfl dX5_findReceipt_6 ?_
    refine g_cVr S (k_size l D ty A tE el a hj) (cwV 0 S.2.2.2.2 gX5_findReceipt_Jx4a65c_size_8abf5 rfl rfl rfl (by decide +kernel) ⟨Nat.le_of_ble_eq_true rfl, Nat.le_of_ble_eq_true rfl⟩) hK hE (fun H h => h) (k0_recv hK hj) rfl (Nat.le_of_ble_eq_true rfl) dX5_findReceipt_9 ⟨Nat.le_of_ble_eq_true rfl, Nat.le_of_ble_eq_true rfl⟩ ?_
    refine g_icmp_lt S (tgt := 26) dX5_findReceipt_12 (by decide) (fun c_12 => ?_) (fun c_12 => ?_)
    · exact absurd (vin_of c_1 c_12 hb) hv
    · exact g_throwSW S hl (cls := "java/lang/IndexOutOfBoundsException") (text := "there is no such receipt") (names := ["java/lang/RuntimeException", "java/lang/Exception"]) (by decide) (by decide) (S.2.2.2.2 _ (List.mem_of_getElem? (i := 1) rfl)) (S.2.2.2.2 _ (List.mem_of_getElem? (i := 2) rfl)) (by decide +kernel) (by decide +kernel) (by decide +kernel) hE (by decide +kernel) dX5_findReceipt_15 dX5_findReceipt_18 dX5_findReceipt_19 dX5_findReceipt_22 dX5_findReceipt_25 hout rfl rfl ⟨Nat.le_of_ble_eq_true rfl, Nat.le_of_ble_eq_true rfl⟩ ⟨Nat.le_of_ble_eq_true rfl, Nat.le_of_ble_eq_true rfl⟩ hlk (fun H H1 hP hz hq => ⟨rfl, hC_grow hP hz hq⟩) (Nat.le_of_ble_eq_true rfl) (Nat.le_of_ble_eq_true rfl)

abbrev rmX5_findContract : Room := { frames := 3, cells := 0, slots := 0, locals := 64 }
set_option maxHeartbeats 1500000 in
set_option maxRecDepth 100000 in
theorem k_findContract (l : Launch) (D : va_G) (ty : Nat → ClassId) (A : Nat → Prop) (tE : Nat) (el : Nat → Nat → Nat) (a : CS) (h6 : cOb a 6 0) (hb : cL a 3 < 2 ^ 31) {q : Nat} (hq : q < cL a 3) (ho : cOb a 1 q) : Met l yX5_findContract wsX5_findContract rmX5_findContract (gPc D ty true cstrs tE A [.ref (el 6 0), .int (nI q)] (hC D ty A tE el a)) (gQ A (gRet (some (.ref (el 1 q))) (hC D ty A tE el a))) 0 0 A := by
  refine g_Met (cc := cX5_findContract) (maxL := 2) (ret := (some (.object "Grainledger$Contract"))) [some (.ref (el 6 0)), some (.int (nI q))] (by decide) rfl (Nat.le_of_ble_eq_true rfl) rfl ?_
  intro p e s m args below meth c S hlk hr hnm hK hE hP0
  have S : CallFix p m c cX5_findContract 2 s args wsX5_findContract RX5 := S
  have hj : 3 < 4 := by decide
  refine g_iload_n S dX5_findContract_0 rfl ?_
  refine g_if_lt S (tgt := 15) dX5_findContract_1 (by decide) (fun c_1 => ?_) (fun c_1 => ?_)
  · exact absurd c_1 (nI_nneg hq hb)
  · refine g_iload_n S dX5_findContract_4 rfl ?_
    refine g_aload_n S dX5_findContract_5 rfl ?_
    refine k6_get S hK (by exact h6) 3 (by decide) (S.2.2.2.2 _ (List.mem_of_getElem? (i := 3) rfl)) rfl dX5_findContract_6 ?_
    refine g_cVr S (k_size l D ty A tE el a hj) (cwV 0 S.2.2.2.2 gX5_findContract_Jx4a65c_size_8abf5 rfl rfl rfl (by decide +kernel) ⟨Nat.le_of_ble_eq_true rfl, Nat.le_of_ble_eq_true rfl⟩) hK hE (fun H h => h) (k0_recv hK hj) rfl (Nat.le_of_ble_eq_true rfl) dX5_findContract_9 ⟨Nat.le_of_ble_eq_true rfl, Nat.le_of_ble_eq_true rfl⟩ ?_
    refine g_icmp_lt S (tgt := 26) dX5_findContract_12 (by decide) (fun c_12 => ?_) (fun c_12 => ?_)
    · refine g_aload_n S dX5_findContract_26 rfl ?_
      refine k6_get S hK (by exact h6) 3 (by decide) (S.2.2.2.2 _ (List.mem_of_getElem? (i := 3) rfl)) rfl dX5_findContract_27 ?_
      refine g_iload_n S dX5_findContract_30 rfl ?_
      refine g_cVr S (k_get l D ty A tE el a hj hq hb) (cwV 1 S.2.2.2.2 gX5_findContract_Jx4a65c_get_915e3 rfl rfl rfl (by decide +kernel) ⟨Nat.le_of_ble_eq_true rfl, Nat.le_of_ble_eq_true rfl⟩) hK hE (fun H h => h) (k0_recv hK hj) rfl (Nat.le_of_ble_eq_true rfl) dX5_findContract_31 ⟨Nat.le_of_ble_eq_true rfl, Nat.le_of_ble_eq_true rfl⟩ ?_
      refine g_cast S hK (q := (RX0, TX0, 11)) (S.2.2.2.2 _ (List.mem_of_getElem? (i := 4) rfl)) (ci := 1) rfl (k1_recv hK ho) dX5_findContract_34 ?_
      exact g_aret S hlk hr (Or.inl ⟨_, rfl⟩) (Or.inr ⟨_, rfl⟩) (fun H h => ⟨rfl, h⟩) (Nat.le_refl _) (Nat.le_refl _) dX5_findContract_37
    · exact absurd (nI_ltn hq hb) c_12

abbrev rtX5_findContract : Room := { frames := 6, cells := 1, slots := 6, locals := 100 }
set_option maxHeartbeats 1500000 in
set_option maxRecDepth 100000 in
theorem t_findContract (l : Launch) (D : va_G) (ty : Nat → ClassId) (A : Nat → Prop) (hl : l.stackTraces = false) (tE : Nat) (el : Nat → Nat → Nat) (a : CS) (h6 : cOb a 6 0) (hb : cL a 3 < 2 ^ 31) (v : Int32) (hv : ¬ vp_in v (cL a 3)) : vx_Met l yX5_findContract wsX5_findContract rtX5_findContract (gPc D ty true cstrs tE A [.ref (el 6 0), .int v] (hC D ty A tE el a)) (gQ A (fun _ _ => False)) (gX A (fun E H => E = "java/lang/IndexOutOfBoundsException" ∧ hC D ty A tE el a H)) 1 6 A := by
  refine g_tMet (cc := cX5_findContract) (maxL := 2) (ret := (some (.object "Grainledger$Contract"))) [some (.ref (el 6 0)), some (.int v)] (by decide) rfl (Nat.le_of_ble_eq_true rfl) rfl ?_
  intro p e s m args below meth c S hlk hout hK hE hP0
  have S : CallFix p m c cX5_findContract 2 s args wsX5_findContract RX5 := S
  have hj : 3 < 4 := by decide
  refine g_iload_n S dX5_findContract_0 rfl ?_
  refine g_if_lt S (tgt := 15) dX5_findContract_1 (by decide) (fun c_1 => ?_) (fun c_1 => ?_)
  · exact g_throwSW S hl (cls := "java/lang/IndexOutOfBoundsException") (text := "there is no such contract") (names := ["java/lang/RuntimeException", "java/lang/Exception"]) (by decide) (by decide) (S.2.2.2.2 _ (List.mem_of_getElem? (i := 1) rfl)) (S.2.2.2.2 _ (List.mem_of_getElem? (i := 2) rfl)) (by decide +kernel) (by decide +kernel) (by decide +kernel) hE (by decide +kernel) dX5_findContract_15 dX5_findContract_18 dX5_findContract_19 dX5_findContract_22 dX5_findContract_25 hout rfl rfl ⟨Nat.le_of_ble_eq_true rfl, Nat.le_of_ble_eq_true rfl⟩ ⟨Nat.le_of_ble_eq_true rfl, Nat.le_of_ble_eq_true rfl⟩ hlk (fun H H1 hP hz hq => ⟨rfl, hC_grow hP hz hq⟩) (Nat.le_of_ble_eq_true rfl) (Nat.le_of_ble_eq_true rfl)
  · refine g_iload_n S dX5_findContract_4 rfl ?_
    refine g_aload_n S dX5_findContract_5 rfl ?_
    refine k6_get S hK (by exact h6) 3 (by decide) (S.2.2.2.2 _ (List.mem_of_getElem? (i := 3) rfl)) rfl dX5_findContract_6 ?_
    refine g_cVr S (k_size l D ty A tE el a hj) (cwV 0 S.2.2.2.2 gX5_findContract_Jx4a65c_size_8abf5 rfl rfl rfl (by decide +kernel) ⟨Nat.le_of_ble_eq_true rfl, Nat.le_of_ble_eq_true rfl⟩) hK hE (fun H h => h) (k0_recv hK hj) rfl (Nat.le_of_ble_eq_true rfl) dX5_findContract_9 ⟨Nat.le_of_ble_eq_true rfl, Nat.le_of_ble_eq_true rfl⟩ ?_
    refine g_icmp_lt S (tgt := 26) dX5_findContract_12 (by decide) (fun c_12 => ?_) (fun c_12 => ?_)
    · exact absurd (vin_of c_1 c_12 hb) hv
    · exact g_throwSW S hl (cls := "java/lang/IndexOutOfBoundsException") (text := "there is no such contract") (names := ["java/lang/RuntimeException", "java/lang/Exception"]) (by decide) (by decide) (S.2.2.2.2 _ (List.mem_of_getElem? (i := 1) rfl)) (S.2.2.2.2 _ (List.mem_of_getElem? (i := 2) rfl)) (by decide +kernel) (by decide +kernel) (by decide +kernel) hE (by decide +kernel) dX5_findContract_15 dX5_findContract_18 dX5_findContract_19 dX5_findContract_22 dX5_findContract_25 hout rfl rfl ⟨Nat.le_of_ble_eq_true rfl, Nat.le_of_ble_eq_true rfl⟩ ⟨Nat.le_of_ble_eq_true rfl, Nat.le_of_ble_eq_true rfl⟩ hlk (fun H H1 hP hz hq => ⟨rfl, hC_grow hP hz hq⟩) (Nat.le_of_ble_eq_true rfl) (Nat.le_of_ble_eq_true rfl)

abbrev rmX5_receiptsAreFull : Room := { frames := 1, cells := 0, slots := 0, locals := 20 }
set_option maxHeartbeats 1500000 in
set_option maxRecDepth 100000 in
theorem k_full (l : Launch) (D : va_G) (ty : Nat → ClassId) (A : Nat → Prop) (tE : Nat) (el : Nat → Nat → Nat) (a : CS) (h6 : cOb a 6 0) : Met l yX5_receiptsAreFull wsX5_receiptsAreFull rmX5_receiptsAreFull (gPc D ty true cstrs tE A [.ref (el 6 0)] (hC D ty A tE el a)) (gQ A (gRet (some (.int (b2 (decide (80 ≤ nI (cL a 2)))))) (hC D ty A tE el a))) 0 0 A := by
  refine g_Met (cc := cX5_receiptsAreFull) (maxL := 1) (ret := (some .boolean)) [some (.ref (el 6 0))] (by decide) rfl (Nat.le_of_ble_eq_true rfl) rfl ?_
  intro p e s m args below meth c S hlk hr hnm hK hE hP0
  have S : CallFix p m c cX5_receiptsAreFull 1 s args wsX5_receiptsAreFull RX5 := S
  have hj : 2 < 4 := by decide
  refine g_aload_n S dX5_receiptsAreFull_0 rfl ?_
  refine k6_get S hK (by exact h6) 2 (by decide) (S.2.2.2.2 _ (List.mem_of_getElem? (i := 1) rfl)) rfl dX5_receiptsAreFull_1 ?_
  refine g_cVr S (k_size l D ty A tE el a hj) (cwV 0 S.2.2.2.2 gX5_receiptsAreFull_Jx4a65c_size_8abf5 rfl rfl rfl (by decide +kernel) ⟨Nat.le_of_ble_eq_true rfl, Nat.le_of_ble_eq_true rfl⟩) hK hE (fun H h => h) (k0_recv hK hj) rfl (Nat.le_of_ble_eq_true rfl) dX5_receiptsAreFull_4 ⟨Nat.le_of_ble_eq_true rfl, Nat.le_of_ble_eq_true rfl⟩ ?_
  refine g_bipush S (v := 80) dX5_receiptsAreFull_7 (by decide) ?_
  refine g_icmp_lt S (tgt := 16) dX5_receiptsAreFull_9 (by decide) (fun c_9 => ?_) (fun c_9 => ?_)
  · refine g_iconst S (v := 0) dX5_receiptsAreFull_16 (by decide) ?_
    exact g_zret S hlk hr (by first | rfl | exact nar_b2 _) (fun H h => ⟨by simp [b2, Int32.not_le.mpr c_9], h⟩) (Nat.le_refl _) (Nat.le_refl _) dX5_receiptsAreFull_17
  · refine g_iconst S (v := 1) dX5_receiptsAreFull_12 (by decide) ?_
    refine g_goto S (tgt := 17) dX5_receiptsAreFull_13 (by decide) ?_
    exact g_zret S hlk hr (by first | rfl | exact nar_b2 _) (fun H h => ⟨by simp [b2, Int32.not_lt.mp c_9], h⟩) (Nat.le_refl _) (Nat.le_refl _) dX5_receiptsAreFull_17

abbrev rmX5_receipts : Room := { frames := 1, cells := 0, slots := 0, locals := 20 }
set_option maxHeartbeats 1500000 in
set_option maxRecDepth 100000 in
theorem k_receipts (l : Launch) (D : va_G) (ty : Nat → ClassId) (A : Nat → Prop) (tE : Nat) (el : Nat → Nat → Nat) (a : CS) (h6 : cOb a 6 0) : Met l yX5_receipts wsX5_receipts rmX5_receipts (gPc D ty true cstrs tE A [.ref (el 6 0)] (hC D ty A tE el a)) (gQ A (gRet (some (.int (nI (cL a 2)))) (hC D ty A tE el a))) 0 0 A := by
  refine g_Met (cc := cX5_receipts) (maxL := 1) (ret := (some .int)) [some (.ref (el 6 0))] (by decide) rfl (Nat.le_of_ble_eq_true rfl) rfl ?_
  intro p e s m args below meth c S hlk hr hnm hK hE hP0
  have S : CallFix p m c cX5_receipts 1 s args wsX5_receipts RX5 := S
  have hj : 2 < 4 := by decide
  refine g_aload_n S dX5_receipts_0 rfl ?_
  refine k6_get S hK (by exact h6) 2 (by decide) (S.2.2.2.2 _ (List.mem_of_getElem? (i := 1) rfl)) rfl dX5_receipts_1 ?_
  refine g_cVr S (k_size l D ty A tE el a hj) (cwV 0 S.2.2.2.2 gX5_receipts_Jx4a65c_size_8abf5 rfl rfl rfl (by decide +kernel) ⟨Nat.le_of_ble_eq_true rfl, Nat.le_of_ble_eq_true rfl⟩) hK hE (fun H h => h) (k0_recv hK hj) rfl (Nat.le_of_ble_eq_true rfl) dX5_receipts_4 ⟨Nat.le_of_ble_eq_true rfl, Nat.le_of_ble_eq_true rfl⟩ ?_
  exact g_iret S hlk hr (fun H h => ⟨rfl, h⟩) (Nat.le_refl _) (Nat.le_refl _) dX5_receipts_7

