abbrev rmX5_takeOut : Room := { frames := 4, cells := 0, slots := 0, locals := 85 }
set_option maxHeartbeats 1500000 in
set_option maxRecDepth 100000 in
theorem k_takeOut (l : Launch) (D : va_G) (ty : Nat → ClassId) (A : Nat → Prop) (tE : Nat) (el : Nat → Nat → Nat) (a : CS) (h6 : cOb a 6 0) (hb : cL a 2 < 2 ^ 31) {q : Nat} (hq : q < cL a 2) (h3 : cOb a 3 q) {d : Nat} (hd : cR a 3 1 q = some d) (h2 : cOb a 2 d) {i : Nat} (hs : cR a 2 4 d = some i) (h4 : cOb a 4 i) (hv : (0 < cI a 3 3 q ∧ cI a 3 4 q = -1)) : Met l yX5_takeOut wsX5_takeOut rmX5_takeOut (gPc D ty true cstrs tE A [.ref (el 6 0), .int (nI q)] (hC D ty A tE el a)) (gQ A (gRet (some (.int (cI a 3 3 q))) (hC D ty A tE el (kTakeFrom a q i (cI a 3 3 q))))) 0 0 A := by
  refine g_Met (cc := cX5_takeOut) (maxL := 4) (ret := (some .int)) [some (.ref (el 6 0)), some (.int (nI q)), none, none] (by decide) rfl (Nat.le_of_ble_eq_true rfl) rfl ?_
  intro p e s m args below meth c S hlk hr hnm hK hE hP0
  have S : CallFix p m c cX5_takeOut 4 s args wsX5_takeOut RX5 := S
  refine g_aload_n S dX5_takeOut_0 rfl ?_
  refine g_iload_n S dX5_takeOut_1 rfl ?_
  refine g_cVr S (k_findReceipt l D ty A tE el a h6 hb hq h3) (cwV 1 S.2.2.2.2 gX5_takeOut_X5_findReceipt rfl rfl rfl (by decide +kernel) ⟨Nat.le_of_ble_eq_true rfl, Nat.le_of_ble_eq_true rfl⟩) hK hE (fun H h => h) (k6_recv hK h6) rfl (Nat.le_of_ble_eq_true rfl) dX5_takeOut_2 ⟨Nat.le_of_ble_eq_true rfl, Nat.le_of_ble_eq_true rfl⟩ ?_
  refine g_astore_n S dX5_takeOut_5 (by decide) rfl ?_
  refine g_aload_n S dX5_takeOut_6 rfl ?_
  refine g_cVr S (k_isLive l D ty A tE el _ (by exact h3)) (cwV 0 S.2.2.2.2 gX5_takeOut_X2_isLive rfl rfl rfl (by decide +kernel) ⟨Nat.le_of_ble_eq_true rfl, Nat.le_of_ble_eq_true rfl⟩) hK hE (fun H h => h) (k3_recv hK (by exact h3)) rfl (Nat.le_of_ble_eq_true rfl) dX5_takeOut_7 ⟨Nat.le_of_ble_eq_true rfl, Nat.le_of_ble_eq_true rfl⟩ ?_
  refine g_ifb_eq S (tgt := 20) dX5_takeOut_10 (by decide) (fun c_10 => ?_) (fun c_10 => ?_)
  · exact absurd hv.1 (of_decide_eq_false c_10)
  · refine g_aload_n S dX5_takeOut_13 rfl ?_
    refine g_cVr S (k_isPledged l D ty A tE el _ (by exact h3)) (cwV 0 S.2.2.2.2 gX5_takeOut_X2_isPledged rfl rfl rfl (by decide +kernel) ⟨Nat.le_of_ble_eq_true rfl, Nat.le_of_ble_eq_true rfl⟩) hK hE (fun H h => h) (k3_recv hK (by exact h3)) rfl (Nat.le_of_ble_eq_true rfl) dX5_takeOut_14 ⟨Nat.le_of_ble_eq_true rfl, Nat.le_of_ble_eq_true rfl⟩ ?_
    refine g_ifb_eq S (tgt := 30) dX5_takeOut_17 (by decide) (fun c_17 => ?_) (fun c_17 => ?_)
    · refine g_aload_n S dX5_takeOut_30 rfl ?_
      refine k3_get S hK (by exact h3) 3 (by decide) (S.2.2.2.2 _ (List.mem_of_getElem? (i := 3) rfl)) rfl dX5_takeOut_31 ?_
      refine g_istore_n S dX5_takeOut_34 (by decide) rfl ?_
      refine g_aload_n S dX5_takeOut_35 rfl ?_
      refine g_aload_n S dX5_takeOut_36 rfl ?_
      refine g_iload_n S dX5_takeOut_37 rfl ?_
      refine g_cVv S (k_takeFrom l D ty A tE el _ (by exact h6) (by exact h3) (by exact hd) (by exact h2) (by exact hs) (by exact h4) _) (cwV 2 S.2.2.2.2 gX5_takeOut_X5_takeFrom rfl rfl rfl (by decide +kernel) ⟨Nat.le_of_ble_eq_true rfl, Nat.le_of_ble_eq_true rfl⟩) hK hE (fun H h => h) (k6_recv hK h6) rfl (Nat.le_of_ble_eq_true rfl) dX5_takeOut_38 ⟨Nat.le_of_ble_eq_true rfl, Nat.le_of_ble_eq_true rfl⟩ ?_
      refine g_iload_n S dX5_takeOut_41 rfl ?_
      exact g_iret S hlk hr (fun H h => ⟨rfl, h⟩) (Nat.le_refl _) (Nat.le_refl _) dX5_takeOut_42
    · exact absurd hv.2 (of_decide_eq_true c_17)

abbrev rtX5_takeOut : Room := { frames := 8, cells := 1, slots := 6, locals := 300 }
set_option maxHeartbeats 1500000 in
set_option maxRecDepth 100000 in
theorem t_takeOut1 (l : Launch) (D : va_G) (ty : Nat → ClassId) (A : Nat → Prop) (hl : l.stackTraces = false) (tE : Nat) (el : Nat → Nat → Nat) (a : CS) (h6 : cOb a 6 0) (hb : cL a 2 < 2 ^ 31) (v : Int32) (hv : ¬ vp_in v (cL a 2)) : vx_Met l yX5_takeOut wsX5_takeOut rtX5_takeOut (gPc D ty true cstrs tE A [.ref (el 6 0), .int v] (hC D ty A tE el a)) (gQ A (fun _ _ => False)) (gX A (fun E H => E = "java/lang/IndexOutOfBoundsException" ∧ hC D ty A tE el a H)) 1 6 A := by
  refine g_tMet (cc := cX5_takeOut) (maxL := 4) (ret := (some .int)) [some (.ref (el 6 0)), some (.int v), none, none] (by decide) rfl (Nat.le_of_ble_eq_true rfl) rfl ?_
  intro p e s m args below meth c S hlk hout hK hE hP0
  have S : CallFix p m c cX5_takeOut 4 s args wsX5_takeOut RX5 := S
  refine g_aload_n S dX5_takeOut_0 rfl ?_
  refine g_iload_n S dX5_takeOut_1 rfl ?_
  exact g_tcallV S (t_findReceipt l D ty A hl tE el a h6 hb _ hv) (cwV 1 S.2.2.2.2 gX5_takeOut_X5_findReceipt rfl rfl rfl (by decide +kernel) ⟨Nat.le_of_ble_eq_true rfl, Nat.le_of_ble_eq_true rfl⟩) hK hE (fun H h => h) (k6_recv hK h6) rfl (Nat.le_of_ble_eq_true rfl) dX5_takeOut_2 ⟨Nat.le_of_ble_eq_true rfl, Nat.le_of_ble_eq_true rfl⟩ (fun E => g_out hout hlk (fun H h => h) (Nat.le_of_ble_eq_true rfl) (Nat.le_of_ble_eq_true rfl))

set_option maxHeartbeats 1500000 in
set_option maxRecDepth 100000 in
theorem t_takeOut2 (l : Launch) (D : va_G) (ty : Nat → ClassId) (A : Nat → Prop) (hl : l.stackTraces = false) (tE : Nat) (el : Nat → Nat → Nat) (a : CS) (h6 : cOb a 6 0) (hb : cL a 2 < 2 ^ 31) {q : Nat} (hq : q < cL a 2) (h3 : cOb a 3 q) (hv : ¬ (0 < cI a 3 3 q ∧ cI a 3 4 q = -1)) : vx_Met l yX5_takeOut wsX5_takeOut rtX5_takeOut (gPc D ty true cstrs tE A [.ref (el 6 0), .int (nI q)] (hC D ty A tE el a)) (gQ A (fun _ _ => False)) (gX A (fun E H => E = "java/lang/IllegalStateException" ∧ hC D ty A tE el a H)) 1 6 A := by
  refine g_tMet (cc := cX5_takeOut) (maxL := 4) (ret := (some .int)) [some (.ref (el 6 0)), some (.int (nI q)), none, none] (by decide) rfl (Nat.le_of_ble_eq_true rfl) rfl ?_
  intro p e s m args below meth c S hlk hout hK hE hP0
  have S : CallFix p m c cX5_takeOut 4 s args wsX5_takeOut RX5 := S
  refine g_aload_n S dX5_takeOut_0 rfl ?_
  refine g_iload_n S dX5_takeOut_1 rfl ?_
  refine g_cVr S (k_findReceipt l D ty A tE el a h6 hb hq h3) (cwV 1 S.2.2.2.2 gX5_takeOut_X5_findReceipt rfl rfl rfl (by decide +kernel) ⟨Nat.le_of_ble_eq_true rfl, Nat.le_of_ble_eq_true rfl⟩) hK hE (fun H h => h) (k6_recv hK h6) rfl (Nat.le_of_ble_eq_true rfl) dX5_takeOut_2 ⟨Nat.le_of_ble_eq_true rfl, Nat.le_of_ble_eq_true rfl⟩ ?_
  refine g_astore_n S dX5_takeOut_5 (by decide) rfl ?_
  refine g_aload_n S dX5_takeOut_6 rfl ?_
  refine g_cVr S (k_isLive l D ty A tE el _ (by exact h3)) (cwV 0 S.2.2.2.2 gX5_takeOut_X2_isLive rfl rfl rfl (by decide +kernel) ⟨Nat.le_of_ble_eq_true rfl, Nat.le_of_ble_eq_true rfl⟩) hK hE (fun H h => h) (k3_recv hK (by exact h3)) rfl (Nat.le_of_ble_eq_true rfl) dX5_takeOut_7 ⟨Nat.le_of_ble_eq_true rfl, Nat.le_of_ble_eq_true rfl⟩ ?_
  refine g_ifb_eq S (tgt := 20) dX5_takeOut_10 (by decide) (fun c_10 => ?_) (fun c_10 => ?_)
  · exact g_throwS S hl (cls := "java/lang/IllegalStateException") (text := "the receipt cannot be taken out") (names := ["java/lang/RuntimeException", "java/lang/Exception"]) (by decide) (by decide) (S.2.2.2.2 _ (List.mem_of_getElem? (i := 1) rfl)) (S.2.2.2.2 _ (List.mem_of_getElem? (i := 2) rfl)) (by decide +kernel) (by decide +kernel) (by decide +kernel) hE (by decide +kernel) dX5_takeOut_20 dX5_takeOut_23 dX5_takeOut_24 dX5_takeOut_26 dX5_takeOut_29 hout rfl rfl ⟨Nat.le_of_ble_eq_true rfl, Nat.le_of_ble_eq_true rfl⟩ ⟨Nat.le_of_ble_eq_true rfl, Nat.le_of_ble_eq_true rfl⟩ hlk (fun H H1 hP hz hq => ⟨rfl, hC_grow hP hz hq⟩) (Nat.le_of_ble_eq_true rfl) (Nat.le_of_ble_eq_true rfl)
  · refine g_aload_n S dX5_takeOut_13 rfl ?_
    refine g_cVr S (k_isPledged l D ty A tE el _ (by exact h3)) (cwV 0 S.2.2.2.2 gX5_takeOut_X2_isPledged rfl rfl rfl (by decide +kernel) ⟨Nat.le_of_ble_eq_true rfl, Nat.le_of_ble_eq_true rfl⟩) hK hE (fun H h => h) (k3_recv hK (by exact h3)) rfl (Nat.le_of_ble_eq_true rfl) dX5_takeOut_14 ⟨Nat.le_of_ble_eq_true rfl, Nat.le_of_ble_eq_true rfl⟩ ?_
    refine g_ifb_eq S (tgt := 30) dX5_takeOut_17 (by decide) (fun c_17 => ?_) (fun c_17 => ?_)
    · exact absurd ⟨of_decide_eq_true c_10, Decidable.of_not_not (of_decide_eq_false c_17)⟩ hv
    · exact g_throwS S hl (cls := "java/lang/IllegalStateException") (text := "the receipt cannot be taken out") (names := ["java/lang/RuntimeException", "java/lang/Exception"]) (by decide) (by decide) (S.2.2.2.2 _ (List.mem_of_getElem? (i := 1) rfl)) (S.2.2.2.2 _ (List.mem_of_getElem? (i := 2) rfl)) (by decide +kernel) (by decide +kernel) (by decide +kernel) hE (by decide +kernel) dX5_takeOut_20 dX5_takeOut_23 dX5_takeOut_24 dX5_takeOut_26 dX5_takeOut_29 hout rfl rfl ⟨Nat.le_of_ble_eq_true rfl, Nat.le_of_ble_eq_true rfl⟩ ⟨Nat.le_of_ble_eq_true rfl, Nat.le_of_ble_eq_true rfl⟩ hlk (fun H H1 hP hz hq => ⟨rfl, hC_grow hP hz hq⟩) (Nat.le_of_ble_eq_true rfl) (Nat.le_of_ble_eq_true rfl)

set_option maxHeartbeats 1500000 in
set_option maxRecDepth 100000 in
theorem t_redeem2 (l : Launch) (D : va_G) (ty : Nat → ClassId) (A : Nat → Prop) (hl : l.stackTraces = false) (tE : Nat) (el : Nat → Nat → Nat) (a : CS) (h6 : cOb a 6 0) (hb : cL a 2 < 2 ^ 31) {q : Nat} (hq : q < cL a 2) (h3 : cOb a 3 q) (hv : cI a 3 4 q = -1) : vx_Met l yX5_redeem wsX5_redeem rtX5_redeem (gPc D ty true cstrs tE A [.ref (el 6 0), .int (nI q)] (hC D ty A tE el a)) (gQ A (fun _ _ => False)) (gX A (fun E H => E = "java/lang/IllegalStateException" ∧ hC D ty A tE el a H)) 1 6 A := by
  refine g_tMet (cc := cX5_redeem) (maxL := 4) (ret := (some .int)) [some (.ref (el 6 0)), some (.int (nI q)), none, none] (by decide) rfl (Nat.le_of_ble_eq_true rfl) rfl ?_
  intro p e s m args below meth c S hlk hout hK hE hP0
  have S : CallFix p m c cX5_redeem 4 s args wsX5_redeem RX5 := S
  refine g_aload_n S dX5_redeem_0 rfl ?_
  refine g_iload_n S dX5_redeem_1 rfl ?_
  refine g_cVr S (k_findReceipt l D ty A tE el a h6 hb hq h3) (cwV 1 S.2.2.2.2 gX5_redeem_X5_findReceipt rfl rfl rfl (by decide +kernel) ⟨Nat.le_of_ble_eq_true rfl, Nat.le_of_ble_eq_true rfl⟩) hK hE (fun H h => h) (k6_recv hK h6) rfl (Nat.le_of_ble_eq_true rfl) dX5_redeem_2 ⟨Nat.le_of_ble_eq_true rfl, Nat.le_of_ble_eq_true rfl⟩ ?_
  refine g_astore_n S dX5_redeem_5 (by decide) rfl ?_
  refine g_aload_n S dX5_redeem_6 rfl ?_
  refine g_cVr S (k_isPledged l D ty A tE el _ (by exact h3)) (cwV 0 S.2.2.2.2 gX5_redeem_X2_isPledged rfl rfl rfl (by decide +kernel) ⟨Nat.le_of_ble_eq_true rfl, Nat.le_of_ble_eq_true rfl⟩) hK hE (fun H h => h) (k3_recv hK (by exact h3)) rfl (Nat.le_of_ble_eq_true rfl) dX5_redeem_7 ⟨Nat.le_of_ble_eq_true rfl, Nat.le_of_ble_eq_true rfl⟩ ?_
  refine g_ifb_ne S (tgt := 23) dX5_redeem_10 (by decide) (fun c_10 => ?_) (fun c_10 => ?_)
  · exact absurd hv (of_decide_eq_true c_10)
  · exact g_throwS S hl (cls := "java/lang/IllegalStateException") (text := "the receipt is not pledged") (names := ["java/lang/RuntimeException", "java/lang/Exception"]) (by decide) (by decide) (S.2.2.2.2 _ (List.mem_of_getElem? (i := 1) rfl)) (S.2.2.2.2 _ (List.mem_of_getElem? (i := 2) rfl)) (by decide +kernel) (by decide +kernel) (by decide +kernel) hE (by decide +kernel) dX5_redeem_13 dX5_redeem_16 dX5_redeem_17 dX5_redeem_19 dX5_redeem_22 hout rfl rfl ⟨Nat.le_of_ble_eq_true rfl, Nat.le_of_ble_eq_true rfl⟩ ⟨Nat.le_of_ble_eq_true rfl, Nat.le_of_ble_eq_true rfl⟩ hlk (fun H H1 hP hz hq => ⟨rfl, hC_grow hP hz hq⟩) (Nat.le_of_ble_eq_true rfl) (Nat.le_of_ble_eq_true rfl)

abbrev rmX5_delivery : Room := { frames := 4, cells := 0, slots := 0, locals := 85 }
set_option maxHeartbeats 1500000 in
set_option maxRecDepth 100000 in
theorem k_delivery0 (l : Launch) (D : va_G) (ty : Nat → ClassId) (A : Nat → Prop) (tE : Nat) (el : Nat → Nat → Nat) (a : CS) (h6 : cOb a 6 0) (hb : cL a 1 < 2 ^ 31) {q : Nat} (hq : q < cL a 1) (h2 : cOb a 2 q)  : Met l yX5_delivery wsX5_delivery rmX5_delivery (gPc D ty true cstrs tE A [.ref (el 6 0), .int (nI q), .int 0] (hC D ty A tE el a)) (gQ A (gRet (some (.int (cI a 2 6 q))) (hC D ty A tE el a))) 0 0 A := by
  refine g_Met (cc := cX5_delivery) (maxL := 4) (ret := (some .int)) [some (.ref (el 6 0)), some (.int (nI q)), some (.int 0), none] (by decide) rfl (Nat.le_of_ble_eq_true rfl) rfl ?_
  intro p e s m args below meth c S hlk hr hnm hK hE hP0
  have S : CallFix p m c cX5_delivery 4 s args wsX5_delivery RX5 := S
  refine g_aload_n S dX5_delivery_0 rfl ?_
  refine g_iload_n S dX5_delivery_1 rfl ?_
  refine g_cVr S (k_findDelivery l D ty A tE el a h6 hb hq h2) (cwV 1 S.2.2.2.2 gX5_delivery_X5_findDelivery rfl rfl rfl (by decide +kernel) ⟨Nat.le_of_ble_eq_true rfl, Nat.le_of_ble_eq_true rfl⟩) hK hE (fun H h => h) (k6_recv hK h6) rfl (Nat.le_of_ble_eq_true rfl) dX5_delivery_2 ⟨Nat.le_of_ble_eq_true rfl, Nat.le_of_ble_eq_true rfl⟩ ?_
  refine g_astore_n S dX5_delivery_5 (by decide) rfl ?_
  refine g_iload_n S dX5_delivery_6 rfl ?_
  refine g_tableIn S (tgt := 36) dX5_delivery_7 (by decide) (by decide) rfl (by decide) ?_
  refine g_aload_n S dX5_delivery_36 rfl ?_
  refine k2_get S hK (by exact h2) 6 (by decide) (S.2.2.2.2 _ (List.mem_of_getElem? (i := 3) rfl)) rfl dX5_delivery_37 ?_
  exact g_iret S hlk hr (fun H h => ⟨rfl, h⟩) (Nat.le_refl _) (Nat.le_refl _) dX5_delivery_40

set_option maxHeartbeats 1500000 in
set_option maxRecDepth 100000 in
theorem k_delivery1 (l : Launch) (D : va_G) (ty : Nat → ClassId) (A : Nat → Prop) (tE : Nat) (el : Nat → Nat → Nat) (a : CS) (h6 : cOb a 6 0) (hb : cL a 1 < 2 ^ 31) {q : Nat} (hq : q < cL a 1) (h2 : cOb a 2 q)  : Met l yX5_delivery wsX5_delivery rmX5_delivery (gPc D ty true cstrs tE A [.ref (el 6 0), .int (nI q), .int 1] (hC D ty A tE el a)) (gQ A (gRet (some (.int (cI a 2 3 q))) (hC D ty A tE el a))) 0 0 A := by
  refine g_Met (cc := cX5_delivery) (maxL := 4) (ret := (some .int)) [some (.ref (el 6 0)), some (.int (nI q)), some (.int 1), none] (by decide) rfl (Nat.le_of_ble_eq_true rfl) rfl ?_
  intro p e s m args below meth c S hlk hr hnm hK hE hP0
  have S : CallFix p m c cX5_delivery 4 s args wsX5_delivery RX5 := S
  refine g_aload_n S dX5_delivery_0 rfl ?_
  refine g_iload_n S dX5_delivery_1 rfl ?_
  refine g_cVr S (k_findDelivery l D ty A tE el a h6 hb hq h2) (cwV 1 S.2.2.2.2 gX5_delivery_X5_findDelivery rfl rfl rfl (by decide +kernel) ⟨Nat.le_of_ble_eq_true rfl, Nat.le_of_ble_eq_true rfl⟩) hK hE (fun H h => h) (k6_recv hK h6) rfl (Nat.le_of_ble_eq_true rfl) dX5_delivery_2 ⟨Nat.le_of_ble_eq_true rfl, Nat.le_of_ble_eq_true rfl⟩ ?_
  refine g_astore_n S dX5_delivery_5 (by decide) rfl ?_
  refine g_iload_n S dX5_delivery_6 rfl ?_
  refine g_tableIn S (tgt := 41) dX5_delivery_7 (by decide) (by decide) rfl (by decide) ?_
  refine g_aload_n S dX5_delivery_41 rfl ?_
  refine k2_get S hK (by exact h2) 3 (by decide) (S.2.2.2.2 _ (List.mem_of_getElem? (i := 4) rfl)) rfl dX5_delivery_42 ?_
  exact g_iret S hlk hr (fun H h => ⟨rfl, h⟩) (Nat.le_refl _) (Nat.le_refl _) dX5_delivery_45

set_option maxHeartbeats 1500000 in
set_option maxRecDepth 100000 in
theorem k_delivery2 (l : Launch) (D : va_G) (ty : Nat → ClassId) (A : Nat → Prop) (tE : Nat) (el : Nat → Nat → Nat) (a : CS) (h6 : cOb a 6 0) (hb : cL a 1 < 2 ^ 31) {q : Nat} (hq : q < cL a 1) (h2 : cOb a 2 q) {i : Nat} (hs : cR a 2 4 q = some i) (h4 : cOb a 4 i) : Met l yX5_delivery wsX5_delivery rmX5_delivery (gPc D ty true cstrs tE A [.ref (el 6 0), .int (nI q), .int 2] (hC D ty A tE el a)) (gQ A (gRet (some (.int (cI a 4 0 i))) (hC D ty A tE el a))) 0 0 A := by
  refine g_Met (cc := cX5_delivery) (maxL := 4) (ret := (some .int)) [some (.ref (el 6 0)), some (.int (nI q)), some (.int 2), none] (by decide) rfl (Nat.le_of_ble_eq_true rfl) rfl ?_
  intro p e s m args below meth c S hlk hr hnm hK hE hP0
  have S : CallFix p m c cX5_delivery 4 s args wsX5_delivery RX5 := S
  refine g_aload_n S dX5_delivery_0 rfl ?_
  refine g_iload_n S dX5_delivery_1 rfl ?_
  refine g_cVr S (k_findDelivery l D ty A tE el a h6 hb hq h2) (cwV 1 S.2.2.2.2 gX5_delivery_X5_findDelivery rfl rfl rfl (by decide +kernel) ⟨Nat.le_of_ble_eq_true rfl, Nat.le_of_ble_eq_true rfl⟩) hK hE (fun H h => h) (k6_recv hK h6) rfl (Nat.le_of_ble_eq_true rfl) dX5_delivery_2 ⟨Nat.le_of_ble_eq_true rfl, Nat.le_of_ble_eq_true rfl⟩ ?_
  refine g_astore_n S dX5_delivery_5 (by decide) rfl ?_
  refine g_iload_n S dX5_delivery_6 rfl ?_
  refine g_tableIn S (tgt := 46) dX5_delivery_7 (by decide) (by decide) rfl (by decide) ?_
  refine g_aload_n S dX5_delivery_46 rfl ?_
  refine k2_getR S hK (by exact h2) 4 (by decide) (by exact hs) (S.2.2.2.2 _ (List.mem_of_getElem? (i := 5) rfl)) rfl dX5_delivery_47 ?_
  refine k4_get S hK (by exact h4) 0 (by decide) (S.2.2.2.2 _ (List.mem_of_getElem? (i := 6) rfl)) rfl dX5_delivery_50 ?_
  exact g_iret S hlk hr (fun H h => ⟨rfl, h⟩) (Nat.le_refl _) (Nat.le_refl _) dX5_delivery_53

set_option maxHeartbeats 1500000 in
set_option maxRecDepth 100000 in
theorem k_delivery3 (l : Launch) (D : va_G) (ty : Nat → ClassId) (A : Nat → Prop) (tE : Nat) (el : Nat → Nat → Nat) (a : CS) (h6 : cOb a 6 0) (hb : cL a 1 < 2 ^ 31) {q : Nat} (hq : q < cL a 1) (h2 : cOb a 2 q)  : Met l yX5_delivery wsX5_delivery rmX5_delivery (gPc D ty true cstrs tE A [.ref (el 6 0), .int (nI q), .int 3] (hC D ty A tE el a)) (gQ A (gRet (some (.int (cI a 2 1 q))) (hC D ty A tE el a))) 0 0 A := by
  refine g_Met (cc := cX5_delivery) (maxL := 4) (ret := (some .int)) [some (.ref (el 6 0)), some (.int (nI q)), some (.int 3), none] (by decide) rfl (Nat.le_of_ble_eq_true rfl) rfl ?_
  intro p e s m args below meth c S hlk hr hnm hK hE hP0
  have S : CallFix p m c cX5_delivery 4 s args wsX5_delivery RX5 := S
  refine g_aload_n S dX5_delivery_0 rfl ?_
  refine g_iload_n S dX5_delivery_1 rfl ?_
  refine g_cVr S (k_findDelivery l D ty A tE el a h6 hb hq h2) (cwV 1 S.2.2.2.2 gX5_delivery_X5_findDelivery rfl rfl rfl (by decide +kernel) ⟨Nat.le_of_ble_eq_true rfl, Nat.le_of_ble_eq_true rfl⟩) hK hE (fun H h => h) (k6_recv hK h6) rfl (Nat.le_of_ble_eq_true rfl) dX5_delivery_2 ⟨Nat.le_of_ble_eq_true rfl, Nat.le_of_ble_eq_true rfl⟩ ?_
  refine g_astore_n S dX5_delivery_5 (by decide) rfl ?_
  refine g_iload_n S dX5_delivery_6 rfl ?_
  refine g_tableIn S (tgt := 54) dX5_delivery_7 (by decide) (by decide) rfl (by decide) ?_
  refine g_aload_n S dX5_delivery_54 rfl ?_
  refine k2_get S hK (by exact h2) 1 (by decide) (S.2.2.2.2 _ (List.mem_of_getElem? (i := 7) rfl)) rfl dX5_delivery_55 ?_
  exact g_iret S hlk hr (fun H h => ⟨rfl, h⟩) (Nat.le_refl _) (Nat.le_refl _) dX5_delivery_58

abbrev rtX5_delivery : Room := { frames := 8, cells := 1, slots := 6, locals := 300 }
set_option maxHeartbeats 1500000 in
set_option maxRecDepth 100000 in
theorem t_delivery2 (l : Launch) (D : va_G) (ty : Nat → ClassId) (A : Nat → Prop) (hl : l.stackTraces = false) (tE : Nat) (el : Nat → Nat → Nat) (a : CS) (h6 : cOb a 6 0) (hb : cL a 1 < 2 ^ 31) {q : Nat} (hq : q < cL a 1) (h2 : cOb a 2 q) (w : Int32) (hw : w.toInt < 0 ∨ 3 < w.toInt) : vx_Met l yX5_delivery wsX5_delivery rtX5_delivery (gPc D ty true cstrs tE A [.ref (el 6 0), .int (nI q), .int w] (hC D ty A tE el a)) (gQ A (fun _ _ => False)) (gX A (fun E H => E = "java/lang/IllegalArgumentException" ∧ hC D ty A tE el a H)) 1 6 A := by
  refine g_tMet (cc := cX5_delivery) (maxL := 4) (ret := (some .int)) [some (.ref (el 6 0)), some (.int (nI q)), some (.int w), none] (by decide) rfl (Nat.le_of_ble_eq_true rfl) rfl ?_
  intro p e s m args below meth c S hlk hout hK hE hP0
  have S : CallFix p m c cX5_delivery 4 s args wsX5_delivery RX5 := S
  refine g_aload_n S dX5_delivery_0 rfl ?_
  refine g_iload_n S dX5_delivery_1 rfl ?_
  refine g_cVr S (k_findDelivery l D ty A tE el a h6 hb hq h2) (cwV 1 S.2.2.2.2 gX5_delivery_X5_findDelivery rfl rfl rfl (by decide +kernel) ⟨Nat.le_of_ble_eq_true rfl, Nat.le_of_ble_eq_true rfl⟩) hK hE (fun H h => h) (k6_recv hK h6) rfl (Nat.le_of_ble_eq_true rfl) dX5_delivery_2 ⟨Nat.le_of_ble_eq_true rfl, Nat.le_of_ble_eq_true rfl⟩ ?_
  refine g_astore_n S dX5_delivery_5 (by decide) rfl ?_
  refine g_iload_n S dX5_delivery_6 rfl ?_
  refine g_tableOut S (tgt := 59) dX5_delivery_7 hw (by decide) ?_
  exact g_throwS S hl (cls := "java/lang/IllegalArgumentException") (text := "what is out of range") (names := ["java/lang/RuntimeException", "java/lang/Exception"]) (by decide) (by decide) (S.2.2.2.2 _ (List.mem_of_getElem? (i := 1) rfl)) (S.2.2.2.2 _ (List.mem_of_getElem? (i := 2) rfl)) (by decide +kernel) (by decide +kernel) (by decide +kernel) hE (by decide +kernel) dX5_delivery_59 dX5_delivery_62 dX5_delivery_63 dX5_delivery_65 dX5_delivery_68 hout rfl rfl ⟨Nat.le_of_ble_eq_true rfl, Nat.le_of_ble_eq_true rfl⟩ ⟨Nat.le_of_ble_eq_true rfl, Nat.le_of_ble_eq_true rfl⟩ hlk (fun H H1 hP hz hq => ⟨rfl, hC_grow hP hz hq⟩) (Nat.le_of_ble_eq_true rfl) (Nat.le_of_ble_eq_true rfl)

set_option maxHeartbeats 1500000 in
set_option maxRecDepth 100000 in
theorem t_delivery1 (l : Launch) (D : va_G) (ty : Nat → ClassId) (A : Nat → Prop) (hl : l.stackTraces = false) (tE : Nat) (el : Nat → Nat → Nat) (a : CS) (h6 : cOb a 6 0) (hb : cL a 1 < 2 ^ 31) (v w : Int32) (hv : ¬ vp_in v (cL a 1)) : vx_Met l yX5_delivery wsX5_delivery rtX5_delivery (gPc D ty true cstrs tE A [.ref (el 6 0), .int v, .int w] (hC D ty A tE el a)) (gQ A (fun _ _ => False)) (gX A (fun E H => E = "java/lang/IndexOutOfBoundsException" ∧ hC D ty A tE el a H)) 1 6 A := by
  refine g_tMet (cc := cX5_delivery) (maxL := 4) (ret := (some .int)) [some (.ref (el 6 0)), some (.int v), some (.int w), none] (by decide) rfl (Nat.le_of_ble_eq_true rfl) rfl ?_
  intro p e s m args below meth c S hlk hout hK hE hP0
  have S : CallFix p m c cX5_delivery 4 s args wsX5_delivery RX5 := S
  refine g_aload_n S dX5_delivery_0 rfl ?_
  refine g_iload_n S dX5_delivery_1 rfl ?_
  exact g_tcallV S (t_findDelivery l D ty A hl tE el a h6 hb _ hv) (cwV 1 S.2.2.2.2 gX5_delivery_X5_findDelivery rfl rfl rfl (by decide +kernel) ⟨Nat.le_of_ble_eq_true rfl, Nat.le_of_ble_eq_true rfl⟩) hK hE (fun H h => h) (k6_recv hK h6) rfl (Nat.le_of_ble_eq_true rfl) dX5_delivery_2 ⟨Nat.le_of_ble_eq_true rfl, Nat.le_of_ble_eq_true rfl⟩ (fun E => g_out hout hlk (fun H h => h) (Nat.le_of_ble_eq_true rfl) (Nat.le_of_ble_eq_true rfl))

