abbrev rmX5_ofContract : Room := { frames := 4, cells := 0, slots := 0, locals := 85 }
set_option maxHeartbeats 1500000 in
set_option maxRecDepth 100000 in
theorem k_ofContract0 (l : Launch) (D : va_G) (ty : Nat → ClassId) (A : Nat → Prop) (tE : Nat) (el : Nat → Nat → Nat) (a : CS) (h6 : cOb a 6 0) (hb : cL a 3 < 2 ^ 31) {q : Nat} (hq : q < cL a 3) (h1 : cOb a 1 q)  : Met l yX5_ofContract wsX5_ofContract rmX5_ofContract (gPc D ty true cstrs tE A [.ref (el 6 0), .int (nI q), .int 0] (hC D ty A tE el a)) (gQ A (gRet (some (.int (cI a 1 6 q))) (hC D ty A tE el a))) 0 0 A := by
  refine g_Met (cc := cX5_ofContract) (maxL := 4) (ret := (some .int)) [some (.ref (el 6 0)), some (.int (nI q)), some (.int 0), none] (by decide) rfl (Nat.le_of_ble_eq_true rfl) rfl ?_
  intro p e s m args below meth c S hlk hr hnm hK hE hP0
  have S : CallFix p m c cX5_ofContract 4 s args wsX5_ofContract RX5 := S
  refine g_aload_n S dX5_ofContract_0 rfl ?_
  refine g_iload_n S dX5_ofContract_1 rfl ?_
  refine g_cVr S (k_findContract l D ty A tE el a h6 hb hq h1) (cwV 1 S.2.2.2.2 gX5_ofContract_X5_findContract rfl rfl rfl (by decide +kernel) ⟨Nat.le_of_ble_eq_true rfl, Nat.le_of_ble_eq_true rfl⟩) hK hE (fun H h => h) (k6_recv hK h6) rfl (Nat.le_of_ble_eq_true rfl) dX5_ofContract_2 ⟨Nat.le_of_ble_eq_true rfl, Nat.le_of_ble_eq_true rfl⟩ ?_
  refine g_astore_n S dX5_ofContract_5 (by decide) rfl ?_
  refine g_iload_n S dX5_ofContract_6 rfl ?_
  refine g_tableIn S (tgt := 36) dX5_ofContract_7 (by decide) (by decide) rfl (by decide) ?_
  refine g_aload_n S dX5_ofContract_36 rfl ?_
  refine k1_get S hK (by exact h1) 6 (by decide) (S.2.2.2.2 _ (List.mem_of_getElem? (i := 3) rfl)) rfl dX5_ofContract_37 ?_
  exact g_iret S hlk hr (fun H h => ⟨rfl, h⟩) (Nat.le_refl _) (Nat.le_refl _) dX5_ofContract_40

set_option maxHeartbeats 1500000 in
set_option maxRecDepth 100000 in
theorem k_ofContract1 (l : Launch) (D : va_G) (ty : Nat → ClassId) (A : Nat → Prop) (tE : Nat) (el : Nat → Nat → Nat) (a : CS) (h6 : cOb a 6 0) (hb : cL a 3 < 2 ^ 31) {q : Nat} (hq : q < cL a 3) (h1 : cOb a 1 q)  : Met l yX5_ofContract wsX5_ofContract rmX5_ofContract (gPc D ty true cstrs tE A [.ref (el 6 0), .int (nI q), .int 1] (hC D ty A tE el a)) (gQ A (gRet (some (.int (if cI a 1 8 q = 0 then 0 else 1))) (hC D ty A tE el a))) 0 0 A := by
  refine g_Met (cc := cX5_ofContract) (maxL := 4) (ret := (some .int)) [some (.ref (el 6 0)), some (.int (nI q)), some (.int 1), none] (by decide) rfl (Nat.le_of_ble_eq_true rfl) rfl ?_
  intro p e s m args below meth c S hlk hr hnm hK hE hP0
  have S : CallFix p m c cX5_ofContract 4 s args wsX5_ofContract RX5 := S
  refine g_aload_n S dX5_ofContract_0 rfl ?_
  refine g_iload_n S dX5_ofContract_1 rfl ?_
  refine g_cVr S (k_findContract l D ty A tE el a h6 hb hq h1) (cwV 1 S.2.2.2.2 gX5_ofContract_X5_findContract rfl rfl rfl (by decide +kernel) ⟨Nat.le_of_ble_eq_true rfl, Nat.le_of_ble_eq_true rfl⟩) hK hE (fun H h => h) (k6_recv hK h6) rfl (Nat.le_of_ble_eq_true rfl) dX5_ofContract_2 ⟨Nat.le_of_ble_eq_true rfl, Nat.le_of_ble_eq_true rfl⟩ ?_
  refine g_astore_n S dX5_ofContract_5 (by decide) rfl ?_
  refine g_iload_n S dX5_ofContract_6 rfl ?_
  refine g_tableIn S (tgt := 41) dX5_ofContract_7 (by decide) (by decide) rfl (by decide) ?_
  refine g_aload_n S dX5_ofContract_41 rfl ?_
  refine k1_get S hK (by exact h1) 8 (by decide) (S.2.2.2.2 _ (List.mem_of_getElem? (i := 4) rfl)) rfl dX5_ofContract_42 ?_
  refine g_if_eq S (tgt := 52) dX5_ofContract_45 (by decide) (fun c_45 => ?_) (fun c_45 => ?_)
  · refine g_iconst S (v := 0) dX5_ofContract_52 (by decide) ?_
    exact g_iret S hlk hr (fun H h => ⟨by rw [if_pos c_45], h⟩) (Nat.le_refl _) (Nat.le_refl _) dX5_ofContract_53
  · refine g_iconst S (v := 1) dX5_ofContract_48 (by decide) ?_
    refine g_goto S (tgt := 53) dX5_ofContract_49 (by decide) ?_
    exact g_iret S hlk hr (fun H h => ⟨by rw [if_neg c_45], h⟩) (Nat.le_refl _) (Nat.le_refl _) dX5_ofContract_53

set_option maxHeartbeats 1500000 in
set_option maxRecDepth 100000 in
theorem k_ofContract2 (l : Launch) (D : va_G) (ty : Nat → ClassId) (A : Nat → Prop) (tE : Nat) (el : Nat → Nat → Nat) (a : CS) (h6 : cOb a 6 0) (hb : cL a 3 < 2 ^ 31) {q : Nat} (hq : q < cL a 3) (h1 : cOb a 1 q)  : Met l yX5_ofContract wsX5_ofContract rmX5_ofContract (gPc D ty true cstrs tE A [.ref (el 6 0), .int (nI q), .int 2] (hC D ty A tE el a)) (gQ A (gRet (some (.int (cI a 1 9 q))) (hC D ty A tE el a))) 0 0 A := by
  refine g_Met (cc := cX5_ofContract) (maxL := 4) (ret := (some .int)) [some (.ref (el 6 0)), some (.int (nI q)), some (.int 2), none] (by decide) rfl (Nat.le_of_ble_eq_true rfl) rfl ?_
  intro p e s m args below meth c S hlk hr hnm hK hE hP0
  have S : CallFix p m c cX5_ofContract 4 s args wsX5_ofContract RX5 := S
  refine g_aload_n S dX5_ofContract_0 rfl ?_
  refine g_iload_n S dX5_ofContract_1 rfl ?_
  refine g_cVr S (k_findContract l D ty A tE el a h6 hb hq h1) (cwV 1 S.2.2.2.2 gX5_ofContract_X5_findContract rfl rfl rfl (by decide +kernel) ⟨Nat.le_of_ble_eq_true rfl, Nat.le_of_ble_eq_true rfl⟩) hK hE (fun H h => h) (k6_recv hK h6) rfl (Nat.le_of_ble_eq_true rfl) dX5_ofContract_2 ⟨Nat.le_of_ble_eq_true rfl, Nat.le_of_ble_eq_true rfl⟩ ?_
  refine g_astore_n S dX5_ofContract_5 (by decide) rfl ?_
  refine g_iload_n S dX5_ofContract_6 rfl ?_
  refine g_tableIn S (tgt := 54) dX5_ofContract_7 (by decide) (by decide) rfl (by decide) ?_
  refine g_aload_n S dX5_ofContract_54 rfl ?_
  refine k1_get S hK (by exact h1) 9 (by decide) (S.2.2.2.2 _ (List.mem_of_getElem? (i := 5) rfl)) rfl dX5_ofContract_55 ?_
  exact g_iret S hlk hr (fun H h => ⟨rfl, h⟩) (Nat.le_refl _) (Nat.le_refl _) dX5_ofContract_58

set_option maxHeartbeats 1500000 in
set_option maxRecDepth 100000 in
theorem k_ofContract3 (l : Launch) (D : va_G) (ty : Nat → ClassId) (A : Nat → Prop) (tE : Nat) (el : Nat → Nat → Nat) (a : CS) (h6 : cOb a 6 0) (hb : cL a 3 < 2 ^ 31) {q : Nat} (hq : q < cL a 3) (h1 : cOb a 1 q)  : Met l yX5_ofContract wsX5_ofContract rmX5_ofContract (gPc D ty true cstrs tE A [.ref (el 6 0), .int (nI q), .int 3] (hC D ty A tE el a)) (gQ A (gRet (some (.int (cI a 1 10 q))) (hC D ty A tE el a))) 0 0 A := by
  refine g_Met (cc := cX5_ofContract) (maxL := 4) (ret := (some .int)) [some (.ref (el 6 0)), some (.int (nI q)), some (.int 3), none] (by decide) rfl (Nat.le_of_ble_eq_true rfl) rfl ?_
  intro p e s m args below meth c S hlk hr hnm hK hE hP0
  have S : CallFix p m c cX5_ofContract 4 s args wsX5_ofContract RX5 := S
  refine g_aload_n S dX5_ofContract_0 rfl ?_
  refine g_iload_n S dX5_ofContract_1 rfl ?_
  refine g_cVr S (k_findContract l D ty A tE el a h6 hb hq h1) (cwV 1 S.2.2.2.2 gX5_ofContract_X5_findContract rfl rfl rfl (by decide +kernel) ⟨Nat.le_of_ble_eq_true rfl, Nat.le_of_ble_eq_true rfl⟩) hK hE (fun H h => h) (k6_recv hK h6) rfl (Nat.le_of_ble_eq_true rfl) dX5_ofContract_2 ⟨Nat.le_of_ble_eq_true rfl, Nat.le_of_ble_eq_true rfl⟩ ?_
  refine g_astore_n S dX5_ofContract_5 (by decide) rfl ?_
  refine g_iload_n S dX5_ofContract_6 rfl ?_
  refine g_tableIn S (tgt := 59) dX5_ofContract_7 (by decide) (by decide) rfl (by decide) ?_
  refine g_aload_n S dX5_ofContract_59 rfl ?_
  refine k1_get S hK (by exact h1) 10 (by decide) (S.2.2.2.2 _ (List.mem_of_getElem? (i := 6) rfl)) rfl dX5_ofContract_60 ?_
  exact g_iret S hlk hr (fun H h => ⟨rfl, h⟩) (Nat.le_refl _) (Nat.le_refl _) dX5_ofContract_63

abbrev rtX5_ofContract : Room := { frames := 8, cells := 1, slots := 6, locals := 300 }
set_option maxHeartbeats 1500000 in
set_option maxRecDepth 100000 in
theorem t_ofContract2 (l : Launch) (D : va_G) (ty : Nat → ClassId) (A : Nat → Prop) (hl : l.stackTraces = false) (tE : Nat) (el : Nat → Nat → Nat) (a : CS) (h6 : cOb a 6 0) (hb : cL a 3 < 2 ^ 31) {q : Nat} (hq : q < cL a 3) (h1 : cOb a 1 q) (w : Int32) (hw : w.toInt < 0 ∨ 3 < w.toInt) : vx_Met l yX5_ofContract wsX5_ofContract rtX5_ofContract (gPc D ty true cstrs tE A [.ref (el 6 0), .int (nI q), .int w] (hC D ty A tE el a)) (gQ A (fun _ _ => False)) (gX A (fun E H => E = "java/lang/IllegalArgumentException" ∧ hC D ty A tE el a H)) 1 6 A := by
  refine g_tMet (cc := cX5_ofContract) (maxL := 4) (ret := (some .int)) [some (.ref (el 6 0)), some (.int (nI q)), some (.int w), none] (by decide) rfl (Nat.le_of_ble_eq_true rfl) rfl ?_
  intro p e s m args below meth c S hlk hout hK hE hP0
  have S : CallFix p m c cX5_ofContract 4 s args wsX5_ofContract RX5 := S
  refine g_aload_n S dX5_ofContract_0 rfl ?_
  refine g_iload_n S dX5_ofContract_1 rfl ?_
  refine g_cVr S (k_findContract l D ty A tE el a h6 hb hq h1) (cwV 1 S.2.2.2.2 gX5_ofContract_X5_findContract rfl rfl rfl (by decide +kernel) ⟨Nat.le_of_ble_eq_true rfl, Nat.le_of_ble_eq_true rfl⟩) hK hE (fun H h => h) (k6_recv hK h6) rfl (Nat.le_of_ble_eq_true rfl) dX5_ofContract_2 ⟨Nat.le_of_ble_eq_true rfl, Nat.le_of_ble_eq_true rfl⟩ ?_
  refine g_astore_n S dX5_ofContract_5 (by decide) rfl ?_
  refine g_iload_n S dX5_ofContract_6 rfl ?_
  refine g_tableOut S (tgt := 64) dX5_ofContract_7 hw (by decide) ?_
  exact g_throwS S hl (cls := "java/lang/IllegalArgumentException") (text := "what is out of range") (names := ["java/lang/RuntimeException", "java/lang/Exception"]) (by decide) (by decide) (S.2.2.2.2 _ (List.mem_of_getElem? (i := 1) rfl)) (S.2.2.2.2 _ (List.mem_of_getElem? (i := 2) rfl)) (by decide +kernel) (by decide +kernel) (by decide +kernel) hE (by decide +kernel) dX5_ofContract_64 dX5_ofContract_67 dX5_ofContract_68 dX5_ofContract_70 dX5_ofContract_73 hout rfl rfl ⟨Nat.le_of_ble_eq_true rfl, Nat.le_of_ble_eq_true rfl⟩ ⟨Nat.le_of_ble_eq_true rfl, Nat.le_of_ble_eq_true rfl⟩ hlk (fun H H1 hP hz hq => ⟨rfl, hC_grow hP hz hq⟩) (Nat.le_of_ble_eq_true rfl) (Nat.le_of_ble_eq_true rfl)

set_option maxHeartbeats 1500000 in
set_option maxRecDepth 100000 in
theorem t_ofContract1 (l : Launch) (D : va_G) (ty : Nat → ClassId) (A : Nat → Prop) (hl : l.stackTraces = false) (tE : Nat) (el : Nat → Nat → Nat) (a : CS) (h6 : cOb a 6 0) (hb : cL a 3 < 2 ^ 31) (v w : Int32) (hv : ¬ vp_in v (cL a 3)) : vx_Met l yX5_ofContract wsX5_ofContract rtX5_ofContract (gPc D ty true cstrs tE A [.ref (el 6 0), .int v, .int w] (hC D ty A tE el a)) (gQ A (fun _ _ => False)) (gX A (fun E H => E = "java/lang/IndexOutOfBoundsException" ∧ hC D ty A tE el a H)) 1 6 A := by
  refine g_tMet (cc := cX5_ofContract) (maxL := 4) (ret := (some .int)) [some (.ref (el 6 0)), some (.int v), some (.int w), none] (by decide) rfl (Nat.le_of_ble_eq_true rfl) rfl ?_
  intro p e s m args below meth c S hlk hout hK hE hP0
  have S : CallFix p m c cX5_ofContract 4 s args wsX5_ofContract RX5 := S
  refine g_aload_n S dX5_ofContract_0 rfl ?_
  refine g_iload_n S dX5_ofContract_1 rfl ?_
  exact g_tcallV S (t_findContract l D ty A hl tE el a h6 hb _ hv) (cwV 1 S.2.2.2.2 gX5_ofContract_X5_findContract rfl rfl rfl (by decide +kernel) ⟨Nat.le_of_ble_eq_true rfl, Nat.le_of_ble_eq_true rfl⟩) hK hE (fun H h => h) (k6_recv hK h6) rfl (Nat.le_of_ble_eq_true rfl) dX5_ofContract_2 ⟨Nat.le_of_ble_eq_true rfl, Nat.le_of_ble_eq_true rfl⟩ (fun E => g_out hout hlk (fun H h => h) (Nat.le_of_ble_eq_true rfl) (Nat.le_of_ble_eq_true rfl))

abbrev rmX5_ofSilo : Room := { frames := 4, cells := 0, slots := 0, locals := 85 }
set_option maxHeartbeats 1500000 in
set_option maxRecDepth 100000 in
theorem k_ofSilo0 (l : Launch) (D : va_G) (ty : Nat → ClassId) (A : Nat → Prop) (tE : Nat) (el : Nat → Nat → Nat) (a : CS) (h6 : cOb a 6 0) (hb : cL a 0 < 2 ^ 31) {q : Nat} (hq : q < cL a 0) (h4 : cOb a 4 q)  : Met l yX5_ofSilo wsX5_ofSilo rmX5_ofSilo (gPc D ty true cstrs tE A [.ref (el 6 0), .int (nI q), .int 0] (hC D ty A tE el a)) (gQ A (gRet (some (.int (cI a 4 4 q))) (hC D ty A tE el a))) 0 0 A := by
  refine g_Met (cc := cX5_ofSilo) (maxL := 4) (ret := (some .int)) [some (.ref (el 6 0)), some (.int (nI q)), some (.int 0), none] (by decide) rfl (Nat.le_of_ble_eq_true rfl) rfl ?_
  intro p e s m args below meth c S hlk hr hnm hK hE hP0
  have S : CallFix p m c cX5_ofSilo 4 s args wsX5_ofSilo RX5 := S
  refine g_aload_n S dX5_ofSilo_0 rfl ?_
  refine g_iload_n S dX5_ofSilo_1 rfl ?_
  refine g_cVr S (k_findSilo l D ty A tE el a h6 hb hq h4) (cwV 1 S.2.2.2.2 gX5_ofSilo_X5_findSilo rfl rfl rfl (by decide +kernel) ⟨Nat.le_of_ble_eq_true rfl, Nat.le_of_ble_eq_true rfl⟩) hK hE (fun H h => h) (k6_recv hK h6) rfl (Nat.le_of_ble_eq_true rfl) dX5_ofSilo_2 ⟨Nat.le_of_ble_eq_true rfl, Nat.le_of_ble_eq_true rfl⟩ ?_
  refine g_astore_n S dX5_ofSilo_5 (by decide) rfl ?_
  refine g_iload_n S dX5_ofSilo_6 rfl ?_
  refine g_tableIn S (tgt := 36) dX5_ofSilo_7 (by decide) (by decide) rfl (by decide) ?_
  refine g_aload_n S dX5_ofSilo_36 rfl ?_
  refine k4_get S hK (by exact h4) 4 (by decide) (S.2.2.2.2 _ (List.mem_of_getElem? (i := 3) rfl)) rfl dX5_ofSilo_37 ?_
  exact g_iret S hlk hr (fun H h => ⟨rfl, h⟩) (Nat.le_refl _) (Nat.le_refl _) dX5_ofSilo_40

set_option maxHeartbeats 1500000 in
set_option maxRecDepth 100000 in
theorem k_ofSilo1 (l : Launch) (D : va_G) (ty : Nat → ClassId) (A : Nat → Prop) (tE : Nat) (el : Nat → Nat → Nat) (a : CS) (h6 : cOb a 6 0) (hb : cL a 0 < 2 ^ 31) {q : Nat} (hq : q < cL a 0) (h4 : cOb a 4 q)  : Met l yX5_ofSilo wsX5_ofSilo rmX5_ofSilo (gPc D ty true cstrs tE A [.ref (el 6 0), .int (nI q), .int 1] (hC D ty A tE el a)) (gQ A (gRet (some (.int (if cI a 4 4 q ≤ 0 then -1 else cI a 4 2 q))) (hC D ty A tE el a))) 0 0 A := by
  refine g_Met (cc := cX5_ofSilo) (maxL := 4) (ret := (some .int)) [some (.ref (el 6 0)), some (.int (nI q)), some (.int 1), none] (by decide) rfl (Nat.le_of_ble_eq_true rfl) rfl ?_
  intro p e s m args below meth c S hlk hr hnm hK hE hP0
  have S : CallFix p m c cX5_ofSilo 4 s args wsX5_ofSilo RX5 := S
  refine g_aload_n S dX5_ofSilo_0 rfl ?_
  refine g_iload_n S dX5_ofSilo_1 rfl ?_
  refine g_cVr S (k_findSilo l D ty A tE el a h6 hb hq h4) (cwV 1 S.2.2.2.2 gX5_ofSilo_X5_findSilo rfl rfl rfl (by decide +kernel) ⟨Nat.le_of_ble_eq_true rfl, Nat.le_of_ble_eq_true rfl⟩) hK hE (fun H h => h) (k6_recv hK h6) rfl (Nat.le_of_ble_eq_true rfl) dX5_ofSilo_2 ⟨Nat.le_of_ble_eq_true rfl, Nat.le_of_ble_eq_true rfl⟩ ?_
  refine g_astore_n S dX5_ofSilo_5 (by decide) rfl ?_
  refine g_iload_n S dX5_ofSilo_6 rfl ?_
  refine g_tableIn S (tgt := 41) dX5_ofSilo_7 (by decide) (by decide) rfl (by decide) ?_
  refine g_aload_n S dX5_ofSilo_41 rfl ?_
  refine g_cVr S (k_isEmpty l D ty A tE el _ (by exact h4)) (cwV 0 S.2.2.2.2 gX5_ofSilo_X3_isEmpty rfl rfl rfl (by decide +kernel) ⟨Nat.le_of_ble_eq_true rfl, Nat.le_of_ble_eq_true rfl⟩) hK hE (fun H h => h) (k4_recv hK (by exact h4)) rfl (Nat.le_of_ble_eq_true rfl) dX5_ofSilo_42 ⟨Nat.le_of_ble_eq_true rfl, Nat.le_of_ble_eq_true rfl⟩ ?_
  refine g_ifb_eq S (tgt := 52) dX5_ofSilo_45 (by decide) (fun c_45 => ?_) (fun c_45 => ?_)
  · refine g_aload_n S dX5_ofSilo_52 rfl ?_
    refine k4_get S hK (by exact h4) 2 (by decide) (S.2.2.2.2 _ (List.mem_of_getElem? (i := 4) rfl)) rfl dX5_ofSilo_53 ?_
    exact g_iret S hlk hr (fun H h => ⟨by rw [if_neg (of_decide_eq_false c_45)], h⟩) (Nat.le_refl _) (Nat.le_refl _) dX5_ofSilo_56
  · refine g_iconst S (v := (-1)) dX5_ofSilo_48 (by decide) ?_
    refine g_goto S (tgt := 56) dX5_ofSilo_49 (by decide) ?_
    exact g_iret S hlk hr (fun H h => ⟨by rw [if_pos (of_decide_eq_true c_45)], h⟩) (Nat.le_refl _) (Nat.le_refl _) dX5_ofSilo_56

set_option maxHeartbeats 1500000 in
set_option maxRecDepth 100000 in
theorem k_ofSilo2 (l : Launch) (D : va_G) (ty : Nat → ClassId) (A : Nat → Prop) (tE : Nat) (el : Nat → Nat → Nat) (a : CS) (h6 : cOb a 6 0) (hb : cL a 0 < 2 ^ 31) {q : Nat} (hq : q < cL a 0) (h4 : cOb a 4 q)  : Met l yX5_ofSilo wsX5_ofSilo rmX5_ofSilo (gPc D ty true cstrs tE A [.ref (el 6 0), .int (nI q), .int 2] (hC D ty A tE el a)) (gQ A (gRet (some (.int (if cI a 4 4 q ≤ 0 then -1 else cI a 4 3 q))) (hC D ty A tE el a))) 0 0 A := by
  refine g_Met (cc := cX5_ofSilo) (maxL := 4) (ret := (some .int)) [some (.ref (el 6 0)), some (.int (nI q)), some (.int 2), none] (by decide) rfl (Nat.le_of_ble_eq_true rfl) rfl ?_
  intro p e s m args below meth c S hlk hr hnm hK hE hP0
  have S : CallFix p m c cX5_ofSilo 4 s args wsX5_ofSilo RX5 := S
  refine g_aload_n S dX5_ofSilo_0 rfl ?_
  refine g_iload_n S dX5_ofSilo_1 rfl ?_
  refine g_cVr S (k_findSilo l D ty A tE el a h6 hb hq h4) (cwV 1 S.2.2.2.2 gX5_ofSilo_X5_findSilo rfl rfl rfl (by decide +kernel) ⟨Nat.le_of_ble_eq_true rfl, Nat.le_of_ble_eq_true rfl⟩) hK hE (fun H h => h) (k6_recv hK h6) rfl (Nat.le_of_ble_eq_true rfl) dX5_ofSilo_2 ⟨Nat.le_of_ble_eq_true rfl, Nat.le_of_ble_eq_true rfl⟩ ?_
  refine g_astore_n S dX5_ofSilo_5 (by decide) rfl ?_
  refine g_iload_n S dX5_ofSilo_6 rfl ?_
  refine g_tableIn S (tgt := 57) dX5_ofSilo_7 (by decide) (by decide) rfl (by decide) ?_
  refine g_aload_n S dX5_ofSilo_57 rfl ?_
  refine g_cVr S (k_isEmpty l D ty A tE el _ (by exact h4)) (cwV 0 S.2.2.2.2 gX5_ofSilo_X3_isEmpty rfl rfl rfl (by decide +kernel) ⟨Nat.le_of_ble_eq_true rfl, Nat.le_of_ble_eq_true rfl⟩) hK hE (fun H h => h) (k4_recv hK (by exact h4)) rfl (Nat.le_of_ble_eq_true rfl) dX5_ofSilo_58 ⟨Nat.le_of_ble_eq_true rfl, Nat.le_of_ble_eq_true rfl⟩ ?_
  refine g_ifb_eq S (tgt := 68) dX5_ofSilo_61 (by decide) (fun c_61 => ?_) (fun c_61 => ?_)
  · refine g_aload_n S dX5_ofSilo_68 rfl ?_
    refine k4_get S hK (by exact h4) 3 (by decide) (S.2.2.2.2 _ (List.mem_of_getElem? (i := 5) rfl)) rfl dX5_ofSilo_69 ?_
    exact g_iret S hlk hr (fun H h => ⟨by rw [if_neg (of_decide_eq_false c_61)], h⟩) (Nat.le_refl _) (Nat.le_refl _) dX5_ofSilo_72
  · refine g_iconst S (v := (-1)) dX5_ofSilo_64 (by decide) ?_
    refine g_goto S (tgt := 72) dX5_ofSilo_65 (by decide) ?_
    exact g_iret S hlk hr (fun H h => ⟨by rw [if_pos (of_decide_eq_true c_61)], h⟩) (Nat.le_refl _) (Nat.le_refl _) dX5_ofSilo_72

set_option maxHeartbeats 1500000 in
set_option maxRecDepth 100000 in
theorem k_ofSilo3 (l : Launch) (D : va_G) (ty : Nat → ClassId) (A : Nat → Prop) (tE : Nat) (el : Nat → Nat → Nat) (a : CS) (h6 : cOb a 6 0) (hb : cL a 0 < 2 ^ 31) {q : Nat} (hq : q < cL a 0) (h4 : cOb a 4 q)  : Met l yX5_ofSilo wsX5_ofSilo rmX5_ofSilo (gPc D ty true cstrs tE A [.ref (el 6 0), .int (nI q), .int 3] (hC D ty A tE el a)) (gQ A (gRet (some (.int (cI a 4 5 q))) (hC D ty A tE el a))) 0 0 A := by
  refine g_Met (cc := cX5_ofSilo) (maxL := 4) (ret := (some .int)) [some (.ref (el 6 0)), some (.int (nI q)), some (.int 3), none] (by decide) rfl (Nat.le_of_ble_eq_true rfl) rfl ?_
  intro p e s m args below meth c S hlk hr hnm hK hE hP0
  have S : CallFix p m c cX5_ofSilo 4 s args wsX5_ofSilo RX5 := S
  refine g_aload_n S dX5_ofSilo_0 rfl ?_
  refine g_iload_n S dX5_ofSilo_1 rfl ?_
  refine g_cVr S (k_findSilo l D ty A tE el a h6 hb hq h4) (cwV 1 S.2.2.2.2 gX5_ofSilo_X5_findSilo rfl rfl rfl (by decide +kernel) ⟨Nat.le_of_ble_eq_true rfl, Nat.le_of_ble_eq_true rfl⟩) hK hE (fun H h => h) (k6_recv hK h6) rfl (Nat.le_of_ble_eq_true rfl) dX5_ofSilo_2 ⟨Nat.le_of_ble_eq_true rfl, Nat.le_of_ble_eq_true rfl⟩ ?_
  refine g_astore_n S dX5_ofSilo_5 (by decide) rfl ?_
  refine g_iload_n S dX5_ofSilo_6 rfl ?_
  refine g_tableIn S (tgt := 73) dX5_ofSilo_7 (by decide) (by decide) rfl (by decide) ?_
  refine g_aload_n S dX5_ofSilo_73 rfl ?_
  refine k4_get S hK (by exact h4) 5 (by decide) (S.2.2.2.2 _ (List.mem_of_getElem? (i := 6) rfl)) rfl dX5_ofSilo_74 ?_
  exact g_iret S hlk hr (fun H h => ⟨rfl, h⟩) (Nat.le_refl _) (Nat.le_refl _) dX5_ofSilo_77

abbrev rtX5_ofSilo : Room := { frames := 8, cells := 1, slots := 6, locals := 300 }
set_option maxHeartbeats 1500000 in
set_option maxRecDepth 100000 in
theorem t_ofSilo2 (l : Launch) (D : va_G) (ty : Nat → ClassId) (A : Nat → Prop) (hl : l.stackTraces = false) (tE : Nat) (el : Nat → Nat → Nat) (a : CS) (h6 : cOb a 6 0) (hb : cL a 0 < 2 ^ 31) {q : Nat} (hq : q < cL a 0) (h4 : cOb a 4 q) (w : Int32) (hw : w.toInt < 0 ∨ 3 < w.toInt) : vx_Met l yX5_ofSilo wsX5_ofSilo rtX5_ofSilo (gPc D ty true cstrs tE A [.ref (el 6 0), .int (nI q), .int w] (hC D ty A tE el a)) (gQ A (fun _ _ => False)) (gX A (fun E H => E = "java/lang/IllegalArgumentException" ∧ hC D ty A tE el a H)) 1 6 A := by
  refine g_tMet (cc := cX5_ofSilo) (maxL := 4) (ret := (some .int)) [some (.ref (el 6 0)), some (.int (nI q)), some (.int w), none] (by decide) rfl (Nat.le_of_ble_eq_true rfl) rfl ?_
  intro p e s m args below meth c S hlk hout hK hE hP0
  have S : CallFix p m c cX5_ofSilo 4 s args wsX5_ofSilo RX5 := S
  refine g_aload_n S dX5_ofSilo_0 rfl ?_
  refine g_iload_n S dX5_ofSilo_1 rfl ?_
  refine g_cVr S (k_findSilo l D ty A tE el a h6 hb hq h4) (cwV 1 S.2.2.2.2 gX5_ofSilo_X5_findSilo rfl rfl rfl (by decide +kernel) ⟨Nat.le_of_ble_eq_true rfl, Nat.le_of_ble_eq_true rfl⟩) hK hE (fun H h => h) (k6_recv hK h6) rfl (Nat.le_of_ble_eq_true rfl) dX5_ofSilo_2 ⟨Nat.le_of_ble_eq_true rfl, Nat.le_of_ble_eq_true rfl⟩ ?_
  refine g_astore_n S dX5_ofSilo_5 (by decide) rfl ?_
  refine g_iload_n S dX5_ofSilo_6 rfl ?_
  refine g_tableOut S (tgt := 78) dX5_ofSilo_7 hw (by decide) ?_
  exact g_throwS S hl (cls := "java/lang/IllegalArgumentException") (text := "what is out of range") (names := ["java/lang/RuntimeException", "java/lang/Exception"]) (by decide) (by decide) (S.2.2.2.2 _ (List.mem_of_getElem? (i := 1) rfl)) (S.2.2.2.2 _ (List.mem_of_getElem? (i := 2) rfl)) (by decide +kernel) (by decide +kernel) (by decide +kernel) hE (by decide +kernel) dX5_ofSilo_78 dX5_ofSilo_81 dX5_ofSilo_82 dX5_ofSilo_84 dX5_ofSilo_87 hout rfl rfl ⟨Nat.le_of_ble_eq_true rfl, Nat.le_of_ble_eq_true rfl⟩ ⟨Nat.le_of_ble_eq_true rfl, Nat.le_of_ble_eq_true rfl⟩ hlk (fun H H1 hP hz hq => ⟨rfl, hC_grow hP hz hq⟩) (Nat.le_of_ble_eq_true rfl) (Nat.le_of_ble_eq_true rfl)

set_option maxHeartbeats 1500000 in
set_option maxRecDepth 100000 in
theorem t_ofSilo1 (l : Launch) (D : va_G) (ty : Nat → ClassId) (A : Nat → Prop) (hl : l.stackTraces = false) (tE : Nat) (el : Nat → Nat → Nat) (a : CS) (h6 : cOb a 6 0) (hb : cL a 0 < 2 ^ 31) (v w : Int32) (hv : ¬ vp_in v (cL a 0)) : vx_Met l yX5_ofSilo wsX5_ofSilo rtX5_ofSilo (gPc D ty true cstrs tE A [.ref (el 6 0), .int v, .int w] (hC D ty A tE el a)) (gQ A (fun _ _ => False)) (gX A (fun E H => E = "java/lang/IndexOutOfBoundsException" ∧ hC D ty A tE el a H)) 1 6 A := by
  refine g_tMet (cc := cX5_ofSilo) (maxL := 4) (ret := (some .int)) [some (.ref (el 6 0)), some (.int v), some (.int w), none] (by decide) rfl (Nat.le_of_ble_eq_true rfl) rfl ?_
  intro p e s m args below meth c S hlk hout hK hE hP0
  have S : CallFix p m c cX5_ofSilo 4 s args wsX5_ofSilo RX5 := S
  refine g_aload_n S dX5_ofSilo_0 rfl ?_
  refine g_iload_n S dX5_ofSilo_1 rfl ?_
  exact g_tcallV S (t_findSilo l D ty A hl tE el a h6 hb _ hv) (cwV 1 S.2.2.2.2 gX5_ofSilo_X5_findSilo rfl rfl rfl (by decide +kernel) ⟨Nat.le_of_ble_eq_true rfl, Nat.le_of_ble_eq_true rfl⟩) hK hE (fun H h => h) (k6_recv hK h6) rfl (Nat.le_of_ble_eq_true rfl) dX5_ofSilo_2 ⟨Nat.le_of_ble_eq_true rfl, Nat.le_of_ble_eq_true rfl⟩ (fun E => g_out hout hlk (fun H h => h) (Nat.le_of_ble_eq_true rfl) (Nat.le_of_ble_eq_true rfl))

abbrev rmX5_receipt : Room := { frames := 4, cells := 0, slots := 0, locals := 85 }
set_option maxHeartbeats 1500000 in
set_option maxRecDepth 100000 in
theorem k_receipt0 (l : Launch) (D : va_G) (ty : Nat → ClassId) (A : Nat → Prop) (tE : Nat) (el : Nat → Nat → Nat) (a : CS) (h6 : cOb a 6 0) (hb : cL a 2 < 2 ^ 31) {q : Nat} (hq : q < cL a 2) (h3 : cOb a 3 q)  : Met l yX5_receipt wsX5_receipt rmX5_receipt (gPc D ty true cstrs tE A [.ref (el 6 0), .int (nI q), .int 0] (hC D ty A tE el a)) (gQ A (gRet (some (.int (cI a 3 3 q))) (hC D ty A tE el a))) 0 0 A := by
  refine g_Met (cc := cX5_receipt) (maxL := 4) (ret := (some .int)) [some (.ref (el 6 0)), some (.int (nI q)), some (.int 0), none] (by decide) rfl (Nat.le_of_ble_eq_true rfl) rfl ?_
  intro p e s m args below meth c S hlk hr hnm hK hE hP0
  have S : CallFix p m c cX5_receipt 4 s args wsX5_receipt RX5 := S
  refine g_aload_n S dX5_receipt_0 rfl ?_
  refine g_iload_n S dX5_receipt_1 rfl ?_
  refine g_cVr S (k_findReceipt l D ty A tE el a h6 hb hq h3) (cwV 1 S.2.2.2.2 gX5_receipt_X5_findReceipt rfl rfl rfl (by decide +kernel) ⟨Nat.le_of_ble_eq_true rfl, Nat.le_of_ble_eq_true rfl⟩) hK hE (fun H h => h) (k6_recv hK h6) rfl (Nat.le_of_ble_eq_true rfl) dX5_receipt_2 ⟨Nat.le_of_ble_eq_true rfl, Nat.le_of_ble_eq_true rfl⟩ ?_
  refine g_astore_n S dX5_receipt_5 (by decide) rfl ?_
  refine g_iload_n S dX5_receipt_6 rfl ?_
  refine g_tableIn S (tgt := 52) dX5_receipt_7 (by decide) (by decide) rfl (by decide) ?_
  refine g_aload_n S dX5_receipt_52 rfl ?_
  refine k3_get S hK (by exact h3) 3 (by decide) (S.2.2.2.2 _ (List.mem_of_getElem? (i := 3) rfl)) rfl dX5_receipt_53 ?_
  exact g_iret S hlk hr (fun H h => ⟨rfl, h⟩) (Nat.le_refl _) (Nat.le_refl _) dX5_receipt_56

set_option maxHeartbeats 1500000 in
set_option maxRecDepth 100000 in
theorem k_receipt1 (l : Launch) (D : va_G) (ty : Nat → ClassId) (A : Nat → Prop) (tE : Nat) (el : Nat → Nat → Nat) (a : CS) (h6 : cOb a 6 0) (hb : cL a 2 < 2 ^ 31) {q : Nat} (hq : q < cL a 2) (h3 : cOb a 3 q) {t : Nat} (ht : cR a 3 2 q = some t) (h5 : cOb a 5 t) : Met l yX5_receipt wsX5_receipt rmX5_receipt (gPc D ty true cstrs tE A [.ref (el 6 0), .int (nI q), .int 1] (hC D ty A tE el a)) (gQ A (gRet (some (.int (cI a 5 2 t))) (hC D ty A tE el a))) 0 0 A := by
  refine g_Met (cc := cX5_receipt) (maxL := 4) (ret := (some .int)) [some (.ref (el 6 0)), some (.int (nI q)), some (.int 1), none] (by decide) rfl (Nat.le_of_ble_eq_true rfl) rfl ?_
  intro p e s m args below meth c S hlk hr hnm hK hE hP0
  have S : CallFix p m c cX5_receipt 4 s args wsX5_receipt RX5 := S
  refine g_aload_n S dX5_receipt_0 rfl ?_
  refine g_iload_n S dX5_receipt_1 rfl ?_
  refine g_cVr S (k_findReceipt l D ty A tE el a h6 hb hq h3) (cwV 1 S.2.2.2.2 gX5_receipt_X5_findReceipt rfl rfl rfl (by decide +kernel) ⟨Nat.le_of_ble_eq_true rfl, Nat.le_of_ble_eq_true rfl⟩) hK hE (fun H h => h) (k6_recv hK h6) rfl (Nat.le_of_ble_eq_true rfl) dX5_receipt_2 ⟨Nat.le_of_ble_eq_true rfl, Nat.le_of_ble_eq_true rfl⟩ ?_
  refine g_astore_n S dX5_receipt_5 (by decide) rfl ?_
  refine g_iload_n S dX5_receipt_6 rfl ?_
  refine g_tableIn S (tgt := 57) dX5_receipt_7 (by decide) (by decide) rfl (by decide) ?_
  refine g_aload_n S dX5_receipt_57 rfl ?_
  refine g_cVr S (k_holder l D ty A tE el _ (by exact h3) (by exact ht) (by exact h5)) (cwV 0 S.2.2.2.2 gX5_receipt_X2_holder rfl rfl rfl (by decide +kernel) ⟨Nat.le_of_ble_eq_true rfl, Nat.le_of_ble_eq_true rfl⟩) hK hE (fun H h => h) (k3_recv hK (by exact h3)) rfl (Nat.le_of_ble_eq_true rfl) dX5_receipt_58 ⟨Nat.le_of_ble_eq_true rfl, Nat.le_of_ble_eq_true rfl⟩ ?_
  exact g_iret S hlk hr (fun H h => ⟨rfl, h⟩) (Nat.le_refl _) (Nat.le_refl _) dX5_receipt_61

set_option maxHeartbeats 1500000 in
set_option maxRecDepth 100000 in
theorem k_receipt2 (l : Launch) (D : va_G) (ty : Nat → ClassId) (A : Nat → Prop) (tE : Nat) (el : Nat → Nat → Nat) (a : CS) (h6 : cOb a 6 0) (hb : cL a 2 < 2 ^ 31) {q : Nat} (hq : q < cL a 2) (h3 : cOb a 3 q) {d : Nat} (hd : cR a 3 1 q = some d) (h2 : cOb a 2 d) {i : Nat} (hs : cR a 2 4 d = some i) (h4 : cOb a 4 i) : Met l yX5_receipt wsX5_receipt rmX5_receipt (gPc D ty true cstrs tE A [.ref (el 6 0), .int (nI q), .int 2] (hC D ty A tE el a)) (gQ A (gRet (some (.int (cI a 4 0 i))) (hC D ty A tE el a))) 0 0 A := by
  refine g_Met (cc := cX5_receipt) (maxL := 4) (ret := (some .int)) [some (.ref (el 6 0)), some (.int (nI q)), some (.int 2), none] (by decide) rfl (Nat.le_of_ble_eq_true rfl) rfl ?_
  intro p e s m args below meth c S hlk hr hnm hK hE hP0
  have S : CallFix p m c cX5_receipt 4 s args wsX5_receipt RX5 := S
  refine g_aload_n S dX5_receipt_0 rfl ?_
  refine g_iload_n S dX5_receipt_1 rfl ?_
  refine g_cVr S (k_findReceipt l D ty A tE el a h6 hb hq h3) (cwV 1 S.2.2.2.2 gX5_receipt_X5_findReceipt rfl rfl rfl (by decide +kernel) ⟨Nat.le_of_ble_eq_true rfl, Nat.le_of_ble_eq_true rfl⟩) hK hE (fun H h => h) (k6_recv hK h6) rfl (Nat.le_of_ble_eq_true rfl) dX5_receipt_2 ⟨Nat.le_of_ble_eq_true rfl, Nat.le_of_ble_eq_true rfl⟩ ?_
  refine g_astore_n S dX5_receipt_5 (by decide) rfl ?_
  refine g_iload_n S dX5_receipt_6 rfl ?_
  refine g_tableIn S (tgt := 62) dX5_receipt_7 (by decide) (by decide) rfl (by decide) ?_
  refine g_aload_n S dX5_receipt_62 rfl ?_
  refine k3_getR S hK (by exact h3) 1 (by decide) (by exact hd) (S.2.2.2.2 _ (List.mem_of_getElem? (i := 4) rfl)) rfl dX5_receipt_63 ?_
  refine k2_getR S hK (by exact h2) 4 (by decide) (by exact hs) (S.2.2.2.2 _ (List.mem_of_getElem? (i := 5) rfl)) rfl dX5_receipt_66 ?_
  refine k4_get S hK (by exact h4) 0 (by decide) (S.2.2.2.2 _ (List.mem_of_getElem? (i := 6) rfl)) rfl dX5_receipt_69 ?_
  exact g_iret S hlk hr (fun H h => ⟨rfl, h⟩) (Nat.le_refl _) (Nat.le_refl _) dX5_receipt_72

set_option maxHeartbeats 1500000 in
set_option maxRecDepth 100000 in
theorem k_receipt3 (l : Launch) (D : va_G) (ty : Nat → ClassId) (A : Nat → Prop) (tE : Nat) (el : Nat → Nat → Nat) (a : CS) (h6 : cOb a 6 0) (hb : cL a 2 < 2 ^ 31) {q : Nat} (hq : q < cL a 2) (h3 : cOb a 3 q) {d : Nat} (hd : cR a 3 1 q = some d) (h2 : cOb a 2 d) : Met l yX5_receipt wsX5_receipt rmX5_receipt (gPc D ty true cstrs tE A [.ref (el 6 0), .int (nI q), .int 3] (hC D ty A tE el a)) (gQ A (gRet (some (.int (cI a 2 0 d))) (hC D ty A tE el a))) 0 0 A := by
  refine g_Met (cc := cX5_receipt) (maxL := 4) (ret := (some .int)) [some (.ref (el 6 0)), some (.int (nI q)), some (.int 3), none] (by decide) rfl (Nat.le_of_ble_eq_true rfl) rfl ?_
  intro p e s m args below meth c S hlk hr hnm hK hE hP0
  have S : CallFix p m c cX5_receipt 4 s args wsX5_receipt RX5 := S
  refine g_aload_n S dX5_receipt_0 rfl ?_
  refine g_iload_n S dX5_receipt_1 rfl ?_
  refine g_cVr S (k_findReceipt l D ty A tE el a h6 hb hq h3) (cwV 1 S.2.2.2.2 gX5_receipt_X5_findReceipt rfl rfl rfl (by decide +kernel) ⟨Nat.le_of_ble_eq_true rfl, Nat.le_of_ble_eq_true rfl⟩) hK hE (fun H h => h) (k6_recv hK h6) rfl (Nat.le_of_ble_eq_true rfl) dX5_receipt_2 ⟨Nat.le_of_ble_eq_true rfl, Nat.le_of_ble_eq_true rfl⟩ ?_
  refine g_astore_n S dX5_receipt_5 (by decide) rfl ?_
  refine g_iload_n S dX5_receipt_6 rfl ?_
  refine g_tableIn S (tgt := 73) dX5_receipt_7 (by decide) (by decide) rfl (by decide) ?_
  refine g_aload_n S dX5_receipt_73 rfl ?_
  refine k3_getR S hK (by exact h3) 1 (by decide) (by exact hd) (S.2.2.2.2 _ (List.mem_of_getElem? (i := 4) rfl)) rfl dX5_receipt_74 ?_
  refine k2_get S hK (by exact h2) 0 (by decide) (S.2.2.2.2 _ (List.mem_of_getElem? (i := 7) rfl)) rfl dX5_receipt_77 ?_
  exact g_iret S hlk hr (fun H h => ⟨rfl, h⟩) (Nat.le_refl _) (Nat.le_refl _) dX5_receipt_80

set_option maxHeartbeats 1500000 in
set_option maxRecDepth 100000 in
theorem k_receipt4 (l : Launch) (D : va_G) (ty : Nat → ClassId) (A : Nat → Prop) (tE : Nat) (el : Nat → Nat → Nat) (a : CS) (h6 : cOb a 6 0) (hb : cL a 2 < 2 ^ 31) {q : Nat} (hq : q < cL a 2) (h3 : cOb a 3 q)  : Met l yX5_receipt wsX5_receipt rmX5_receipt (gPc D ty true cstrs tE A [.ref (el 6 0), .int (nI q), .int 4] (hC D ty A tE el a)) (gQ A (gRet (some (.int (cI a 3 4 q))) (hC D ty A tE el a))) 0 0 A := by
  refine g_Met (cc := cX5_receipt) (maxL := 4) (ret := (some .int)) [some (.ref (el 6 0)), some (.int (nI q)), some (.int 4), none] (by decide) rfl (Nat.le_of_ble_eq_true rfl) rfl ?_
  intro p e s m args below meth c S hlk hr hnm hK hE hP0
  have S : CallFix p m c cX5_receipt 4 s args wsX5_receipt RX5 := S
  refine g_aload_n S dX5_receipt_0 rfl ?_
  refine g_iload_n S dX5_receipt_1 rfl ?_
  refine g_cVr S (k_findReceipt l D ty A tE el a h6 hb hq h3) (cwV 1 S.2.2.2.2 gX5_receipt_X5_findReceipt rfl rfl rfl (by decide +kernel) ⟨Nat.le_of_ble_eq_true rfl, Nat.le_of_ble_eq_true rfl⟩) hK hE (fun H h => h) (k6_recv hK h6) rfl (Nat.le_of_ble_eq_true rfl) dX5_receipt_2 ⟨Nat.le_of_ble_eq_true rfl, Nat.le_of_ble_eq_true rfl⟩ ?_
  refine g_astore_n S dX5_receipt_5 (by decide) rfl ?_
  refine g_iload_n S dX5_receipt_6 rfl ?_
  refine g_tableIn S (tgt := 81) dX5_receipt_7 (by decide) (by decide) rfl (by decide) ?_
  refine g_aload_n S dX5_receipt_81 rfl ?_
  refine k3_get S hK (by exact h3) 4 (by decide) (S.2.2.2.2 _ (List.mem_of_getElem? (i := 8) rfl)) rfl dX5_receipt_82 ?_
  exact g_iret S hlk hr (fun H h => ⟨rfl, h⟩) (Nat.le_refl _) (Nat.le_refl _) dX5_receipt_85

set_option maxHeartbeats 1500000 in
set_option maxRecDepth 100000 in
theorem k_receipt5 (l : Launch) (D : va_G) (ty : Nat → ClassId) (A : Nat → Prop) (tE : Nat) (el : Nat → Nat → Nat) (a : CS) (h6 : cOb a 6 0) (hb : cL a 2 < 2 ^ 31) {q : Nat} (hq : q < cL a 2) (h3 : cOb a 3 q)  : Met l yX5_receipt wsX5_receipt rmX5_receipt (gPc D ty true cstrs tE A [.ref (el 6 0), .int (nI q), .int 5] (hC D ty A tE el a)) (gQ A (gRet (some (.int (cI a 3 5 q))) (hC D ty A tE el a))) 0 0 A := by
  refine g_Met (cc := cX5_receipt) (maxL := 4) (ret := (some .int)) [some (.ref (el 6 0)), some (.int (nI q)), some (.int 5), none] (by decide) rfl (Nat.le_of_ble_eq_true rfl) rfl ?_
  intro p e s m args below meth c S hlk hr hnm hK hE hP0
  have S : CallFix p m c cX5_receipt 4 s args wsX5_receipt RX5 := S
  refine g_aload_n S dX5_receipt_0 rfl ?_
  refine g_iload_n S dX5_receipt_1 rfl ?_
  refine g_cVr S (k_findReceipt l D ty A tE el a h6 hb hq h3) (cwV 1 S.2.2.2.2 gX5_receipt_X5_findReceipt rfl rfl rfl (by decide +kernel) ⟨Nat.le_of_ble_eq_true rfl, Nat.le_of_ble_eq_true rfl⟩) hK hE (fun H h => h) (k6_recv hK h6) rfl (Nat.le_of_ble_eq_true rfl) dX5_receipt_2 ⟨Nat.le_of_ble_eq_true rfl, Nat.le_of_ble_eq_true rfl⟩ ?_
  refine g_astore_n S dX5_receipt_5 (by decide) rfl ?_
  refine g_iload_n S dX5_receipt_6 rfl ?_
  refine g_tableIn S (tgt := 86) dX5_receipt_7 (by decide) (by decide) rfl (by decide) ?_
  refine g_aload_n S dX5_receipt_86 rfl ?_
  refine k3_get S hK (by exact h3) 5 (by decide) (S.2.2.2.2 _ (List.mem_of_getElem? (i := 9) rfl)) rfl dX5_receipt_87 ?_
  exact g_iret S hlk hr (fun H h => ⟨rfl, h⟩) (Nat.le_refl _) (Nat.le_refl _) dX5_receipt_90

set_option maxHeartbeats 1500000 in
set_option maxRecDepth 100000 in
theorem k_receipt6 (l : Launch) (D : va_G) (ty : Nat → ClassId) (A : Nat → Prop) (tE : Nat) (el : Nat → Nat → Nat) (a : CS) (h6 : cOb a 6 0) (hb : cL a 2 < 2 ^ 31) {q : Nat} (hq : q < cL a 2) (h3 : cOb a 3 q)  : Met l yX5_receipt wsX5_receipt rmX5_receipt (gPc D ty true cstrs tE A [.ref (el 6 0), .int (nI q), .int 6] (hC D ty A tE el a)) (gQ A (gRet (some (.int (cI a 3 6 q))) (hC D ty A tE el a))) 0 0 A := by
  refine g_Met (cc := cX5_receipt) (maxL := 4) (ret := (some .int)) [some (.ref (el 6 0)), some (.int (nI q)), some (.int 6), none] (by decide) rfl (Nat.le_of_ble_eq_true rfl) rfl ?_
  intro p e s m args below meth c S hlk hr hnm hK hE hP0
  have S : CallFix p m c cX5_receipt 4 s args wsX5_receipt RX5 := S
  refine g_aload_n S dX5_receipt_0 rfl ?_
  refine g_iload_n S dX5_receipt_1 rfl ?_
  refine g_cVr S (k_findReceipt l D ty A tE el a h6 hb hq h3) (cwV 1 S.2.2.2.2 gX5_receipt_X5_findReceipt rfl rfl rfl (by decide +kernel) ⟨Nat.le_of_ble_eq_true rfl, Nat.le_of_ble_eq_true rfl⟩) hK hE (fun H h => h) (k6_recv hK h6) rfl (Nat.le_of_ble_eq_true rfl) dX5_receipt_2 ⟨Nat.le_of_ble_eq_true rfl, Nat.le_of_ble_eq_true rfl⟩ ?_
  refine g_astore_n S dX5_receipt_5 (by decide) rfl ?_
  refine g_iload_n S dX5_receipt_6 rfl ?_
  refine g_tableIn S (tgt := 91) dX5_receipt_7 (by decide) (by decide) rfl (by decide) ?_
  refine g_aload_n S dX5_receipt_91 rfl ?_
  refine k3_get S hK (by exact h3) 6 (by decide) (S.2.2.2.2 _ (List.mem_of_getElem? (i := 10) rfl)) rfl dX5_receipt_92 ?_
  exact g_iret S hlk hr (fun H h => ⟨rfl, h⟩) (Nat.le_refl _) (Nat.le_refl _) dX5_receipt_95

set_option maxHeartbeats 1500000 in
set_option maxRecDepth 100000 in
theorem k_receipt7n (l : Launch) (D : va_G) (ty : Nat → ClassId) (A : Nat → Prop) (tE : Nat) (el : Nat → Nat → Nat) (a : CS) (h6 : cOb a 6 0) (hb : cL a 2 < 2 ^ 31) {q : Nat} (hq : q < cL a 2) (h3 : cOb a 3 q) (hk : cR a 3 7 q = none) : Met l yX5_receipt wsX5_receipt rmX5_receipt (gPc D ty true cstrs tE A [.ref (el 6 0), .int (nI q), .int 7] (hC D ty A tE el a)) (gQ A (gRet (some (.int (-1))) (hC D ty A tE el a))) 0 0 A := by
  refine g_Met (cc := cX5_receipt) (maxL := 4) (ret := (some .int)) [some (.ref (el 6 0)), some (.int (nI q)), some (.int 7), none] (by decide) rfl (Nat.le_of_ble_eq_true rfl) rfl ?_
  intro p e s m args below meth c S hlk hr hnm hK hE hP0
  have S : CallFix p m c cX5_receipt 4 s args wsX5_receipt RX5 := S
  refine g_aload_n S dX5_receipt_0 rfl ?_
  refine g_iload_n S dX5_receipt_1 rfl ?_
  refine g_cVr S (k_findReceipt l D ty A tE el a h6 hb hq h3) (cwV 1 S.2.2.2.2 gX5_receipt_X5_findReceipt rfl rfl rfl (by decide +kernel) ⟨Nat.le_of_ble_eq_true rfl, Nat.le_of_ble_eq_true rfl⟩) hK hE (fun H h => h) (k6_recv hK h6) rfl (Nat.le_of_ble_eq_true rfl) dX5_receipt_2 ⟨Nat.le_of_ble_eq_true rfl, Nat.le_of_ble_eq_true rfl⟩ ?_
  refine g_astore_n S dX5_receipt_5 (by decide) rfl ?_
  refine g_iload_n S dX5_receipt_6 rfl ?_
  refine g_tableIn S (tgt := 96) dX5_receipt_7 (by decide) (by decide) rfl (by decide) ?_
  refine g_aload_n S dX5_receipt_96 rfl ?_
  refine k3_getN S hK (by exact h3) 7 (by decide) (by exact hk) (S.2.2.2.2 _ (List.mem_of_getElem? (i := 11) rfl)) rfl dX5_receipt_97 ?_
  refine g_ifnonnullN S dX5_receipt_100 ?_
  refine g_iconst S (v := (-1)) dX5_receipt_103 (by decide) ?_
  refine g_goto S (tgt := 114) dX5_receipt_104 (by decide) ?_
  exact g_iret S hlk hr (fun H h => ⟨rfl, h⟩) (Nat.le_refl _) (Nat.le_refl _) dX5_receipt_114

set_option maxHeartbeats 1500000 in
set_option maxRecDepth 100000 in
theorem k_receipt7s (l : Launch) (D : va_G) (ty : Nat → ClassId) (A : Nat → Prop) (tE : Nat) (el : Nat → Nat → Nat) (a : CS) (h6 : cOb a 6 0) (hb : cL a 2 < 2 ^ 31) {q : Nat} (hq : q < cL a 2) (h3 : cOb a 3 q) {c9 : Nat} (hk : cR a 3 7 q = some c9) (h1 : cOb a 1 c9) : Met l yX5_receipt wsX5_receipt rmX5_receipt (gPc D ty true cstrs tE A [.ref (el 6 0), .int (nI q), .int 7] (hC D ty A tE el a)) (gQ A (gRet (some (.int (cI a 1 0 c9))) (hC D ty A tE el a))) 0 0 A := by
  refine g_Met (cc := cX5_receipt) (maxL := 4) (ret := (some .int)) [some (.ref (el 6 0)), some (.int (nI q)), some (.int 7), none] (by decide) rfl (Nat.le_of_ble_eq_true rfl) rfl ?_
  intro p e s m args below meth c S hlk hr hnm hK hE hP0
  have S : CallFix p m c cX5_receipt 4 s args wsX5_receipt RX5 := S
  refine g_aload_n S dX5_receipt_0 rfl ?_
  refine g_iload_n S dX5_receipt_1 rfl ?_
  refine g_cVr S (k_findReceipt l D ty A tE el a h6 hb hq h3) (cwV 1 S.2.2.2.2 gX5_receipt_X5_findReceipt rfl rfl rfl (by decide +kernel) ⟨Nat.le_of_ble_eq_true rfl, Nat.le_of_ble_eq_true rfl⟩) hK hE (fun H h => h) (k6_recv hK h6) rfl (Nat.le_of_ble_eq_true rfl) dX5_receipt_2 ⟨Nat.le_of_ble_eq_true rfl, Nat.le_of_ble_eq_true rfl⟩ ?_
  refine g_astore_n S dX5_receipt_5 (by decide) rfl ?_
  refine g_iload_n S dX5_receipt_6 rfl ?_
  refine g_tableIn S (tgt := 96) dX5_receipt_7 (by decide) (by decide) rfl (by decide) ?_
  refine g_aload_n S dX5_receipt_96 rfl ?_
  refine k3_getR S hK (by exact h3) 7 (by decide) (by exact hk) (S.2.2.2.2 _ (List.mem_of_getElem? (i := 11) rfl)) rfl dX5_receipt_97 ?_
  refine g_ifnonnull S (tgt := 107) dX5_receipt_100 (by decide) ?_
  refine g_aload_n S dX5_receipt_107 rfl ?_
  refine k3_getR S hK (by exact h3) 7 (by decide) (by exact hk) (S.2.2.2.2 _ (List.mem_of_getElem? (i := 11) rfl)) rfl dX5_receipt_108 ?_
  refine k1_get S hK (by exact h1) 0 (by decide) (S.2.2.2.2 _ (List.mem_of_getElem? (i := 12) rfl)) rfl dX5_receipt_111 ?_
  exact g_iret S hlk hr (fun H h => ⟨rfl, h⟩) (Nat.le_refl _) (Nat.le_refl _) dX5_receipt_114

abbrev rtX5_receipt : Room := { frames := 8, cells := 1, slots := 6, locals := 300 }
set_option maxHeartbeats 1500000 in
set_option maxRecDepth 100000 in
theorem t_receipt2 (l : Launch) (D : va_G) (ty : Nat → ClassId) (A : Nat → Prop) (hl : l.stackTraces = false) (tE : Nat) (el : Nat → Nat → Nat) (a : CS) (h6 : cOb a 6 0) (hb : cL a 2 < 2 ^ 31) {q : Nat} (hq : q < cL a 2) (h3 : cOb a 3 q) (w : Int32) (hw : w.toInt < 0 ∨ 7 < w.toInt) : vx_Met l yX5_receipt wsX5_receipt rtX5_receipt (gPc D ty true cstrs tE A [.ref (el 6 0), .int (nI q), .int w] (hC D ty A tE el a)) (gQ A (fun _ _ => False)) (gX A (fun E H => E = "java/lang/IllegalArgumentException" ∧ hC D ty A tE el a H)) 1 6 A := by
  refine g_tMet (cc := cX5_receipt) (maxL := 4) (ret := (some .int)) [some (.ref (el 6 0)), some (.int (nI q)), some (.int w), none] (by decide) rfl (Nat.le_of_ble_eq_true rfl) rfl ?_
  intro p e s m args below meth c S hlk hout hK hE hP0
  have S : CallFix p m c cX5_receipt 4 s args wsX5_receipt RX5 := S
  refine g_aload_n S dX5_receipt_0 rfl ?_
  refine g_iload_n S dX5_receipt_1 rfl ?_
  refine g_cVr S (k_findReceipt l D ty A tE el a h6 hb hq h3) (cwV 1 S.2.2.2.2 gX5_receipt_X5_findReceipt rfl rfl rfl (by decide +kernel) ⟨Nat.le_of_ble_eq_true rfl, Nat.le_of_ble_eq_true rfl⟩) hK hE (fun H h => h) (k6_recv hK h6) rfl (Nat.le_of_ble_eq_true rfl) dX5_receipt_2 ⟨Nat.le_of_ble_eq_true rfl, Nat.le_of_ble_eq_true rfl⟩ ?_
  refine g_astore_n S dX5_receipt_5 (by decide) rfl ?_
  refine g_iload_n S dX5_receipt_6 rfl ?_
  refine g_tableOut S (tgt := 115) dX5_receipt_7 hw (by decide) ?_
  exact g_throwS S hl (cls := "java/lang/IllegalArgumentException") (text := "what is out of range") (names := ["java/lang/RuntimeException", "java/lang/Exception"]) (by decide) (by decide) (S.2.2.2.2 _ (List.mem_of_getElem? (i := 1) rfl)) (S.2.2.2.2 _ (List.mem_of_getElem? (i := 2) rfl)) (by decide +kernel) (by decide +kernel) (by decide +kernel) hE (by decide +kernel) dX5_receipt_115 dX5_receipt_118 dX5_receipt_119 dX5_receipt_121 dX5_receipt_124 hout rfl rfl ⟨Nat.le_of_ble_eq_true rfl, Nat.le_of_ble_eq_true rfl⟩ ⟨Nat.le_of_ble_eq_true rfl, Nat.le_of_ble_eq_true rfl⟩ hlk (fun H H1 hP hz hq => ⟨rfl, hC_grow hP hz hq⟩) (Nat.le_of_ble_eq_true rfl) (Nat.le_of_ble_eq_true rfl)

set_option maxHeartbeats 1500000 in
set_option maxRecDepth 100000 in
theorem t_receipt1 (l : Launch) (D : va_G) (ty : Nat → ClassId) (A : Nat → Prop) (hl : l.stackTraces = false) (tE : Nat) (el : Nat → Nat → Nat) (a : CS) (h6 : cOb a 6 0) (hb : cL a 2 < 2 ^ 31) (v w : Int32) (hv : ¬ vp_in v (cL a 2)) : vx_Met l yX5_receipt wsX5_receipt rtX5_receipt (gPc D ty true cstrs tE A [.ref (el 6 0), .int v, .int w] (hC D ty A tE el a)) (gQ A (fun _ _ => False)) (gX A (fun E H => E = "java/lang/IndexOutOfBoundsException" ∧ hC D ty A tE el a H)) 1 6 A := by
  refine g_tMet (cc := cX5_receipt) (maxL := 4) (ret := (some .int)) [some (.ref (el 6 0)), some (.int v), some (.int w), none] (by decide) rfl (Nat.le_of_ble_eq_true rfl) rfl ?_
  intro p e s m args below meth c S hlk hout hK hE hP0
  have S : CallFix p m c cX5_receipt 4 s args wsX5_receipt RX5 := S
  refine g_aload_n S dX5_receipt_0 rfl ?_
  refine g_iload_n S dX5_receipt_1 rfl ?_
  exact g_tcallV S (t_findReceipt l D ty A hl tE el a h6 hb _ hv) (cwV 1 S.2.2.2.2 gX5_receipt_X5_findReceipt rfl rfl rfl (by decide +kernel) ⟨Nat.le_of_ble_eq_true rfl, Nat.le_of_ble_eq_true rfl⟩) hK hE (fun H h => h) (k6_recv hK h6) rfl (Nat.le_of_ble_eq_true rfl) dX5_receipt_2 ⟨Nat.le_of_ble_eq_true rfl, Nat.le_of_ble_eq_true rfl⟩ (fun E => g_out hout hlk (fun H h => h) (Nat.le_of_ble_eq_true rfl) (Nat.le_of_ble_eq_true rfl))

