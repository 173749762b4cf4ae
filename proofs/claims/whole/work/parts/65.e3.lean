abbrev rtX5_contentAnew : Room := { frames := 8, cells := 1, slots := 6, locals := 300 }
set_option maxHeartbeats 1500000 in
set_option maxRecDepth 100000 in
theorem t_contentAnew (l : Launch) (D : va_G) (ty : Nat → ClassId) (A : Nat → Prop) (hl : l.stackTraces = false) (tE : Nat) (el : Nat → Nat → Nat) (a : CS) (h6 : cOb a 6 0) (hb0 : cL a 0 < 2 ^ 31) (v : Int32) (hv : ¬ vp_in v (cL a 0)) : vx_Met l yX5_contentAnew wsX5_contentAnew rtX5_contentAnew (gPc D ty true cstrs tE A [.ref (el 6 0), .int v] (hC D ty A tE el a)) (gQ A (fun _ _ => False)) (gX A (fun E H => E = "java/lang/IndexOutOfBoundsException" ∧ hC D ty A tE el a H)) 1 6 A := by
  refine g_tMet (cc := cX5_contentAnew) (maxL := 6) (ret := (some .int)) [some (.ref (el 6 0)), some (.int v), none, none, none, none] (by decide) rfl (Nat.le_of_ble_eq_true rfl) rfl ?_
  intro p e s m args below meth c S hlk hout hK hE hP0
  have S : CallFix p m c cX5_contentAnew 6 s args wsX5_contentAnew RX5 := S
  refine g_aload_n S dX5_contentAnew_0 rfl ?_
  refine g_iload_n S dX5_contentAnew_1 rfl ?_
  exact g_tcallV S (t_findSilo l D ty A hl tE el a h6 hb0 _ hv) (cwV 1 S.2.2.2.2 gX5_contentAnew_X5_findSilo rfl rfl rfl (by decide +kernel) ⟨Nat.le_of_ble_eq_true rfl, Nat.le_of_ble_eq_true rfl⟩) hK hE (fun H h => h) (k6_recv hK h6) rfl (Nat.le_of_ble_eq_true rfl) dX5_contentAnew_2 ⟨Nat.le_of_ble_eq_true rfl, Nat.le_of_ble_eq_true rfl⟩ (fun E => g_out hout hlk (fun H h => h) (Nat.le_of_ble_eq_true rfl) (Nat.le_of_ble_eq_true rfl))

abbrev rtX5_holds : Room := { frames := 8, cells := 1, slots := 6, locals := 300 }
set_option maxHeartbeats 1500000 in
set_option maxRecDepth 100000 in
theorem t_holds1 (l : Launch) (D : va_G) (ty : Nat → ClassId) (A : Nat → Prop) (hl : l.stackTraces = false) (tE : Nat) (el : Nat → Nat → Nat) (a : CS) (h6 : cOb a 6 0) (w g q : Int32) (hv : ¬ vp_in w 6) : vx_Met l yX5_holds wsX5_holds rtX5_holds (gPc D ty true cstrs tE A [.ref (el 6 0), .int w, .int g, .int q] (hC D ty A tE el a)) (gQ A (fun _ _ => False)) (gX A (fun E H => E = "java/lang/IndexOutOfBoundsException" ∧ hC D ty A tE el a H)) 1 6 A := by
  refine g_tMet (cc := cX5_holds) (maxL := 7) (ret := (some .int)) [some (.ref (el 6 0)), some (.int w), some (.int g), some (.int q), none, none, none] (by decide) rfl (Nat.le_of_ble_eq_true rfl) rfl ?_
  intro p e s m args below meth c S hlk hout hK hE hP0
  have S : CallFix p m c cX5_holds 7 s args wsX5_holds RX5 := S
  refine g_iload_n S dX5_holds_0 rfl ?_
  refine g_if_lt S (tgt := 10) dX5_holds_1 (by decide) (fun c_1 => ?_) (fun c_1 => ?_)
  · exact g_throwSW S hl (cls := "java/lang/IndexOutOfBoundsException") (text := "there is no such holder") (names := ["java/lang/RuntimeException", "java/lang/Exception"]) (by decide) (by decide) (S.2.2.2.2 _ (List.mem_of_getElem? (i := 1) rfl)) (S.2.2.2.2 _ (List.mem_of_getElem? (i := 2) rfl)) (by decide +kernel) (by decide +kernel) (by decide +kernel) hE (by decide +kernel) dX5_holds_10 dX5_holds_13 dX5_holds_14 dX5_holds_17 dX5_holds_20 hout rfl rfl ⟨Nat.le_of_ble_eq_true rfl, Nat.le_of_ble_eq_true rfl⟩ ⟨Nat.le_of_ble_eq_true rfl, Nat.le_of_ble_eq_true rfl⟩ hlk (fun H H1 hP hz hq => ⟨rfl, hC_grow hP hz hq⟩) (Nat.le_of_ble_eq_true rfl) (Nat.le_of_ble_eq_true rfl)
  · refine g_iload_n S dX5_holds_4 rfl ?_
    refine g_bipush S (v := 6) dX5_holds_5 (by decide) ?_
    refine g_icmp_lt S (tgt := 21) dX5_holds_7 (by decide) (fun c_7 => ?_) (fun c_7 => ?_)
    · exact absurd (vin_of (n := 6) c_1 c_7 (by decide)) hv
    · exact g_throwSW S hl (cls := "java/lang/IndexOutOfBoundsException") (text := "there is no such holder") (names := ["java/lang/RuntimeException", "java/lang/Exception"]) (by decide) (by decide) (S.2.2.2.2 _ (List.mem_of_getElem? (i := 1) rfl)) (S.2.2.2.2 _ (List.mem_of_getElem? (i := 2) rfl)) (by decide +kernel) (by decide +kernel) (by decide +kernel) hE (by decide +kernel) dX5_holds_10 dX5_holds_13 dX5_holds_14 dX5_holds_17 dX5_holds_20 hout rfl rfl ⟨Nat.le_of_ble_eq_true rfl, Nat.le_of_ble_eq_true rfl⟩ ⟨Nat.le_of_ble_eq_true rfl, Nat.le_of_ble_eq_true rfl⟩ hlk (fun H H1 hP hz hq => ⟨rfl, hC_grow hP hz hq⟩) (Nat.le_of_ble_eq_true rfl) (Nat.le_of_ble_eq_true rfl)

set_option maxHeartbeats 1500000 in
set_option maxRecDepth 100000 in
theorem t_holds20 (l : Launch) (D : va_G) (ty : Nat → ClassId) (A : Nat → Prop) (hl : l.stackTraces = false) (tE : Nat) (el : Nat → Nat → Nat) (a : CS) (h6 : cOb a 6 0) (w g q : Int32) (hv0 : vp_in w 6) (hv : mIn g 0 2 = false) : vx_Met l yX5_holds wsX5_holds rtX5_holds (gPc D ty true cstrs tE A [.ref (el 6 0), .int w, .int g, .int q] (hC D ty A tE el a)) (gQ A (fun _ _ => False)) (gX A (fun E H => E = "java/lang/IllegalArgumentException" ∧ hC D ty A tE el a H)) 1 6 A := by
  refine g_tMet (cc := cX5_holds) (maxL := 7) (ret := (some .int)) [some (.ref (el 6 0)), some (.int w), some (.int g), some (.int q), none, none, none] (by decide) rfl (Nat.le_of_ble_eq_true rfl) rfl ?_
  intro p e s m args below meth c S hlk hout hK hE hP0
  have S : CallFix p m c cX5_holds 7 s args wsX5_holds RX5 := S
  refine g_iload_n S dX5_holds_0 rfl ?_
  refine g_if_lt S (tgt := 10) dX5_holds_1 (by decide) (fun c_1 => ?_) (fun c_1 => ?_)
  · exact absurd c_1 (vin_nlt hv0)
  · refine g_iload_n S dX5_holds_4 rfl ?_
    refine g_bipush S (v := 6) dX5_holds_5 (by decide) ?_
    refine g_icmp_lt S (tgt := 21) dX5_holds_7 (by decide) (fun c_7 => ?_) (fun c_7 => ?_)
    · refine g_iload_n S dX5_holds_21 rfl ?_
      refine g_iconst S (v := 0) dX5_holds_22 (by decide) ?_
      refine g_iconst S (v := 2) dX5_holds_23 (by decide) ?_
      exact g_tcallS S ((t_needRange l D ty A hl tE el a _ (fun H H1 h hz hq => hC_grow h hz hq) _ _ _ (by exact hv))) (va_cwS 3 S.2.2.2.2 gX5_holds_X5_needRange rfl rfl rfl (by decide +kernel) ⟨Nat.le_of_ble_eq_true rfl, Nat.le_of_ble_eq_true rfl⟩) hK hE (fun H h => h) rfl (Nat.le_of_ble_eq_true rfl) dX5_holds_24 ⟨Nat.le_of_ble_eq_true rfl, Nat.le_of_ble_eq_true rfl⟩ (fun E => g_out hout hlk (fun H h => h) (Nat.le_of_ble_eq_true rfl) (Nat.le_of_ble_eq_true rfl))
    · exact absurd (Int32.not_lt.mp c_7) (vin_nle hv0 (by decide))

set_option maxHeartbeats 1500000 in
set_option maxRecDepth 100000 in
theorem t_holds21 (l : Launch) (D : va_G) (ty : Nat → ClassId) (A : Nat → Prop) (hl : l.stackTraces = false) (tE : Nat) (el : Nat → Nat → Nat) (a : CS) (h6 : cOb a 6 0) (w g q : Int32) (hv0 : vp_in w 6) (hv1 : mIn g 0 2 = true) (hv : mIn q 0 2 = false) : vx_Met l yX5_holds wsX5_holds rtX5_holds (gPc D ty true cstrs tE A [.ref (el 6 0), .int w, .int g, .int q] (hC D ty A tE el a)) (gQ A (fun _ _ => False)) (gX A (fun E H => E = "java/lang/IllegalArgumentException" ∧ hC D ty A tE el a H)) 1 6 A := by
  refine g_tMet (cc := cX5_holds) (maxL := 7) (ret := (some .int)) [some (.ref (el 6 0)), some (.int w), some (.int g), some (.int q), none, none, none] (by decide) rfl (Nat.le_of_ble_eq_true rfl) rfl ?_
  intro p e s m args below meth c S hlk hout hK hE hP0
  have S : CallFix p m c cX5_holds 7 s args wsX5_holds RX5 := S
  refine g_iload_n S dX5_holds_0 rfl ?_
  refine g_if_lt S (tgt := 10) dX5_holds_1 (by decide) (fun c_1 => ?_) (fun c_1 => ?_)
  · exact absurd c_1 (vin_nlt hv0)
  · refine g_iload_n S dX5_holds_4 rfl ?_
    refine g_bipush S (v := 6) dX5_holds_5 (by decide) ?_
    refine g_icmp_lt S (tgt := 21) dX5_holds_7 (by decide) (fun c_7 => ?_) (fun c_7 => ?_)
    · refine g_iload_n S dX5_holds_21 rfl ?_
      refine g_iconst S (v := 0) dX5_holds_22 (by decide) ?_
      refine g_iconst S (v := 2) dX5_holds_23 (by decide) ?_
      refine g_cSv S (k_needRange l D ty A tE el a _ _ _ _ (by exact hv1)) (va_cwS 3 S.2.2.2.2 gX5_holds_X5_needRange rfl rfl rfl (by decide +kernel) ⟨Nat.le_of_ble_eq_true rfl, Nat.le_of_ble_eq_true rfl⟩) hK hE (fun H h => h) rfl (Nat.le_of_ble_eq_true rfl) dX5_holds_24 ⟨Nat.le_of_ble_eq_true rfl, Nat.le_of_ble_eq_true rfl⟩ ?_
      refine g_iload_n S dX5_holds_27 rfl ?_
      refine g_iconst S (v := 0) dX5_holds_28 (by decide) ?_
      refine g_iconst S (v := 2) dX5_holds_29 (by decide) ?_
      exact g_tcallS S ((t_needRange l D ty A hl tE el a _ (fun H H1 h hz hq => hC_grow h hz hq) _ _ _ (by exact hv))) (va_cwS 3 S.2.2.2.2 gX5_holds_X5_needRange rfl rfl rfl (by decide +kernel) ⟨Nat.le_of_ble_eq_true rfl, Nat.le_of_ble_eq_true rfl⟩) hK hE (fun H h => h) rfl (Nat.le_of_ble_eq_true rfl) dX5_holds_30 ⟨Nat.le_of_ble_eq_true rfl, Nat.le_of_ble_eq_true rfl⟩ (fun E => g_out hout hlk (fun H h => h) (Nat.le_of_ble_eq_true rfl) (Nat.le_of_ble_eq_true rfl))
    · exact absurd (Int32.not_lt.mp c_7) (vin_nle hv0 (by decide))

