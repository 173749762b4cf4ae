def kTerms (a : CS) (r f q : Int32) : CS := cSI (cSI (cSI a 6 6 0 r) 6 7 0 f) 6 8 0 q
abbrev rmX5_terms : Room := { frames := 1, cells := 0, slots := 0, locals := 22 }
set_option maxHeartbeats 1500000 in
set_option maxRecDepth 100000 in
theorem k_terms (l : Launch) (D : va_G) (ty : Nat → ClassId) (A : Nat → Prop) (tE : Nat) (el : Nat → Nat → Nat) (a : CS) (h6 : cOb a 6 0) (r f q : Int32) (hv0 : mIn r 0 5000 = true) (hv1 : mIn f 0 1000 = true) (hv2 : mIn q 0 1000 = true) : Met l yX5_terms wsX5_terms rmX5_terms (gPc D ty true cstrs tE A [.ref (el 6 0), .int r, .int f, .int q] (hC D ty A tE el a)) (gQ A (gRet none (hC D ty A tE el (kTerms a r f q)))) 0 0 A := by
  refine g_Met (cc := cX5_terms) (maxL := 4) (ret := none) [some (.ref (el 6 0)), some (.int r), some (.int f), some (.int q)] (by decide) rfl (Nat.le_of_ble_eq_true rfl) rfl ?_
  intro p e s m args below meth c S hlk hr hnm hK hE hP0
  have S : CallFix p m c cX5_terms 4 s args wsX5_terms RX5 := S
  refine g_iload_n S dX5_terms_0 rfl ?_
  refine g_iconst S (v := 0) dX5_terms_1 (by decide) ?_
  refine g_sipush S (v := 5000) dX5_terms_2 (by decide) ?_
  refine g_cSv S (k_needRange l D ty A tE el a _ _ _ _ (by exact hv0)) (va_cwS 3 S.2.2.2.2 gX5_terms_X5_needRange rfl rfl rfl (by decide +kernel) ⟨Nat.le_of_ble_eq_true rfl, Nat.le_of_ble_eq_true rfl⟩) hK hE (fun H h => h) rfl (Nat.le_of_ble_eq_true rfl) dX5_terms_5 ⟨Nat.le_of_ble_eq_true rfl, Nat.le_of_ble_eq_true rfl⟩ ?_
  refine g_iload_n S dX5_terms_8 rfl ?_
  refine g_iconst S (v := 0) dX5_terms_9 (by decide) ?_
  refine g_sipush S (v := 1000) dX5_terms_10 (by decide) ?_
  refine g_cSv S (k_needRange l D ty A tE el a _ _ _ _ (by exact hv1)) (va_cwS 3 S.2.2.2.2 gX5_terms_X5_needRange rfl rfl rfl (by decide +kernel) ⟨Nat.le_of_ble_eq_true rfl, Nat.le_of_ble_eq_true rfl⟩) hK hE (fun H h => h) rfl (Nat.le_of_ble_eq_true rfl) dX5_terms_13 ⟨Nat.le_of_ble_eq_true rfl, Nat.le_of_ble_eq_true rfl⟩ ?_
  refine g_iload_n S dX5_terms_16 rfl ?_
  refine g_iconst S (v := 0) dX5_terms_17 (by decide) ?_
  refine g_sipush S (v := 1000) dX5_terms_18 (by decide) ?_
  refine g_cSv S (k_needRange l D ty A tE el a _ _ _ _ (by exact hv2)) (va_cwS 3 S.2.2.2.2 gX5_terms_X5_needRange rfl rfl rfl (by decide +kernel) ⟨Nat.le_of_ble_eq_true rfl, Nat.le_of_ble_eq_true rfl⟩) hK hE (fun H h => h) rfl (Nat.le_of_ble_eq_true rfl) dX5_terms_21 ⟨Nat.le_of_ble_eq_true rfl, Nat.le_of_ble_eq_true rfl⟩ ?_
  refine g_aload_n S dX5_terms_24 rfl ?_
  refine g_iload_n S dX5_terms_25 rfl ?_
  refine k6_put S hK (by exact h6) 6 (by decide) (by decide) (S.2.2.2.2 _ (List.mem_of_getElem? (i := 1) rfl)) (Or.inl rfl) rfl rfl dX5_terms_26 ?_
  refine g_aload_n S dX5_terms_29 rfl ?_
  refine g_iload_n S dX5_terms_30 rfl ?_
  refine k6_put S hK (by exact h6) 7 (by decide) (by decide) (S.2.2.2.2 _ (List.mem_of_getElem? (i := 2) rfl)) (Or.inl rfl) rfl rfl dX5_terms_31 ?_
  refine g_aload_n S dX5_terms_34 rfl ?_
  refine g_iload_n S dX5_terms_35 rfl ?_
  refine k6_put S hK (by exact h6) 8 (by decide) (by decide) (S.2.2.2.2 _ (List.mem_of_getElem? (i := 3) rfl)) (Or.inl rfl) rfl rfl dX5_terms_36 ?_
  exact g_vret S hlk hr (fun H h => ⟨rfl, h⟩) (Nat.le_refl _) (Nat.le_refl _) dX5_terms_39

abbrev rtX5_terms : Room := { frames := 8, cells := 1, slots := 6, locals := 300 }
set_option maxHeartbeats 1500000 in
set_option maxRecDepth 100000 in
theorem t_terms0 (l : Launch) (D : va_G) (ty : Nat → ClassId) (A : Nat → Prop) (hl : l.stackTraces = false) (tE : Nat) (el : Nat → Nat → Nat) (a : CS) (h6 : cOb a 6 0) (r f q : Int32)  (hv : mIn r 0 5000 = false) : vx_Met l yX5_terms wsX5_terms rtX5_terms (gPc D ty true cstrs tE A [.ref (el 6 0), .int r, .int f, .int q] (hC D ty A tE el a)) (gQ A (fun _ _ => False)) (gX A (fun E H => E = "java/lang/IllegalArgumentException" ∧ hC D ty A tE el a H)) 1 6 A := by
  refine g_tMet (cc := cX5_terms) (maxL := 4) (ret := none) [some (.ref (el 6 0)), some (.int r), some (.int f), some (.int q)] (by decide) rfl (Nat.le_of_ble_eq_true rfl) rfl ?_
  intro p e s m args below meth c S hlk hout hK hE hP0
  have S : CallFix p m c cX5_terms 4 s args wsX5_terms RX5 := S
  refine g_iload_n S dX5_terms_0 rfl ?_
  refine g_iconst S (v := 0) dX5_terms_1 (by decide) ?_
  refine g_sipush S (v := 5000) dX5_terms_2 (by decide) ?_
  exact g_tcallS S ((t_needRange l D ty A hl tE el a _ (fun H H1 h hz hq => hC_grow h hz hq) _ _ _ (by exact hv))) (va_cwS 3 S.2.2.2.2 gX5_terms_X5_needRange rfl rfl rfl (by decide +kernel) ⟨Nat.le_of_ble_eq_true rfl, Nat.le_of_ble_eq_true rfl⟩) hK hE (fun H h => h) rfl (Nat.le_of_ble_eq_true rfl) dX5_terms_5 ⟨Nat.le_of_ble_eq_true rfl, Nat.le_of_ble_eq_true rfl⟩ (fun E => g_out hout hlk (fun H h => h) (Nat.le_of_ble_eq_true rfl) (Nat.le_of_ble_eq_true rfl))

set_option maxHeartbeats 1500000 in
set_option maxRecDepth 100000 in
theorem t_terms1 (l : Launch) (D : va_G) (ty : Nat → ClassId) (A : Nat → Prop) (hl : l.stackTraces = false) (tE : Nat) (el : Nat → Nat → Nat) (a : CS) (h6 : cOb a 6 0) (r f q : Int32) (hv0 : mIn r 0 5000 = true) (hv : mIn f 0 1000 = false) : vx_Met l yX5_terms wsX5_terms rtX5_terms (gPc D ty true cstrs tE A [.ref (el 6 0), .int r, .int f, .int q] (hC D ty A tE el a)) (gQ A (fun _ _ => False)) (gX A (fun E H => E = "java/lang/IllegalArgumentException" ∧ hC D ty A tE el a H)) 1 6 A := by
  refine g_tMet (cc := cX5_terms) (maxL := 4) (ret := none) [some (.ref (el 6 0)), some (.int r), some (.int f), some (.int q)] (by decide) rfl (Nat.le_of_ble_eq_true rfl) rfl ?_
  intro p e s m args below meth c S hlk hout hK hE hP0
  have S : CallFix p m c cX5_terms 4 s args wsX5_terms RX5 := S
  refine g_iload_n S dX5_terms_0 rfl ?_
  refine g_iconst S (v := 0) dX5_terms_1 (by decide) ?_
  refine g_sipush S (v := 5000) dX5_terms_2 (by decide) ?_
  refine g_cSv S (k_needRange l D ty A tE el a _ _ _ _ (by exact hv0)) (va_cwS 3 S.2.2.2.2 gX5_terms_X5_needRange rfl rfl rfl (by decide +kernel) ⟨Nat.le_of_ble_eq_true rfl, Nat.le_of_ble_eq_true rfl⟩) hK hE (fun H h => h) rfl (Nat.le_of_ble_eq_true rfl) dX5_terms_5 ⟨Nat.le_of_ble_eq_true rfl, Nat.le_of_ble_eq_true rfl⟩ ?_
  refine g_iload_n S dX5_terms_8 rfl ?_
  refine g_iconst S (v := 0) dX5_terms_9 (by decide) ?_
  refine g_sipush S (v := 1000) dX5_terms_10 (by decide) ?_
  exact g_tcallS S ((t_needRange l D ty A hl tE el a _ (fun H H1 h hz hq => hC_grow h hz hq) _ _ _ (by exact hv))) (va_cwS 3 S.2.2.2.2 gX5_terms_X5_needRange rfl rfl rfl (by decide +kernel) ⟨Nat.le_of_ble_eq_true rfl, Nat.le_of_ble_eq_true rfl⟩) hK hE (fun H h => h) rfl (Nat.le_of_ble_eq_true rfl) dX5_terms_13 ⟨Nat.le_of_ble_eq_true rfl, Nat.le_of_ble_eq_true rfl⟩ (fun E => g_out hout hlk (fun H h => h) (Nat.le_of_ble_eq_true rfl) (Nat.le_of_ble_eq_true rfl))

set_option maxHeartbeats 1500000 in
set_option maxRecDepth 100000 in
theorem t_terms2 (l : Launch) (D : va_G) (ty : Nat → ClassId) (A : Nat → Prop) (hl : l.stackTraces = false) (tE : Nat) (el : Nat → Nat → Nat) (a : CS) (h6 : cOb a 6 0) (r f q : Int32) (hv0 : mIn r 0 5000 = true) (hv1 : mIn f 0 1000 = true) (hv : mIn q 0 1000 = false) : vx_Met l yX5_terms wsX5_terms rtX5_terms (gPc D ty true cstrs tE A [.ref (el 6 0), .int r, .int f, .int q] (hC D ty A tE el a)) (gQ A (fun _ _ => False)) (gX A (fun E H => E = "java/lang/IllegalArgumentException" ∧ hC D ty A tE el a H)) 1 6 A := by
  refine g_tMet (cc := cX5_terms) (maxL := 4) (ret := none) [some (.ref (el 6 0)), some (.int r), some (.int f), some (.int q)] (by decide) rfl (Nat.le_of_ble_eq_true rfl) rfl ?_
  intro p e s m args below meth c S hlk hout hK hE hP0
  have S : CallFix p m c cX5_terms 4 s args wsX5_terms RX5 := S
  refine g_iload_n S dX5_terms_0 rfl ?_
  refine g_iconst S (v := 0) dX5_terms_1 (by decide) ?_
  refine g_sipush S (v := 5000) dX5_terms_2 (by decide) ?_
  refine g_cSv S (k_needRange l D ty A tE el a _ _ _ _ (by exact hv0)) (va_cwS 3 S.2.2.2.2 gX5_terms_X5_needRange rfl rfl rfl (by decide +kernel) ⟨Nat.le_of_ble_eq_true rfl, Nat.le_of_ble_eq_true rfl⟩) hK hE (fun H h => h) rfl (Nat.le_of_ble_eq_true rfl) dX5_terms_5 ⟨Nat.le_of_ble_eq_true rfl, Nat.le_of_ble_eq_true rfl⟩ ?_
  refine g_iload_n S dX5_terms_8 rfl ?_
  refine g_iconst S (v := 0) dX5_terms_9 (by decide) ?_
  refine g_sipush S (v := 1000) dX5_terms_10 (by decide) ?_
  refine g_cSv S (k_needRange l D ty A tE el a _ _ _ _ (by exact hv1)) (va_cwS 3 S.2.2.2.2 gX5_terms_X5_needRange rfl rfl rfl (by decide +kernel) ⟨Nat.le_of_ble_eq_true rfl, Nat.le_of_ble_eq_true rfl⟩) hK hE (fun H h => h) rfl (Nat.le_of_ble_eq_true rfl) dX5_terms_13 ⟨Nat.le_of_ble_eq_true rfl, Nat.le_of_ble_eq_true rfl⟩ ?_
  refine g_iload_n S dX5_terms_16 rfl ?_
  refine g_iconst S (v := 0) dX5_terms_17 (by decide) ?_
  refine g_sipush S (v := 1000) dX5_terms_18 (by decide) ?_
  exact g_tcallS S ((t_needRange l D ty A hl tE el a _ (fun H H1 h hz hq => hC_grow h hz hq) _ _ _ (by exact hv))) (va_cwS 3 S.2.2.2.2 gX5_terms_X5_needRange rfl rfl rfl (by decide +kernel) ⟨Nat.le_of_ble_eq_true rfl, Nat.le_of_ble_eq_true rfl⟩) hK hE (fun H h => h) rfl (Nat.le_of_ble_eq_true rfl) dX5_terms_21 ⟨Nat.le_of_ble_eq_true rfl, Nat.le_of_ble_eq_true rfl⟩ (fun E => g_out hout hlk (fun H h => h) (Nat.le_of_ble_eq_true rfl) (Nat.le_of_ble_eq_true rfl))

abbrev rmX5_account : Room := { frames := 0, cells := 0, slots := 0, locals := 0 }
set_option maxHeartbeats 1500000 in
set_option maxRecDepth 100000 in
theorem k_account (l : Launch) (D : va_G) (ty : Nat → ClassId) (A : Nat → Prop) (tE : Nat) (el : Nat → Nat → Nat) (a : CS) (h6 : cOb a 6 0) (v : Int32) (hv : vp_in v 6) : Met l yX5_account wsX5_account rmX5_account (gPc D ty true cstrs tE A [.ref (el 6 0), .int v] (hC D ty A tE el a)) (gQ A (gRet (some (.long (cA a v.toNatClampNeg))) (hC D ty A tE el a))) 0 0 A := by
  refine g_Met (cc := cX5_account) (maxL := 2) (ret := (some .long)) [some (.ref (el 6 0)), some (.int v)] (by decide) rfl (Nat.le_of_ble_eq_true rfl) rfl ?_
  intro p e s m args below meth c S hlk hr hnm hK hE hP0
  have S : CallFix p m c cX5_account 2 s args wsX5_account RX5 := S
  refine g_iload_n S dX5_account_0 rfl ?_
  refine g_if_lt S (tgt := 13) dX5_account_1 (by decide) (fun c_1 => ?_) (fun c_1 => ?_)
  · exact absurd c_1 (vin_nlt hv)
  · refine g_iload_n S dX5_account_4 rfl ?_
    refine g_aload_n S dX5_account_5 rfl ?_
    refine k6_get S hK (by exact h6) 4 (by decide) (S.2.2.2.2 _ (List.mem_of_getElem? (i := 3) rfl)) rfl dX5_account_6 ?_
    refine k8_alen S hK dX5_account_9 ?_
    refine g_icmp_lt S (tgt := 24) dX5_account_10 (by decide) (fun c_10 => ?_) (fun c_10 => ?_)
    · refine g_aload_n S dX5_account_24 rfl ?_
      refine k6_get S hK (by exact h6) 4 (by decide) (S.2.2.2.2 _ (List.mem_of_getElem? (i := 3) rfl)) rfl dX5_account_25 ?_
      refine g_iload_n S dX5_account_28 rfl ?_
      refine k8_lald S hK hv dX5_account_29 ?_
      exact g_lret S hlk hr (fun H h => ⟨rfl, h⟩) (Nat.le_refl _) (Nat.le_refl _) dX5_account_30
    · exact absurd (Int32.not_lt.mp c_10) (vin_nle hv (by decide))

abbrev rtX5_account : Room := { frames := 6, cells := 1, slots := 6, locals := 100 }
set_option maxHeartbeats 1500000 in
set_option maxRecDepth 100000 in
theorem t_account (l : Launch) (D : va_G) (ty : Nat → ClassId) (A : Nat → Prop) (hl : l.stackTraces = false) (tE : Nat) (el : Nat → Nat → Nat) (a : CS) (h6 : cOb a 6 0) (v : Int32) (hv : ¬ vp_in v 6) : vx_Met l yX5_account wsX5_account rtX5_account (gPc D ty true cstrs tE A [.ref (el 6 0), .int v] (hC D ty A tE el a)) (gQ A (fun _ _ => False)) (gX A (fun E H => E = "java/lang/IndexOutOfBoundsException" ∧ hC D ty A tE el a H)) 1 6 A := by
  refine g_tMet (cc := cX5_account) (maxL := 2) (ret := (some .long)) [some (.ref (el 6 0)), some (.int v)] (by decide) rfl (Nat.le_of_ble_eq_true rfl) rfl ?_
  intro p e s m args below meth c S hlk hout hK hE hP0
  have S : CallFix p m c cX5_account 2 s args wsX5_account RX5 := S
  refine g_iload_n S dX5_account_0 rfl ?_
  refine g_if_lt S (tgt := 13) dX5_account_1 (by decide) (fun c_1 => ?_) (fun c_1 => ?_)
  · exact g_throwSW S hl (cls := "java/lang/IndexOutOfBoundsException") (text := "there is no such holder") (names := ["java/lang/RuntimeException", "java/lang/Exception"]) (by decide) (by decide) (S.2.2.2.2 _ (List.mem_of_getElem? (i := 1) rfl)) (S.2.2.2.2 _ (List.mem_of_getElem? (i := 2) rfl)) (by decide +kernel) (by decide +kernel) (by decide +kernel) hE (by decide +kernel) dX5_account_13 dX5_account_16 dX5_account_17 dX5_account_20 dX5_account_23 hout rfl rfl ⟨Nat.le_of_ble_eq_true rfl, Nat.le_of_ble_eq_true rfl⟩ ⟨Nat.le_of_ble_eq_true rfl, Nat.le_of_ble_eq_true rfl⟩ hlk (fun H H1 hP hz hq => ⟨rfl, hC_grow hP hz hq⟩) (Nat.le_of_ble_eq_true rfl) (Nat.le_of_ble_eq_true rfl)
  · refine g_iload_n S dX5_account_4 rfl ?_
    refine g_aload_n S dX5_account_5 rfl ?_
    refine k6_get S hK (by exact h6) 4 (by decide) (S.2.2.2.2 _ (List.mem_of_getElem? (i := 3) rfl)) rfl dX5_account_6 ?_
    refine k8_alen S hK dX5_account_9 ?_
    refine g_icmp_lt S (tgt := 24) dX5_account_10 (by decide) (fun c_10 => ?_) (fun c_10 => ?_)
    · exact absurd (vin_of c_1 c_10 (n := 6) (by decide)) hv
    · exact g_throwSW S hl (cls := "java/lang/IndexOutOfBoundsException") (text := "there is no such holder") (names := ["java/lang/RuntimeException", "java/lang/Exception"]) (by decide) (by decide) (S.2.2.2.2 _ (List.mem_of_getElem? (i := 1) rfl)) (S.2.2.2.2 _ (List.mem_of_getElem? (i := 2) rfl)) (by decide +kernel) (by decide +kernel) (by decide +kernel) hE (by decide +kernel) dX5_account_13 dX5_account_16 dX5_account_17 dX5_account_20 dX5_account_23 hout rfl rfl ⟨Nat.le_of_ble_eq_true rfl, Nat.le_of_ble_eq_true rfl⟩ ⟨Nat.le_of_ble_eq_true rfl, Nat.le_of_ble_eq_true rfl⟩ hlk (fun H H1 hP hz hq => ⟨rfl, hC_grow hP hz hq⟩) (Nat.le_of_ble_eq_true rfl) (Nat.le_of_ble_eq_true rfl)

abbrev rmX5_owes : Room := { frames := 0, cells := 0, slots := 0, locals := 0 }
set_option maxHeartbeats 1500000 in
set_option maxRecDepth 100000 in
theorem k_owes (l : Launch) (D : va_G) (ty : Nat → ClassId) (A : Nat → Prop) (tE : Nat) (el : Nat → Nat → Nat) (a : CS) (h6 : cOb a 6 0) (v : Int32) (hv : vp_in v 6) : Met l yX5_owes wsX5_owes rmX5_owes (gPc D ty true cstrs tE A [.ref (el 6 0), .int v] (hC D ty A tE el a)) (gQ A (gRet (some (.int (cO a v.toNatClampNeg))) (hC D ty A tE el a))) 0 0 A := by
  refine g_Met (cc := cX5_owes) (maxL := 2) (ret := (some .int)) [some (.ref (el 6 0)), some (.int v)] (by decide) rfl (Nat.le_of_ble_eq_true rfl) rfl ?_
  intro p e s m args below meth c S hlk hr hnm hK hE hP0
  have S : CallFix p m c cX5_owes 2 s args wsX5_owes RX5 := S
  refine g_iload_n S dX5_owes_0 rfl ?_
  refine g_if_lt S (tgt := 13) dX5_owes_1 (by decide) (fun c_1 => ?_) (fun c_1 => ?_)
  · exact absurd c_1 (vin_nlt hv)
  · refine g_iload_n S dX5_owes_4 rfl ?_
    refine g_aload_n S dX5_owes_5 rfl ?_
    refine k6_get S hK (by exact h6) 5 (by decide) (S.2.2.2.2 _ (List.mem_of_getElem? (i := 3) rfl)) rfl dX5_owes_6 ?_
    refine k9_alen S hK dX5_owes_9 ?_
    refine g_icmp_lt S (tgt := 24) dX5_owes_10 (by decide) (fun c_10 => ?_) (fun c_10 => ?_)
    · refine g_aload_n S dX5_owes_24 rfl ?_
      refine k6_get S hK (by exact h6) 5 (by decide) (S.2.2.2.2 _ (List.mem_of_getElem? (i := 3) rfl)) rfl dX5_owes_25 ?_
      refine g_iload_n S dX5_owes_28 rfl ?_
      refine k9_iald S hK hv dX5_owes_29 ?_
      exact g_iret S hlk hr (fun H h => ⟨rfl, h⟩) (Nat.le_refl _) (Nat.le_refl _) dX5_owes_30
    · exact absurd (Int32.not_lt.mp c_10) (vin_nle hv (by decide))

abbrev rtX5_owes : Room := { frames := 6, cells := 1, slots := 6, locals := 100 }
set_option maxHeartbeats 1500000 in
set_option maxRecDepth 100000 in
theorem t_owes (l : Launch) (D : va_G) (ty : Nat → ClassId) (A : Nat → Prop) (hl : l.stackTraces = false) (tE : Nat) (el : Nat → Nat → Nat) (a : CS) (h6 : cOb a 6 0) (v : Int32) (hv : ¬ vp_in v 6) : vx_Met l yX5_owes wsX5_owes rtX5_owes (gPc D ty true cstrs tE A [.ref (el 6 0), .int v] (hC D ty A tE el a)) (gQ A (fun _ _ => False)) (gX A (fun E H => E = "java/lang/IndexOutOfBoundsException" ∧ hC D ty A tE el a H)) 1 6 A := by
  refine g_tMet (cc := cX5_owes) (maxL := 2) (ret := (some .int)) [some (.ref (el 6 0)), some (.int v)] (by decide) rfl (Nat.le_of_ble_eq_true rfl) rfl ?_
  intro p e s m args below meth c S hlk hout hK hE hP0
  have S : CallFix p m c cX5_owes 2 s args wsX5_owes RX5 := S
  refine g_iload_n S dX5_owes_0 rfl ?_
  refine g_if_lt S (tgt := 13) dX5_owes_1 (by decide) (fun c_1 => ?_) (fun c_1 => ?_)
  · exact g_throwSW S hl (cls := "java/lang/IndexOutOfBoundsException") (text := "there is no such holder") (names := ["java/lang/RuntimeException", "java/lang/Exception"]) (by decide) (by decide) (S.2.2.2.2 _ (List.mem_of_getElem? (i := 1) rfl)) (S.2.2.2.2 _ (List.mem_of_getElem? (i := 2) rfl)) (by decide +kernel) (by decide +kernel) (by decide +kernel) hE (by decide +kernel) dX5_owes_13 dX5_owes_16 dX5_owes_17 dX5_owes_20 dX5_owes_23 hout rfl rfl ⟨Nat.le_of_ble_eq_true rfl, Nat.le_of_ble_eq_true rfl⟩ ⟨Nat.le_of_ble_eq_true rfl, Nat.le_of_ble_eq_true rfl⟩ hlk (fun H H1 hP hz hq => ⟨rfl, hC_grow hP hz hq⟩) (Nat.le_of_ble_eq_true rfl) (Nat.le_of_ble_eq_true rfl)
  · refine g_iload_n S dX5_owes_4 rfl ?_
    refine g_aload_n S dX5_owes_5 rfl ?_
    refine k6_get S hK (by exact h6) 5 (by decide) (S.2.2.2.2 _ (List.mem_of_getElem? (i := 3) rfl)) rfl dX5_owes_6 ?_
    refine k9_alen S hK dX5_owes_9 ?_
    refine g_icmp_lt S (tgt := 24) dX5_owes_10 (by decide) (fun c_10 => ?_) (fun c_10 => ?_)
    · exact absurd (vin_of c_1 c_10 (n := 6) (by decide)) hv
    · exact g_throwSW S hl (cls := "java/lang/IndexOutOfBoundsException") (text := "there is no such holder") (names := ["java/lang/RuntimeException", "java/lang/Exception"]) (by decide) (by decide) (S.2.2.2.2 _ (List.mem_of_getElem? (i := 1) rfl)) (S.2.2.2.2 _ (List.mem_of_getElem? (i := 2) rfl)) (by decide +kernel) (by decide +kernel) (by decide +kernel) hE (by decide +kernel) dX5_owes_13 dX5_owes_16 dX5_owes_17 dX5_owes_20 dX5_owes_23 hout rfl rfl ⟨Nat.le_of_ble_eq_true rfl, Nat.le_of_ble_eq_true rfl⟩ ⟨Nat.le_of_ble_eq_true rfl, Nat.le_of_ble_eq_true rfl⟩ hlk (fun H H1 hP hz hq => ⟨rfl, hC_grow hP hz hq⟩) (Nat.le_of_ble_eq_true rfl) (Nat.le_of_ble_eq_true rfl)

def kRedeem (a : CS) (r t : Nat) : CS := kEndPledge (kPay a (cI a 5 2 t) (cI a 3 4 r) (cI a 3 5 r).toInt64) r
abbrev rmX5_redeem : Room := { frames := 4, cells := 0, slots := 0, locals := 85 }
set_option maxHeartbeats 1500000 in
set_option maxRecDepth 100000 in
theorem k_redeem (l : Launch) (D : va_G) (ty : Nat → ClassId) (A : Nat → Prop) (tE : Nat) (el : Nat → Nat → Nat) (a : CS) (h6 : cOb a 6 0) (hb : cL a 2 < 2 ^ 31) {q : Nat} (hq : q < cL a 2) (h3 : cOb a 3 q) {t : Nat} (ht : cR a 3 2 q = some t) (h5 : cOb a 5 t) (hp : ¬ cI a 3 4 q = -1) (hi : vp_in (cI a 5 2 t) 6) (hj : vp_in (cI a 3 4 q) 6) : Met l yX5_redeem wsX5_redeem rmX5_redeem (gPc D ty true cstrs tE A [.ref (el 6 0), .int (nI q)] (hC D ty A tE el a)) (gQ A (gRet (some (.int (cI a 3 5 q))) (hC D ty A tE el (kRedeem a q t)))) 0 0 A := by
  refine g_Met (cc := cX5_redeem) (maxL := 4) (ret := (some .int)) [some (.ref (el 6 0)), some (.int (nI q)), none, none] (by decide) rfl (Nat.le_of_ble_eq_true rfl) rfl ?_
  intro p e s m args below meth c S hlk hr hnm hK hE hP0
  have S : CallFix p m c cX5_redeem 4 s args wsX5_redeem RX5 := S
  refine g_aload_n S dX5_redeem_0 rfl ?_
  refine g_iload_n S dX5_redeem_1 rfl ?_
  refine g_cVr S (k_findReceipt l D ty A tE el a h6 hb hq h3) (cwV 1 S.2.2.2.2 gX5_redeem_X5_findReceipt rfl rfl rfl (by decide +kernel) ⟨Nat.le_of_ble_eq_true rfl, Nat.le_of_ble_eq_true rfl⟩) hK hE (fun H h => h) (k6_recv hK h6) rfl (Nat.le_of_ble_eq_true rfl) dX5_redeem_2 ⟨Nat.le_of_ble_eq_true rfl, Nat.le_of_ble_eq_true rfl⟩ ?_
  refine g_astore_n S dX5_redeem_5 (by decide) rfl ?_
  refine g_aload_n S dX5_redeem_6 rfl ?_
  refine g_cVr S (k_isPledged l D ty A tE el _ (by exact h3)) (cwV 0 S.2.2.2.2 gX5_redeem_X2_isPledged rfl rfl rfl (by decide +kernel) ⟨Nat.le_of_ble_eq_true rfl, Nat.le_of_ble_eq_true rfl⟩) hK hE (fun H h => h) (k3_recv hK (by exact h3)) rfl (Nat.le_of_ble_eq_true rfl) dX5_redeem_7 ⟨Nat.le_of_ble_eq_true rfl, Nat.le_of_ble_eq_true rfl⟩ ?_
  refine g_ifb_ne S (tgt := 23) dX5_redeem_10 (by decide) (fun c_10 => ?_) (fun c_10 => ?_)
  · refine g_aload_n S dX5_redeem_23 rfl ?_
    refine k3_get S hK (by exact h3) 5 (by decide) (S.2.2.2.2 _ (List.mem_of_getElem? (i := 3) rfl)) rfl dX5_redeem_24 ?_
    refine g_istore_n S dX5_redeem_27 (by decide) rfl ?_
    refine g_aload_n S dX5_redeem_28 rfl ?_
    refine g_aload_n S dX5_redeem_29 rfl ?_
    refine g_cVr S (k_holder l D ty A tE el _ (by exact h3) (by exact ht) (by exact h5)) (cwV 0 S.2.2.2.2 gX5_redeem_X2_holder rfl rfl rfl (by decide +kernel) ⟨Nat.le_of_ble_eq_true rfl, Nat.le_of_ble_eq_true rfl⟩) hK hE (fun H h => h) (k3_recv hK (by exact h3)) rfl (Nat.le_of_ble_eq_true rfl) dX5_redeem_30 ⟨Nat.le_of_ble_eq_true rfl, Nat.le_of_ble_eq_true rfl⟩ ?_
    refine g_aload_n S dX5_redeem_33 rfl ?_
    refine k3_get S hK (by exact h3) 4 (by decide) (S.2.2.2.2 _ (List.mem_of_getElem? (i := 4) rfl)) rfl dX5_redeem_34 ?_
    refine g_iload_n S dX5_redeem_37 rfl ?_
    refine g_i2l S dX5_redeem_38 ?_
    refine g_cVv S (k_pay l D ty A tE el _ (by exact h6) _ _ _ (by exact hi) (by exact hj)) (cwV 3 S.2.2.2.2 gX5_redeem_X5_pay rfl rfl rfl (by decide +kernel) ⟨Nat.le_of_ble_eq_true rfl, Nat.le_of_ble_eq_true rfl⟩) hK hE (fun H h => h) (k6_recv hK h6) rfl (Nat.le_of_ble_eq_true rfl) dX5_redeem_39 ⟨Nat.le_of_ble_eq_true rfl, Nat.le_of_ble_eq_true rfl⟩ ?_
    refine g_aload_n S dX5_redeem_42 rfl ?_
    refine g_cVv S (k_endPledge l D ty A tE el _ (by exact h3)) (cwV 0 S.2.2.2.2 gX5_redeem_X2_endPledge rfl rfl rfl (by decide +kernel) ⟨Nat.le_of_ble_eq_true rfl, Nat.le_of_ble_eq_true rfl⟩) hK hE (fun H h => h) (k3_recv hK (by exact h3)) rfl (Nat.le_of_ble_eq_true rfl) dX5_redeem_43 ⟨Nat.le_of_ble_eq_true rfl, Nat.le_of_ble_eq_true rfl⟩ ?_
    refine g_iload_n S dX5_redeem_46 rfl ?_
    exact g_iret S hlk hr (fun H h => ⟨rfl, h⟩) (Nat.le_refl _) (Nat.le_refl _) dX5_redeem_47
  · exact absurd hp (of_decide_eq_false c_10)

abbrev rtX5_redeem : Room := { frames := 8, cells := 1, slots := 6, locals := 300 }
set_option maxHeartbeats 1500000 in
set_option maxRecDepth 100000 in
theorem t_redeem1 (l : Launch) (D : va_G) (ty : Nat → ClassId) (A : Nat → Prop) (hl : l.stackTraces = false) (tE : Nat) (el : Nat → Nat → Nat) (a : CS) (h6 : cOb a 6 0) (hb : cL a 2 < 2 ^ 31) (v : Int32) (hv : ¬ vp_in v (cL a 2)) : vx_Met l yX5_redeem wsX5_redeem rtX5_redeem (gPc D ty true cstrs tE A [.ref (el 6 0), .int v] (hC D ty A tE el a)) (gQ A (fun _ _ => False)) (gX A (fun E H => E = "java/lang/IndexOutOfBoundsException" ∧ hC D ty A tE el a H)) 1 6 A := by
  refine g_tMet (cc := cX5_redeem) (maxL := 4) (ret := (some .int)) [some (.ref (el 6 0)), some (.int v), none, none] (by decide) rfl (Nat.le_of_ble_eq_true rfl) rfl ?_
  intro p e s m args below meth c S hlk hout hK hE hP0
  have S : CallFix p m c cX5_redeem 4 s args wsX5_redeem RX5 := S
  refine g_aload_n S dX5_redeem_0 rfl ?_
  refine g_iload_n S dX5_redeem_1 rfl ?_
  exact g_tcallV S (t_findReceipt l D ty A hl tE el a h6 hb _ hv) (cwV 1 S.2.2.2.2 gX5_redeem_X5_findReceipt rfl rfl rfl (by decide +kernel) ⟨Nat.le_of_ble_eq_true rfl, Nat.le_of_ble_eq_true rfl⟩) hK hE (fun H h => h) (k6_recv hK h6) rfl (Nat.le_of_ble_eq_true rfl) dX5_redeem_2 ⟨Nat.le_of_ble_eq_true rfl, Nat.le_of_ble_eq_true rfl⟩ (fun E => g_out hout hlk (fun H h => h) (Nat.le_of_ble_eq_true rfl) (Nat.le_of_ble_eq_true rfl))

