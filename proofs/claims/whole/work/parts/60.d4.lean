theorem cOk_newD {a X : CS} (ok : cOk a) {s : Nat} (hs : s < cN a 4) (hL : cL a 1 = cN a 2) (h1 : X.1 = (cNew a 2).1) (h2 : X.2.2.1 = (cSR (cNew a 2) 2 4 (cN a 2) (some s)).2.2.1) (h3 : X.2.2.2.2.2 = (cSL a 1 (cL a 1 + 1)).2.2.2.2.2) : cOk X := by
  have k : cOk (cSL (cSR (cNew a 2) 2 4 (cN a 2) (some s)) 1 (cL a 1 + 1)) := by
    refine ⟨?_, cRwf_of rfl rfl (cRwf_SR 2 4 (cN a 2) (some s) (fun y h => by cases h; exact hs) (cRwf_new 2 ok.2))⟩
    obtain ⟨⟨g1, g2, g3⟩, -⟩ := ok
    refine ⟨fun r hr => ?_, fun d hd => ?_, ?_⟩
    · obtain ⟨f1, f2, f3, f4⟩ := g1 r hr
      exact ⟨f1, Nat.lt_succ_of_lt f2, f3, f4⟩
    · by_cases hd9 : d = cN a 2
      · subst hd9
        have e : cR (cSL (cSR (cNew a 2) 2 4 (cN a 2) (some s)) 1 (cL a 1 + 1)) 2 4 (cN a 2) = some s := if_pos ⟨rfl, rfl, rfl⟩
        unfold kS
        rw [e]
        exact ⟨rfl, hs⟩
      · have e : cR (cSL (cSR (cNew a 2) 2 4 (cN a 2) (some s)) 1 (cL a 1 + 1)) 2 4 d = cR a 2 4 d := by
          show (if 2 = 2 ∧ 4 = 4 ∧ d = cN a 2 then some s else (if 2 = 2 ∧ d = a.1 2 then none else a.2.2.1 2 4 d)) = _
          rw [if_neg (fun z => hd9 z.2.2), if_neg (fun z => hd9 z.2)]
        have hd2 : d < cN a 2 := by
          have : d < cN a 2 + 1 := hd
          omega
        obtain ⟨f1, f2⟩ := g2 d hd2
        unfold kS at f1 f2 ⊢
        rw [e]
        exact ⟨f1, f2⟩
    · obtain ⟨f1, f2, f3, f4⟩ := g3
      refine ⟨f1, ?_, f3, f4⟩
      show cL a 1 + 1 ≤ cN a 2 + 1
      omega
  exact cOk.of (a := cSL (cSR (cNew a 2) 2 4 (cN a 2) (some s)) 1 (cL a 1 + 1)) h1 h2 h3 k
def kDeliver0 (a : CS) (who g kg gr dry : Int32) (s : Nat) : CS :=
  let b := cNew a 2
  let b := cSR (cSI (cSI (cSI (cSI b 2 0 (cN a 2) (nI (cL a 1))) 2 1 (cN a 2) who) 2 2 (cN a 2) g) 2 3 (cN a 2) gr) 2 4 (cN a 2) (some s)
  cSI (cSI b 2 5 (cN a 2) kg) 2 6 (cN a 2) dry
def kDeliver1 (a : CS) (who g kg gr dry : Int32) (s : Nat) : CS := cSI (cSI (cSL (kDeliver0 a who g kg gr dry s) 1 (cL a 1 + 1)) 4 2 s g) 4 3 s gr
def kDeliver (a : CS) (who g kg gr dry : Int32) (s : Nat) : CS := kPutIn (kDeliver1 a who g kg gr dry s) (cN a 2) dry
theorem kSiloFor_lt {a : CS} {g q x : Int32} {s : Nat} (h : kSiloFor a g q x = some s) : s < cL a 0 := by
  unfold kSiloFor at h
  cases h1 : mFst (kSF1 a g q x) 0 (cL a 0) with
  | some s1 =>
    rw [h1] at h
    cases h
    have := mFst_lt _ _ _ h1
    omega
  | none =>
    rw [h1] at h
    have := mFst_lt _ _ _ h
    omega
abbrev rmX5_deliver : Room := { frames := 9, cells := 5, slots := 325, locals := 237 }
set_option maxHeartbeats 1500000 in
set_option maxRecDepth 100000 in
theorem k_deliver (l : Launch) (D : va_G) (ty : Nat → ClassId) (A : Nat → Prop) (tE : Nat) (el : Nat → Nat → Nat) (a : CS) (h6 : cOb a 6 0) (who g kg mo9 : Int32) (hv1 : mIn who 0 5 = true) (hv2 : mIn g 0 2 = true) (hv3 : mIn kg 100 40000 = true) (hv4 : mIn mo9 50 300 = true) (ok : cOk a) (hb : cL a 2 < 2 ^ 31) (hb0 : cL a 0 < 2 ^ 31) {s9 : Nat} (hs9 : kSiloFor a g (mGrade mo9) (kDry kg mo9) = some s9) (h40 : cL a 1 < 40) (h80 : cL a 2 < 80) (hLN1 : cL a 1 = cN a 2) (hLN2 : cL a 2 = cN a 3) : Met l yX5_deliver wsX5_deliver rmX5_deliver (gPc D ty true cstrs tE A [.ref (el 6 0), .int who, .int g, .int kg, .int mo9] (hC D ty A tE el a)) (gQ A (gRet (some (.int (nI (cL a 2)))) (hX D ty A tE el a (kDeliver a who g kg (mGrade mo9) (kDry kg mo9) s9)))) 5 325 A := by
  refine g_Met (cc := cX5_deliver) (maxL := 9) (ret := (some .int)) [some (.ref (el 6 0)), some (.int who), some (.int g), some (.int kg), some (.int mo9), none, none, none, none] (by decide) rfl (Nat.le_of_ble_eq_true rfl) rfl ?_
  intro p e s m args below meth c S hlk hr hnm hK hE hP0
  have S : CallFix p m c cX5_deliver 9 s args wsX5_deliver RX5 := S
  have hs4 : s9 < cN a 4 := Nat.lt_of_lt_of_le (kSiloFor_lt hs9) ok.1.2.2.1
  have h4 : cOb a 4 s9 := Or.inl ⟨by decide, hs4⟩
  refine g_iload_n S dX5_deliver_0 rfl ?_
  refine g_iconst S (v := 0) dX5_deliver_1 (by decide) ?_
  refine g_iconst S (v := 5) dX5_deliver_2 (by decide) ?_
  refine g_cSv S (k_needRange l D ty A tE el a _ _ _ _ (by exact hv1)) (va_cwS 3 S.2.2.2.2 gX5_deliver_X5_needRange rfl rfl rfl (by decide +kernel) ⟨Nat.le_of_ble_eq_true rfl, Nat.le_of_ble_eq_true rfl⟩) hK hE (fun H h => h) rfl (Nat.le_of_ble_eq_true rfl) dX5_deliver_3 ⟨Nat.le_of_ble_eq_true rfl, Nat.le_of_ble_eq_true rfl⟩ ?_
  refine g_iload_n S dX5_deliver_6 rfl ?_
  refine g_iconst S (v := 0) dX5_deliver_7 (by decide) ?_
  refine g_iconst S (v := 2) dX5_deliver_8 (by decide) ?_
  refine g_cSv S (k_needRange l D ty A tE el a _ _ _ _ (by exact hv2)) (va_cwS 3 S.2.2.2.2 gX5_deliver_X5_needRange rfl rfl rfl (by decide +kernel) ⟨Nat.le_of_ble_eq_true rfl, Nat.le_of_ble_eq_true rfl⟩) hK hE (fun H h => h) rfl (Nat.le_of_ble_eq_true rfl) dX5_deliver_9 ⟨Nat.le_of_ble_eq_true rfl, Nat.le_of_ble_eq_true rfl⟩ ?_
  refine g_iload_n S dX5_deliver_12 rfl ?_
  refine g_bipush S (v := 100) dX5_deliver_13 (by decide) ?_
  refine g_ldc S (S.2.2.2.2 _ (List.mem_of_getElem? (i := 3) rfl)) dX5_deliver_15 ?_
  refine g_cSv S (k_needRange l D ty A tE el a _ _ _ _ (by exact hv3)) (va_cwS 3 S.2.2.2.2 gX5_deliver_X5_needRange rfl rfl rfl (by decide +kernel) ⟨Nat.le_of_ble_eq_true rfl, Nat.le_of_ble_eq_true rfl⟩) hK hE (fun H h => h) rfl (Nat.le_of_ble_eq_true rfl) dX5_deliver_17 ⟨Nat.le_of_ble_eq_true rfl, Nat.le_of_ble_eq_true rfl⟩ ?_
  refine g_iload S dX5_deliver_20 rfl ?_
  refine g_bipush S (v := 50) dX5_deliver_22 (by decide) ?_
  refine g_sipush S (v := 300) dX5_deliver_24 (by decide) ?_
  refine g_cSv S (k_needRange l D ty A tE el a _ _ _ _ (by exact hv4)) (va_cwS 3 S.2.2.2.2 gX5_deliver_X5_needRange rfl rfl rfl (by decide +kernel) ⟨Nat.le_of_ble_eq_true rfl, Nat.le_of_ble_eq_true rfl⟩) hK hE (fun H h => h) rfl (Nat.le_of_ble_eq_true rfl) dX5_deliver_27 ⟨Nat.le_of_ble_eq_true rfl, Nat.le_of_ble_eq_true rfl⟩ ?_
  refine g_iload S dX5_deliver_30 rfl ?_
  refine g_cSr S (k_gradeOf l D ty A tE el a _ _) (va_cwS 1 S.2.2.2.2 gX5_deliver_X5_gradeOf rfl rfl rfl (by decide +kernel) ⟨Nat.le_of_ble_eq_true rfl, Nat.le_of_ble_eq_true rfl⟩) hK hE (fun H h => h) rfl (Nat.le_of_ble_eq_true rfl) dX5_deliver_32 ⟨Nat.le_of_ble_eq_true rfl, Nat.le_of_ble_eq_true rfl⟩ ?_
  refine g_istore S dX5_deliver_35 (by decide) rfl ?_
  refine g_iload_n S dX5_deliver_37 rfl ?_
  refine g_iload S dX5_deliver_38 rfl ?_
  refine g_cSr S (k_dryWeight l D ty A tE el a _ _ _) (va_cwS 2 S.2.2.2.2 gX5_deliver_X5_dryWeight rfl rfl rfl (by decide +kernel) ⟨Nat.le_of_ble_eq_true rfl, Nat.le_of_ble_eq_true rfl⟩) hK hE (fun H h => h) rfl (Nat.le_of_ble_eq_true rfl) dX5_deliver_40 ⟨Nat.le_of_ble_eq_true rfl, Nat.le_of_ble_eq_true rfl⟩ ?_
  refine g_istore S dX5_deliver_43 (by decide) rfl ?_
  refine g_aload_n S dX5_deliver_45 rfl ?_
  refine g_iload_n S dX5_deliver_46 rfl ?_
  refine g_iload S dX5_deliver_47 rfl ?_
  refine g_iload S dX5_deliver_49 rfl ?_
  refine g_cVr S (k_siloFor l D ty A tE el a h6 ok.1 hb0 _ _ _) (cwV 3 S.2.2.2.2 gX5_deliver_X5_siloFor rfl rfl rfl (by decide +kernel) ⟨Nat.le_of_ble_eq_true rfl, Nat.le_of_ble_eq_true rfl⟩) hK hE (fun H h => h) (k6_recv hK h6) rfl (Nat.le_of_ble_eq_true rfl) dX5_deliver_51 ⟨Nat.le_of_ble_eq_true rfl, Nat.le_of_ble_eq_true rfl⟩ ?_
  refine g_st (show _ = [Value.ref (el 4 s9)] from by rw [hs9] <;> rfl) ?_
  refine g_astore S dX5_deliver_54 (by decide) rfl ?_
  refine g_aload_n S dX5_deliver_56 rfl ?_
  refine k6_get S hK (by exact cOb6) 1 (by decide) (S.2.2.2.2 _ (List.mem_of_getElem? (i := 4) rfl)) rfl dX5_deliver_57 ?_
  refine g_cVr S (k_size l D ty A tE el a (j := 1) (by decide)) (cwV 0 S.2.2.2.2 gX5_deliver_Jx4a65c_size_8abf5 rfl rfl rfl (by decide +kernel) ⟨Nat.le_of_ble_eq_true rfl, Nat.le_of_ble_eq_true rfl⟩) hK hE (fun H h => h) (k0_recv hK (j := 1) (by decide)) rfl (Nat.le_of_ble_eq_true rfl) dX5_deliver_60 ⟨Nat.le_of_ble_eq_true rfl, Nat.le_of_ble_eq_true rfl⟩ ?_
  refine g_bipush S (v := 40) dX5_deliver_63 (by decide) ?_
  refine g_icmp_ge S (tgt := 80) dX5_deliver_65 (by decide) (fun c_65 => ?_) (fun c_65 => ?_)
  · exact absurd c_65 (nI_ge (b := 40) h40 (by decide))
  · refine g_aload_n S dX5_deliver_68 rfl ?_
    refine g_cVr S (k_full l D ty A tE el a h6) (cwV 0 S.2.2.2.2 gX5_deliver_X5_receiptsAreFull rfl rfl rfl (by decide +kernel) ⟨Nat.le_of_ble_eq_true rfl, Nat.le_of_ble_eq_true rfl⟩) hK hE (fun H h => h) (k6_recv hK h6) rfl (Nat.le_of_ble_eq_true rfl) dX5_deliver_69 ⟨Nat.le_of_ble_eq_true rfl, Nat.le_of_ble_eq_true rfl⟩ ?_
    refine g_ifb_ne S (tgt := 80) dX5_deliver_72 (by decide) (fun c_72 => ?_) (fun c_72 => ?_)
    · exact absurd c_72 (fun w => absurd (w.symm.trans (nI_80f h80)) (by decide))
    · refine g_aload S dX5_deliver_75 rfl ?_
      refine g_ifnonnull S (tgt := 90) dX5_deliver_77 (by decide) ?_
      refine k2_new S hK (by exact ok.2) (S.2.2.2.2 _ (List.mem_of_getElem? (i := 5) rfl)) (S.2.2.2.2 _ (List.mem_of_getElem? (i := 6) rfl)) (S.2.2.2.2 _ (List.mem_of_getElem? (i := 7) rfl)) (hE rfl).2.2.2.1 (Nat.le_of_ble_eq_true rfl) (Nat.le_of_ble_eq_true rfl) dX5_deliver_90 (fun q => ?_)
      obtain ⟨el1, hel1⟩ : ∃ x : Nat → Nat → Nat, x = elU el 2 (cN a 2) q := ⟨_, rfl⟩
      rw [← hel1]
      have xel1 : elX a el el1 := by rw [hel1]; exact elX.new (by decide)
      refine g_lv (show _ = [some (.ref (el1 6 0)), some (.int who), some (.int g), some (.int kg), some (.int mo9), some (.int (mGrade mo9)), some (.int (kDry kg mo9)), some (.ref (el1 4 s9)), none] from by rw [xel1.ob cOb6, xel1.ob h4] <;> rfl) ?_
      refine g_dup S dX5_deliver_93 rfl ?_
      refine g_aload_n S dX5_deliver_94 rfl ?_
      refine k6_get S hK (by exact cOb6) 1 (by decide) (S.2.2.2.2 _ (List.mem_of_getElem? (i := 4) rfl)) rfl dX5_deliver_95 ?_
      refine g_cVr S (k_size l D ty A tE el1 (cNew a 2) (j := 1) (by decide)) (cwV 0 S.2.2.2.2 gX5_deliver_Jx4a65c_size_8abf5 rfl rfl rfl (by decide +kernel) ⟨Nat.le_of_ble_eq_true rfl, Nat.le_of_ble_eq_true rfl⟩) hK hE (fun H h => h) (k0_recv hK (j := 1) (by decide)) rfl (Nat.le_of_ble_eq_true rfl) dX5_deliver_98 ⟨Nat.le_of_ble_eq_true rfl, Nat.le_of_ble_eq_true rfl⟩ ?_
      refine g_iload_n S dX5_deliver_101 rfl ?_
      refine g_iload_n S dX5_deliver_102 rfl ?_
      refine g_iload S dX5_deliver_103 rfl ?_
      refine g_aload S dX5_deliver_105 rfl ?_
      refine g_cIv S (k_newDelivery l D ty A tE el1 (cNew a 2) (i := cN a 2) (cOb_nw (a := a) (j := 2) (by decide)) _ _ _ _ _ s9 rfl) (cwI 5 S.2.2.2.2 gX5_deliver_X1_init rfl rfl rfl (S.2.2.2.2 _ (List.mem_of_getElem? (i := 7) rfl)) (S.2.2.2.2 _ (List.mem_of_getElem? (i := 75) rfl)) (S.2.2.2.2 _ (List.mem_of_getElem? (i := 76) rfl)) rfl (by decide +kernel) ⟨Nat.le_of_ble_eq_true rfl, Nat.le_of_ble_eq_true rfl⟩) hK hE (fun H h => h) rfl (Nat.le_of_ble_eq_true rfl) dX5_deliver_107 ⟨Nat.le_of_ble_eq_true rfl, Nat.le_of_ble_eq_true rfl⟩ ?_
      refine g_astore S dX5_deliver_110 (by decide) rfl ?_
      refine g_aload S dX5_deliver_112 rfl ?_
      refine g_iload_n S dX5_deliver_114 rfl ?_
      refine k2_put S hK (by exact (cOb_nw (a := a) (j := 2) (by decide))) 5 (by decide) (by decide) (S.2.2.2.2 _ (List.mem_of_getElem? (i := 8) rfl)) (Or.inl rfl) rfl rfl dX5_deliver_115 ?_
      refine g_aload S dX5_deliver_118 rfl ?_
      refine g_iload S dX5_deliver_120 rfl ?_
      refine k2_put S hK (by exact (cOb_nw (a := a) (j := 2) (by decide))) 6 (by decide) (by decide) (S.2.2.2.2 _ (List.mem_of_getElem? (i := 9) rfl)) (Or.inl rfl) rfl rfl dX5_deliver_122 ?_
      refine g_aload_n S dX5_deliver_125 rfl ?_
      refine k6_get S hK (by exact cOb6) 1 (by decide) (S.2.2.2.2 _ (List.mem_of_getElem? (i := 4) rfl)) rfl dX5_deliver_126 ?_
      refine g_aload S dX5_deliver_129 rfl ?_
      refine g_st (show _ = [Value.ref (el1 (lkd 1) (cL (kDeliver0 a who g kg (mGrade mo9) (kDry kg mo9) s9) 1)), Value.ref (el1 0 1)] from by rw [show cL (kDeliver0 a who g kg (mGrade mo9) (kDry kg mo9) s9) 1 = cN a 2 from hLN1] <;> rfl) ?_
      refine g_cVr S (k_add l D ty A tE el1 (kDeliver0 a who g kg (mGrade mo9) (kDry kg mo9) s9) (j := 1) (by decide) (show cL a 1 < 100 by omega) (by rw [show cL (kDeliver0 a who g kg (mGrade mo9) (kDry kg mo9) s9) 1 = cN a 2 from hLN1]; exact Nat.lt_succ_self _)) (cwV 1 S.2.2.2.2 gX5_deliver_Jx4a65c_add_9ea2d rfl rfl rfl (by decide +kernel) ⟨Nat.le_of_ble_eq_true rfl, Nat.le_of_ble_eq_true rfl⟩) hK hE (fun H h => h) (k0_recv hK (j := 1) (by decide)) rfl (Nat.le_of_ble_eq_true rfl) dX5_deliver_131 ⟨Nat.le_of_ble_eq_true rfl, Nat.le_of_ble_eq_true rfl⟩ ?_
      refine g_pop S dX5_deliver_134 rfl ?_
      refine g_aload S dX5_deliver_135 rfl ?_
      refine g_iload_n S dX5_deliver_137 rfl ?_
      refine k4_put S hK (by exact (cOb_le (cNew_le 2) h4)) 2 (by decide) (by decide) (S.2.2.2.2 _ (List.mem_of_getElem? (i := 10) rfl)) (Or.inl rfl) rfl rfl dX5_deliver_138 ?_
      refine g_aload S dX5_deliver_141 rfl ?_
      refine g_iload S dX5_deliver_143 rfl ?_
      refine k4_put S hK (by exact (cOb_le (cNew_le 2) h4)) 3 (by decide) (by decide) (S.2.2.2.2 _ (List.mem_of_getElem? (i := 11) rfl)) (Or.inl rfl) rfl rfl dX5_deliver_145 ?_
      refine g_aload_n S dX5_deliver_148 rfl ?_
      refine g_aload S dX5_deliver_149 rfl ?_
      refine g_iload S dX5_deliver_151 rfl ?_
      refine g_cVi S (k_putIn l D ty A tE el1 (kDeliver1 a who g kg (mGrade mo9) (kDry kg mo9) s9) (cOk_newD ok hs4 hLN1 rfl rfl rfl) (d := cN a 2) (Nat.lt_succ_self _) (kDry kg mo9) hLN2 (show cL a 2 < 100 by omega)) (cwV 2 S.2.2.2.2 gX5_deliver_X5_putIn rfl rfl rfl (by decide +kernel) ⟨Nat.le_of_ble_eq_true rfl, Nat.le_of_ble_eq_true rfl⟩) hK hE (fun H h => h) (k6_recv hK cOb6) rfl (Nat.le_of_ble_eq_true rfl) dX5_deliver_153 ⟨Nat.le_of_ble_eq_true rfl, Nat.le_of_ble_eq_true rfl⟩ (fun el2 x2 => ?_)
      exact g_iret S hlk hr (fun H h => ⟨rfl, el2, elX.tr xel1 x2 (cNew_le 2), h⟩) (Nat.le_of_ble_eq_true rfl) (Nat.le_of_ble_eq_true rfl) dX5_deliver_156

abbrev rtX5_deliver : Room := { frames := 8, cells := 1, slots := 6, locals := 300 }
set_option maxHeartbeats 1500000 in
set_option maxRecDepth 100000 in
theorem t_deliver10 (l : Launch) (D : va_G) (ty : Nat → ClassId) (A : Nat → Prop) (hl : l.stackTraces = false) (tE : Nat) (el : Nat → Nat → Nat) (a : CS) (h6 : cOb a 6 0) (who g kg mo9 : Int32)  (hv : mIn who 0 5 = false) : vx_Met l yX5_deliver wsX5_deliver rtX5_deliver (gPc D ty true cstrs tE A [.ref (el 6 0), .int who, .int g, .int kg, .int mo9] (hC D ty A tE el a)) (gQ A (fun _ _ => False)) (gX A (fun E H => E = "java/lang/IllegalArgumentException" ∧ hC D ty A tE el a H)) 1 6 A := by
  refine g_tMet (cc := cX5_deliver) (maxL := 9) (ret := (some .int)) [some (.ref (el 6 0)), some (.int who), some (.int g), some (.int kg), some (.int mo9), none, none, none, none] (by decide) rfl (Nat.le_of_ble_eq_true rfl) rfl ?_
  intro p e s m args below meth c S hlk hout hK hE hP0
  have S : CallFix p m c cX5_deliver 9 s args wsX5_deliver RX5 := S
  refine g_iload_n S dX5_deliver_0 rfl ?_
  refine g_iconst S (v := 0) dX5_deliver_1 (by decide) ?_
  refine g_iconst S (v := 5) dX5_deliver_2 (by decide) ?_
  exact g_tcallS S ((t_needRange l D ty A hl tE el a _ (fun H H1 h hz hq => hC_grow h hz hq) _ _ _ (by exact hv))) (va_cwS 3 S.2.2.2.2 gX5_deliver_X5_needRange rfl rfl rfl (by decide +kernel) ⟨Nat.le_of_ble_eq_true rfl, Nat.le_of_ble_eq_true rfl⟩) hK hE (fun H h => h) rfl (Nat.le_of_ble_eq_true rfl) dX5_deliver_3 ⟨Nat.le_of_ble_eq_true rfl, Nat.le_of_ble_eq_true rfl⟩ (fun E => g_out hout hlk (fun H h => h) (Nat.le_of_ble_eq_true rfl) (Nat.le_of_ble_eq_true rfl))

set_option maxHeartbeats 1500000 in
set_option maxRecDepth 100000 in
theorem t_deliver11 (l : Launch) (D : va_G) (ty : Nat → ClassId) (A : Nat → Prop) (hl : l.stackTraces = false) (tE : Nat) (el : Nat → Nat → Nat) (a : CS) (h6 : cOb a 6 0) (who g kg mo9 : Int32) (hv1 : mIn who 0 5 = true) (hv : mIn g 0 2 = false) : vx_Met l yX5_deliver wsX5_deliver rtX5_deliver (gPc D ty true cstrs tE A [.ref (el 6 0), .int who, .int g, .int kg, .int mo9] (hC D ty A tE el a)) (gQ A (fun _ _ => False)) (gX A (fun E H => E = "java/lang/IllegalArgumentException" ∧ hC D ty A tE el a H)) 1 6 A := by
  refine g_tMet (cc := cX5_deliver) (maxL := 9) (ret := (some .int)) [some (.ref (el 6 0)), some (.int who), some (.int g), some (.int kg), some (.int mo9), none, none, none, none] (by decide) rfl (Nat.le_of_ble_eq_true rfl) rfl ?_
  intro p e s m args below meth c S hlk hout hK hE hP0
  have S : CallFix p m c cX5_deliver 9 s args wsX5_deliver RX5 := S
  refine g_iload_n S dX5_deliver_0 rfl ?_
  refine g_iconst S (v := 0) dX5_deliver_1 (by decide) ?_
  refine g_iconst S (v := 5) dX5_deliver_2 (by decide) ?_
  refine g_cSv S (k_needRange l D ty A tE el a _ _ _ _ (by exact hv1)) (va_cwS 3 S.2.2.2.2 gX5_deliver_X5_needRange rfl rfl rfl (by decide +kernel) ⟨Nat.le_of_ble_eq_true rfl, Nat.le_of_ble_eq_true rfl⟩) hK hE (fun H h => h) rfl (Nat.le_of_ble_eq_true rfl) dX5_deliver_3 ⟨Nat.le_of_ble_eq_true rfl, Nat.le_of_ble_eq_true rfl⟩ ?_
  refine g_iload_n S dX5_deliver_6 rfl ?_
  refine g_iconst S (v := 0) dX5_deliver_7 (by decide) ?_
  refine g_iconst S (v := 2) dX5_deliver_8 (by decide) ?_
  exact g_tcallS S ((t_needRange l D ty A hl tE el a _ (fun H H1 h hz hq => hC_grow h hz hq) _ _ _ (by exact hv))) (va_cwS 3 S.2.2.2.2 gX5_deliver_X5_needRange rfl rfl rfl (by decide +kernel) ⟨Nat.le_of_ble_eq_true rfl, Nat.le_of_ble_eq_true rfl⟩) hK hE (fun H h => h) rfl (Nat.le_of_ble_eq_true rfl) dX5_deliver_9 ⟨Nat.le_of_ble_eq_true rfl, Nat.le_of_ble_eq_true rfl⟩ (fun E => g_out hout hlk (fun H h => h) (Nat.le_of_ble_eq_true rfl) (Nat.le_of_ble_eq_true rfl))

set_option maxHeartbeats 1500000 in
set_option maxRecDepth 100000 in
theorem t_deliver12 (l : Launch) (D : va_G) (ty : Nat → ClassId) (A : Nat → Prop) (hl : l.stackTraces = false) (tE : Nat) (el : Nat → Nat → Nat) (a : CS) (h6 : cOb a 6 0) (who g kg mo9 : Int32) (hv1 : mIn who 0 5 = true) (hv2 : mIn g 0 2 = true) (hv : mIn kg 100 40000 = false) : vx_Met l yX5_deliver wsX5_deliver rtX5_deliver (gPc D ty true cstrs tE A [.ref (el 6 0), .int who, .int g, .int kg, .int mo9] (hC D ty A tE el a)) (gQ A (fun _ _ => False)) (gX A (fun E H => E = "java/lang/IllegalArgumentException" ∧ hC D ty A tE el a H)) 1 6 A := by
  refine g_tMet (cc := cX5_deliver) (maxL := 9) (ret := (some .int)) [some (.ref (el 6 0)), some (.int who), some (.int g), some (.int kg), some (.int mo9), none, none, none, none] (by decide) rfl (Nat.le_of_ble_eq_true rfl) rfl ?_
  intro p e s m args below meth c S hlk hout hK hE hP0
  have S : CallFix p m c cX5_deliver 9 s args wsX5_deliver RX5 := S
  refine g_iload_n S dX5_deliver_0 rfl ?_
  refine g_iconst S (v := 0) dX5_deliver_1 (by decide) ?_
  refine g_iconst S (v := 5) dX5_deliver_2 (by decide) ?_
  refine g_cSv S (k_needRange l D ty A tE el a _ _ _ _ (by exact hv1)) (va_cwS 3 S.2.2.2.2 gX5_deliver_X5_needRange rfl rfl rfl (by decide +kernel) ⟨Nat.le_of_ble_eq_true rfl, Nat.le_of_ble_eq_true rfl⟩) hK hE (fun H h => h) rfl (Nat.le_of_ble_eq_true rfl) dX5_deliver_3 ⟨Nat.le_of_ble_eq_true rfl, Nat.le_of_ble_eq_true rfl⟩ ?_
  refine g_iload_n S dX5_deliver_6 rfl ?_
  refine g_iconst S (v := 0) dX5_deliver_7 (by decide) ?_
  refine g_iconst S (v := 2) dX5_deliver_8 (by decide) ?_
  refine g_cSv S (k_needRange l D ty A tE el a _ _ _ _ (by exact hv2)) (va_cwS 3 S.2.2.2.2 gX5_deliver_X5_needRange rfl rfl rfl (by decide +kernel) ⟨Nat.le_of_ble_eq_true rfl, Nat.le_of_ble_eq_true rfl⟩) hK hE (fun H h => h) rfl (Nat.le_of_ble_eq_true rfl) dX5_deliver_9 ⟨Nat.le_of_ble_eq_true rfl, Nat.le_of_ble_eq_true rfl⟩ ?_
  refine g_iload_n S dX5_deliver_12 rfl ?_
  refine g_bipush S (v := 100) dX5_deliver_13 (by decide) ?_
  refine g_ldc S (S.2.2.2.2 _ (List.mem_of_getElem? (i := 3) rfl)) dX5_deliver_15 ?_
  exact g_tcallS S ((t_needRange l D ty A hl tE el a _ (fun H H1 h hz hq => hC_grow h hz hq) _ _ _ (by exact hv))) (va_cwS 3 S.2.2.2.2 gX5_deliver_X5_needRange rfl rfl rfl (by decide +kernel) ⟨Nat.le_of_ble_eq_true rfl, Nat.le_of_ble_eq_true rfl⟩) hK hE (fun H h => h) rfl (Nat.le_of_ble_eq_true rfl) dX5_deliver_17 ⟨Nat.le_of_ble_eq_true rfl, Nat.le_of_ble_eq_true rfl⟩ (fun E => g_out hout hlk (fun H h => h) (Nat.le_of_ble_eq_true rfl) (Nat.le_of_ble_eq_true rfl))

set_option maxHeartbeats 1500000 in
set_option maxRecDepth 100000 in
theorem t_deliver13 (l : Launch) (D : va_G) (ty : Nat → ClassId) (A : Nat → Prop) (hl : l.stackTraces = false) (tE : Nat) (el : Nat → Nat → Nat) (a : CS) (h6 : cOb a 6 0) (who g kg mo9 : Int32) (hv1 : mIn who 0 5 = true) (hv2 : mIn g 0 2 = true) (hv3 : mIn kg 100 40000 = true) (hv : mIn mo9 50 300 = false) : vx_Met l yX5_deliver wsX5_deliver rtX5_deliver (gPc D ty true cstrs tE A [.ref (el 6 0), .int who, .int g, .int kg, .int mo9] (hC D ty A tE el a)) (gQ A (fun _ _ => False)) (gX A (fun E H => E = "java/lang/IllegalArgumentException" ∧ hC D ty A tE el a H)) 1 6 A := by
  refine g_tMet (cc := cX5_deliver) (maxL := 9) (ret := (some .int)) [some (.ref (el 6 0)), some (.int who), some (.int g), some (.int kg), some (.int mo9), none, none, none, none] (by decide) rfl (Nat.le_of_ble_eq_true rfl) rfl ?_
  intro p e s m args below meth c S hlk hout hK hE hP0
  have S : CallFix p m c cX5_deliver 9 s args wsX5_deliver RX5 := S
  refine g_iload_n S dX5_deliver_0 rfl ?_
  refine g_iconst S (v := 0) dX5_deliver_1 (by decide) ?_
  refine g_iconst S (v := 5) dX5_deliver_2 (by decide) ?_
  refine g_cSv S (k_needRange l D ty A tE el a _ _ _ _ (by exact hv1)) (va_cwS 3 S.2.2.2.2 gX5_deliver_X5_needRange rfl rfl rfl (by decide +kernel) ⟨Nat.le_of_ble_eq_true rfl, Nat.le_of_ble_eq_true rfl⟩) hK hE (fun H h => h) rfl (Nat.le_of_ble_eq_true rfl) dX5_deliver_3 ⟨Nat.le_of_ble_eq_true rfl, Nat.le_of_ble_eq_true rfl⟩ ?_
  refine g_iload_n S dX5_deliver_6 rfl ?_
  refine g_iconst S (v := 0) dX5_deliver_7 (by decide) ?_
  refine g_iconst S (v := 2) dX5_deliver_8 (by decide) ?_
  refine g_cSv S (k_needRange l D ty A tE el a _ _ _ _ (by exact hv2)) (va_cwS 3 S.2.2.2.2 gX5_deliver_X5_needRange rfl rfl rfl (by decide +kernel) ⟨Nat.le_of_ble_eq_true rfl, Nat.le_of_ble_eq_true rfl⟩) hK hE (fun H h => h) rfl (Nat.le_of_ble_eq_true rfl) dX5_deliver_9 ⟨Nat.le_of_ble_eq_true rfl, Nat.le_of_ble_eq_true rfl⟩ ?_
  refine g_iload_n S dX5_deliver_12 rfl ?_
  refine g_bipush S (v := 100) dX5_deliver_13 (by decide) ?_
  refine g_ldc S (S.2.2.2.2 _ (List.mem_of_getElem? (i := 3) rfl)) dX5_deliver_15 ?_
  refine g_cSv S (k_needRange l D ty A tE el a _ _ _ _ (by exact hv3)) (va_cwS 3 S.2.2.2.2 gX5_deliver_X5_needRange rfl rfl rfl (by decide +kernel) ⟨Nat.le_of_ble_eq_true rfl, Nat.le_of_ble_eq_true rfl⟩) hK hE (fun H h => h) rfl (Nat.le_of_ble_eq_true rfl) dX5_deliver_17 ⟨Nat.le_of_ble_eq_true rfl, Nat.le_of_ble_eq_true rfl⟩ ?_
  refine g_iload S dX5_deliver_20 rfl ?_
  refine g_bipush S (v := 50) dX5_deliver_22 (by decide) ?_
  refine g_sipush S (v := 300) dX5_deliver_24 (by decide) ?_
  exact g_tcallS S ((t_needRange l D ty A hl tE el a _ (fun H H1 h hz hq => hC_grow h hz hq) _ _ _ (by exact hv))) (va_cwS 3 S.2.2.2.2 gX5_deliver_X5_needRange rfl rfl rfl (by decide +kernel) ⟨Nat.le_of_ble_eq_true rfl, Nat.le_of_ble_eq_true rfl⟩) hK hE (fun H h => h) rfl (Nat.le_of_ble_eq_true rfl) dX5_deliver_27 ⟨Nat.le_of_ble_eq_true rfl, Nat.le_of_ble_eq_true rfl⟩ (fun E => g_out hout hlk (fun H h => h) (Nat.le_of_ble_eq_true rfl) (Nat.le_of_ble_eq_true rfl))

set_option maxHeartbeats 1500000 in
set_option maxRecDepth 100000 in
theorem t_deliver2S (l : Launch) (D : va_G) (ty : Nat → ClassId) (A : Nat → Prop) (hl : l.stackTraces = false) (tE : Nat) (el : Nat → Nat → Nat) (a : CS) (h6 : cOb a 6 0) (who g kg mo9 : Int32) (hv1 : mIn who 0 5 = true) (hv2 : mIn g 0 2 = true) (hv3 : mIn kg 100 40000 = true) (hv4 : mIn mo9 50 300 = true) (ok : cOk a) (hb1 : cL a 1 < 2 ^ 31) (hb : cL a 2 < 2 ^ 31) (hb0 : cL a 0 < 2 ^ 31) {s9 : Nat} (hs9 : kSiloFor a g (mGrade mo9) (kDry kg mo9) = some s9) (hv : 40 ≤ cL a 1 ∨ 80 ≤ cL a 2) : vx_Met l yX5_deliver wsX5_deliver rtX5_deliver (gPc D ty true cstrs tE A [.ref (el 6 0), .int who, .int g, .int kg, .int mo9] (hC D ty A tE el a)) (gQ A (fun _ _ => False)) (gX A (fun E H => E = "java/lang/IllegalStateException" ∧ hC D ty A tE el a H)) 1 6 A := by
  refine g_tMet (cc := cX5_deliver) (maxL := 9) (ret := (some .int)) [some (.ref (el 6 0)), some (.int who), some (.int g), some (.int kg), some (.int mo9), none, none, none, none] (by decide) rfl (Nat.le_of_ble_eq_true rfl) rfl ?_
  intro p e s m args below meth c S hlk hout hK hE hP0
  have S : CallFix p m c cX5_deliver 9 s args wsX5_deliver RX5 := S
  refine g_iload_n S dX5_deliver_0 rfl ?_
  refine g_iconst S (v := 0) dX5_deliver_1 (by decide) ?_
  refine g_iconst S (v := 5) dX5_deliver_2 (by decide) ?_
  refine g_cSv S (k_needRange l D ty A tE el a _ _ _ _ (by exact hv1)) (va_cwS 3 S.2.2.2.2 gX5_deliver_X5_needRange rfl rfl rfl (by decide +kernel) ⟨Nat.le_of_ble_eq_true rfl, Nat.le_of_ble_eq_true rfl⟩) hK hE (fun H h => h) rfl (Nat.le_of_ble_eq_true rfl) dX5_deliver_3 ⟨Nat.le_of_ble_eq_true rfl, Nat.le_of_ble_eq_true rfl⟩ ?_
  refine g_iload_n S dX5_deliver_6 rfl ?_
  refine g_iconst S (v := 0) dX5_deliver_7 (by decide) ?_
  refine g_iconst S (v := 2) dX5_deliver_8 (by decide) ?_
  refine g_cSv S (k_needRange l D ty A tE el a _ _ _ _ (by exact hv2)) (va_cwS 3 S.2.2.2.2 gX5_deliver_X5_needRange rfl rfl rfl (by decide +kernel) ⟨Nat.le_of_ble_eq_true rfl, Nat.le_of_ble_eq_true rfl⟩) hK hE (fun H h => h) rfl (Nat.le_of_ble_eq_true rfl) dX5_deliver_9 ⟨Nat.le_of_ble_eq_true rfl, Nat.le_of_ble_eq_true rfl⟩ ?_
  refine g_iload_n S dX5_deliver_12 rfl ?_
  refine g_bipush S (v := 100) dX5_deliver_13 (by decide) ?_
  refine g_ldc S (S.2.2.2.2 _ (List.mem_of_getElem? (i := 3) rfl)) dX5_deliver_15 ?_
  refine g_cSv S (k_needRange l D ty A tE el a _ _ _ _ (by exact hv3)) (va_cwS 3 S.2.2.2.2 gX5_deliver_X5_needRange rfl rfl rfl (by decide +kernel) ⟨Nat.le_of_ble_eq_true rfl, Nat.le_of_ble_eq_true rfl⟩) hK hE (fun H h => h) rfl (Nat.le_of_ble_eq_true rfl) dX5_deliver_17 ⟨Nat.le_of_ble_eq_true rfl, Nat.le_of_ble_eq_true rfl⟩ ?_
  refine g_iload S dX5_deliver_20 rfl ?_
  refine g_bipush S (v := 50) dX5_deliver_22 (by decide) ?_
  refine g_sipush S (v := 300) dX5_deliver_24 (by decide) ?_
  refine g_cSv S (k_needRange l D ty A tE el a _ _ _ _ (by exact hv4)) (va_cwS 3 S.2.2.2.2 gX5_deliver_X5_needRange rfl rfl rfl (by decide +kernel) ⟨Nat.le_of_ble_eq_true rfl, Nat.le_of_ble_eq_true rfl⟩) hK hE (fun H h => h) rfl (Nat.le_of_ble_eq_true rfl) dX5_deliver_27 ⟨Nat.le_of_ble_eq_true rfl, Nat.le_of_ble_eq_true rfl⟩ ?_
  refine g_iload S dX5_deliver_30 rfl ?_
  refine g_cSr S (k_gradeOf l D ty A tE el a _ _) (va_cwS 1 S.2.2.2.2 gX5_deliver_X5_gradeOf rfl rfl rfl (by decide +kernel) ⟨Nat.le_of_ble_eq_true rfl, Nat.le_of_ble_eq_true rfl⟩) hK hE (fun H h => h) rfl (Nat.le_of_ble_eq_true rfl) dX5_deliver_32 ⟨Nat.le_of_ble_eq_true rfl, Nat.le_of_ble_eq_true rfl⟩ ?_
  refine g_istore S dX5_deliver_35 (by decide) rfl ?_
  refine g_iload_n S dX5_deliver_37 rfl ?_
  refine g_iload S dX5_deliver_38 rfl ?_
  refine g_cSr S (k_dryWeight l D ty A tE el a _ _ _) (va_cwS 2 S.2.2.2.2 gX5_deliver_X5_dryWeight rfl rfl rfl (by decide +kernel) ⟨Nat.le_of_ble_eq_true rfl, Nat.le_of_ble_eq_true rfl⟩) hK hE (fun H h => h) rfl (Nat.le_of_ble_eq_true rfl) dX5_deliver_40 ⟨Nat.le_of_ble_eq_true rfl, Nat.le_of_ble_eq_true rfl⟩ ?_
  refine g_istore S dX5_deliver_43 (by decide) rfl ?_
  refine g_aload_n S dX5_deliver_45 rfl ?_
  refine g_iload_n S dX5_deliver_46 rfl ?_
  refine g_iload S dX5_deliver_47 rfl ?_
  refine g_iload S dX5_deliver_49 rfl ?_
  refine g_cVr S (k_siloFor l D ty A tE el a h6 ok.1 hb0 _ _ _) (cwV 3 S.2.2.2.2 gX5_deliver_X5_siloFor rfl rfl rfl (by decide +kernel) ⟨Nat.le_of_ble_eq_true rfl, Nat.le_of_ble_eq_true rfl⟩) hK hE (fun H h => h) (k6_recv hK h6) rfl (Nat.le_of_ble_eq_true rfl) dX5_deliver_51 ⟨Nat.le_of_ble_eq_true rfl, Nat.le_of_ble_eq_true rfl⟩ ?_
  refine g_st (show _ = [Value.ref (el 4 s9)] from by rw [hs9] <;> rfl) ?_
  refine g_astore S dX5_deliver_54 (by decide) rfl ?_
  refine g_aload_n S dX5_deliver_56 rfl ?_
  refine k6_get S hK (by exact cOb6) 1 (by decide) (S.2.2.2.2 _ (List.mem_of_getElem? (i := 4) rfl)) rfl dX5_deliver_57 ?_
  refine g_cVr S (k_size l D ty A tE el a (j := 1) (by decide)) (cwV 0 S.2.2.2.2 gX5_deliver_Jx4a65c_size_8abf5 rfl rfl rfl (by decide +kernel) ⟨Nat.le_of_ble_eq_true rfl, Nat.le_of_ble_eq_true rfl⟩) hK hE (fun H h => h) (k0_recv hK (j := 1) (by decide)) rfl (Nat.le_of_ble_eq_true rfl) dX5_deliver_60 ⟨Nat.le_of_ble_eq_true rfl, Nat.le_of_ble_eq_true rfl⟩ ?_
  refine g_bipush S (v := 40) dX5_deliver_63 (by decide) ?_
  refine g_icmp_ge S (tgt := 80) dX5_deliver_65 (by decide) (fun c_65 => ?_) (fun c_65 => ?_)
  · exact g_throwS S hl (cls := "java/lang/IllegalStateException") (text := "no delivery, no receipt or no room is left") (names := ["java/lang/RuntimeException", "java/lang/Exception"]) (by decide) (by decide) (S.2.2.2.2 _ (List.mem_of_getElem? (i := 1) rfl)) (S.2.2.2.2 _ (List.mem_of_getElem? (i := 2) rfl)) (by decide +kernel) (by decide +kernel) (by decide +kernel) hE (by decide +kernel) dX5_deliver_80 dX5_deliver_83 dX5_deliver_84 dX5_deliver_86 dX5_deliver_89 hout rfl rfl ⟨Nat.le_of_ble_eq_true rfl, Nat.le_of_ble_eq_true rfl⟩ ⟨Nat.le_of_ble_eq_true rfl, Nat.le_of_ble_eq_true rfl⟩ hlk (fun H H1 hP hz hq => ⟨rfl, hC_grow hP hz hq⟩) (Nat.le_of_ble_eq_true rfl) (Nat.le_of_ble_eq_true rfl)
  · refine g_aload_n S dX5_deliver_68 rfl ?_
    refine g_cVr S (k_full l D ty A tE el a h6) (cwV 0 S.2.2.2.2 gX5_deliver_X5_receiptsAreFull rfl rfl rfl (by decide +kernel) ⟨Nat.le_of_ble_eq_true rfl, Nat.le_of_ble_eq_true rfl⟩) hK hE (fun H h => h) (k6_recv hK h6) rfl (Nat.le_of_ble_eq_true rfl) dX5_deliver_69 ⟨Nat.le_of_ble_eq_true rfl, Nat.le_of_ble_eq_true rfl⟩ ?_
    refine g_ifb_ne S (tgt := 80) dX5_deliver_72 (by decide) (fun c_72 => ?_) (fun c_72 => ?_)
    · exact g_throwS S hl (cls := "java/lang/IllegalStateException") (text := "no delivery, no receipt or no room is left") (names := ["java/lang/RuntimeException", "java/lang/Exception"]) (by decide) (by decide) (S.2.2.2.2 _ (List.mem_of_getElem? (i := 1) rfl)) (S.2.2.2.2 _ (List.mem_of_getElem? (i := 2) rfl)) (by decide +kernel) (by decide +kernel) (by decide +kernel) hE (by decide +kernel) dX5_deliver_80 dX5_deliver_83 dX5_deliver_84 dX5_deliver_86 dX5_deliver_89 hout rfl rfl ⟨Nat.le_of_ble_eq_true rfl, Nat.le_of_ble_eq_true rfl⟩ ⟨Nat.le_of_ble_eq_true rfl, Nat.le_of_ble_eq_true rfl⟩ hlk (fun H H1 hP hz hq => ⟨rfl, hC_grow hP hz hq⟩) (Nat.le_of_ble_eq_true rfl) (Nat.le_of_ble_eq_true rfl)
    · refine g_aload S dX5_deliver_75 rfl ?_
      refine g_ifnonnull S (tgt := 90) dX5_deliver_77 (by decide) ?_
      exact absurd (fun (w : 40 ≤ cL a 1 ∨ 80 ≤ cL a 2) => by rcases w with w | w; exact c_65 (nI_le (a := 40) w hb1); exact absurd ((nI_80t w hb).symm.trans c_72) (by decide)) (fun w => w hv)

set_option maxHeartbeats 1500000 in
set_option maxRecDepth 100000 in
theorem t_deliver2N (l : Launch) (D : va_G) (ty : Nat → ClassId) (A : Nat → Prop) (hl : l.stackTraces = false) (tE : Nat) (el : Nat → Nat → Nat) (a : CS) (h6 : cOb a 6 0) (who g kg mo9 : Int32) (hv1 : mIn who 0 5 = true) (hv2 : mIn g 0 2 = true) (hv3 : mIn kg 100 40000 = true) (hv4 : mIn mo9 50 300 = true) (ok : cOk a) (hb1 : cL a 1 < 2 ^ 31) (hb : cL a 2 < 2 ^ 31) (hb0 : cL a 0 < 2 ^ 31) (hs9 : kSiloFor a g (mGrade mo9) (kDry kg mo9) = none) : vx_Met l yX5_deliver wsX5_deliver rtX5_deliver (gPc D ty true cstrs tE A [.ref (el 6 0), .int who, .int g, .int kg, .int mo9] (hC D ty A tE el a)) (gQ A (fun _ _ => False)) (gX A (fun E H => E = "java/lang/IllegalStateException" ∧ hC D ty A tE el a H)) 1 6 A := by
  refine g_tMet (cc := cX5_deliver) (maxL := 9) (ret := (some .int)) [some (.ref (el 6 0)), some (.int who), some (.int g), some (.int kg), some (.int mo9), none, none, none, none] (by decide) rfl (Nat.le_of_ble_eq_true rfl) rfl ?_
  intro p e s m args below meth c S hlk hout hK hE hP0
  have S : CallFix p m c cX5_deliver 9 s args wsX5_deliver RX5 := S
  refine g_iload_n S dX5_deliver_0 rfl ?_
  refine g_iconst S (v := 0) dX5_deliver_1 (by decide) ?_
  refine g_iconst S (v := 5) dX5_deliver_2 (by decide) ?_
  refine g_cSv S (k_needRange l D ty A tE el a _ _ _ _ (by exact hv1)) (va_cwS 3 S.2.2.2.2 gX5_deliver_X5_needRange rfl rfl rfl (by decide +kernel) ⟨Nat.le_of_ble_eq_true rfl, Nat.le_of_ble_eq_true rfl⟩) hK hE (fun H h => h) rfl (Nat.le_of_ble_eq_true rfl) dX5_deliver_3 ⟨Nat.le_of_ble_eq_true rfl, Nat.le_of_ble_eq_true rfl⟩ ?_
  refine g_iload_n S dX5_deliver_6 rfl ?_
  refine g_iconst S (v := 0) dX5_deliver_7 (by decide) ?_
  refine g_iconst S (v := 2) dX5_deliver_8 (by decide) ?_
  refine g_cSv S (k_needRange l D ty A tE el a _ _ _ _ (by exact hv2)) (va_cwS 3 S.2.2.2.2 gX5_deliver_X5_needRange rfl rfl rfl (by decide +kernel) ⟨Nat.le_of_ble_eq_true rfl, Nat.le_of_ble_eq_true rfl⟩) hK hE (fun H h => h) rfl (Nat.le_of_ble_eq_true rfl) dX5_deliver_9 ⟨Nat.le_of_ble_eq_true rfl, Nat.le_of_ble_eq_true rfl⟩ ?_
  refine g_iload_n S dX5_deliver_12 rfl ?_
  refine g_bipush S (v := 100) dX5_deliver_13 (by decide) ?_
  refine g_ldc S (S.2.2.2.2 _ (List.mem_of_getElem? (i := 3) rfl)) dX5_deliver_15 ?_
  refine g_cSv S (k_needRange l D ty A tE el a _ _ _ _ (by exact hv3)) (va_cwS 3 S.2.2.2.2 gX5_deliver_X5_needRange rfl rfl rfl (by decide +kernel) ⟨Nat.le_of_ble_eq_true rfl, Nat.le_of_ble_eq_true rfl⟩) hK hE (fun H h => h) rfl (Nat.le_of_ble_eq_true rfl) dX5_deliver_17 ⟨Nat.le_of_ble_eq_true rfl, Nat.le_of_ble_eq_true rfl⟩ ?_
  refine g_iload S dX5_deliver_20 rfl ?_
  refine g_bipush S (v := 50) dX5_deliver_22 (by decide) ?_
  refine g_sipush S (v := 300) dX5_deliver_24 (by decide) ?_
  refine g_cSv S (k_needRange l D ty A tE el a _ _ _ _ (by exact hv4)) (va_cwS 3 S.2.2.2.2 gX5_deliver_X5_needRange rfl rfl rfl (by decide +kernel) ⟨Nat.le_of_ble_eq_true rfl, Nat.le_of_ble_eq_true rfl⟩) hK hE (fun H h => h) rfl (Nat.le_of_ble_eq_true rfl) dX5_deliver_27 ⟨Nat.le_of_ble_eq_true rfl, Nat.le_of_ble_eq_true rfl⟩ ?_
  refine g_iload S dX5_deliver_30 rfl ?_
  refine g_cSr S (k_gradeOf l D ty A tE el a _ _) (va_cwS 1 S.2.2.2.2 gX5_deliver_X5_gradeOf rfl rfl rfl (by decide +kernel) ⟨Nat.le_of_ble_eq_true rfl, Nat.le_of_ble_eq_true rfl⟩) hK hE (fun H h => h) rfl (Nat.le_of_ble_eq_true rfl) dX5_deliver_32 ⟨Nat.le_of_ble_eq_true rfl, Nat.le_of_ble_eq_true rfl⟩ ?_
  refine g_istore S dX5_deliver_35 (by decide) rfl ?_
  refine g_iload_n S dX5_deliver_37 rfl ?_
  refine g_iload S dX5_deliver_38 rfl ?_
  refine g_cSr S (k_dryWeight l D ty A tE el a _ _ _) (va_cwS 2 S.2.2.2.2 gX5_deliver_X5_dryWeight rfl rfl rfl (by decide +kernel) ⟨Nat.le_of_ble_eq_true rfl, Nat.le_of_ble_eq_true rfl⟩) hK hE (fun H h => h) rfl (Nat.le_of_ble_eq_true rfl) dX5_deliver_40 ⟨Nat.le_of_ble_eq_true rfl, Nat.le_of_ble_eq_true rfl⟩ ?_
  refine g_istore S dX5_deliver_43 (by decide) rfl ?_
  refine g_aload_n S dX5_deliver_45 rfl ?_
  refine g_iload_n S dX5_deliver_46 rfl ?_
  refine g_iload S dX5_deliver_47 rfl ?_
  refine g_iload S dX5_deliver_49 rfl ?_
  refine g_cVr S (k_siloFor l D ty A tE el a h6 ok.1 hb0 _ _ _) (cwV 3 S.2.2.2.2 gX5_deliver_X5_siloFor rfl rfl rfl (by decide +kernel) ⟨Nat.le_of_ble_eq_true rfl, Nat.le_of_ble_eq_true rfl⟩) hK hE (fun H h => h) (k6_recv hK h6) rfl (Nat.le_of_ble_eq_true rfl) dX5_deliver_51 ⟨Nat.le_of_ble_eq_true rfl, Nat.le_of_ble_eq_true rfl⟩ ?_
  refine g_st (show _ = [Value.null] from by rw [hs9] <;> rfl) ?_
  refine g_astoreN S dX5_deliver_54 (by decide) rfl ?_
  refine g_aload_n S dX5_deliver_56 rfl ?_
  refine k6_get S hK (by exact cOb6) 1 (by decide) (S.2.2.2.2 _ (List.mem_of_getElem? (i := 4) rfl)) rfl dX5_deliver_57 ?_
  refine g_cVr S (k_size l D ty A tE el a (j := 1) (by decide)) (cwV 0 S.2.2.2.2 gX5_deliver_Jx4a65c_size_8abf5 rfl rfl rfl (by decide +kernel) ⟨Nat.le_of_ble_eq_true rfl, Nat.le_of_ble_eq_true rfl⟩) hK hE (fun H h => h) (k0_recv hK (j := 1) (by decide)) rfl (Nat.le_of_ble_eq_true rfl) dX5_deliver_60 ⟨Nat.le_of_ble_eq_true rfl, Nat.le_of_ble_eq_true rfl⟩ ?_
  refine g_bipush S (v := 40) dX5_deliver_63 (by decide) ?_
  refine g_icmp_ge S (tgt := 80) dX5_deliver_65 (by decide) (fun c_65 => ?_) (fun c_65 => ?_)
  · exact g_throwS S hl (cls := "java/lang/IllegalStateException") (text := "no delivery, no receipt or no room is left") (names := ["java/lang/RuntimeException", "java/lang/Exception"]) (by decide) (by decide) (S.2.2.2.2 _ (List.mem_of_getElem? (i := 1) rfl)) (S.2.2.2.2 _ (List.mem_of_getElem? (i := 2) rfl)) (by decide +kernel) (by decide +kernel) (by decide +kernel) hE (by decide +kernel) dX5_deliver_80 dX5_deliver_83 dX5_deliver_84 dX5_deliver_86 dX5_deliver_89 hout rfl rfl ⟨Nat.le_of_ble_eq_true rfl, Nat.le_of_ble_eq_true rfl⟩ ⟨Nat.le_of_ble_eq_true rfl, Nat.le_of_ble_eq_true rfl⟩ hlk (fun H H1 hP hz hq => ⟨rfl, hC_grow hP hz hq⟩) (Nat.le_of_ble_eq_true rfl) (Nat.le_of_ble_eq_true rfl)
  · refine g_aload_n S dX5_deliver_68 rfl ?_
    refine g_cVr S (k_full l D ty A tE el a h6) (cwV 0 S.2.2.2.2 gX5_deliver_X5_receiptsAreFull rfl rfl rfl (by decide +kernel) ⟨Nat.le_of_ble_eq_true rfl, Nat.le_of_ble_eq_true rfl⟩) hK hE (fun H h => h) (k6_recv hK h6) rfl (Nat.le_of_ble_eq_true rfl) dX5_deliver_69 ⟨Nat.le_of_ble_eq_true rfl, Nat.le_of_ble_eq_true rfl⟩ ?_
    refine g_ifb_ne S (tgt := 80) dX5_deliver_72 (by decide) (fun c_72 => ?_) (fun c_72 => ?_)
    · exact g_throwS S hl (cls := "java/lang/IllegalStateException") (text := "no delivery, no receipt or no room is left") (names := ["java/lang/RuntimeException", "java/lang/Exception"]) (by decide) (by decide) (S.2.2.2.2 _ (List.mem_of_getElem? (i := 1) rfl)) (S.2.2.2.2 _ (List.mem_of_getElem? (i := 2) rfl)) (by decide +kernel) (by decide +kernel) (by decide +kernel) hE (by decide +kernel) dX5_deliver_80 dX5_deliver_83 dX5_deliver_84 dX5_deliver_86 dX5_deliver_89 hout rfl rfl ⟨Nat.le_of_ble_eq_true rfl, Nat.le_of_ble_eq_true rfl⟩ ⟨Nat.le_of_ble_eq_true rfl, Nat.le_of_ble_eq_true rfl⟩ hlk (fun H H1 hP hz hq => ⟨rfl, hC_grow hP hz hq⟩) (Nat.le_of_ble_eq_true rfl) (Nat.le_of_ble_eq_true rfl)
    · refine g_aloadN S dX5_deliver_75 rfl ?_
      refine g_ifnonnullN S dX5_deliver_77 ?_
      exact g_throwS S hl (cls := "java/lang/IllegalStateException") (text := "no delivery, no receipt or no room is left") (names := ["java/lang/RuntimeException", "java/lang/Exception"]) (by decide) (by decide) (S.2.2.2.2 _ (List.mem_of_getElem? (i := 1) rfl)) (S.2.2.2.2 _ (List.mem_of_getElem? (i := 2) rfl)) (by decide +kernel) (by decide +kernel) (by decide +kernel) hE (by decide +kernel) dX5_deliver_80 dX5_deliver_83 dX5_deliver_84 dX5_deliver_86 dX5_deliver_89 hout rfl rfl ⟨Nat.le_of_ble_eq_true rfl, Nat.le_of_ble_eq_true rfl⟩ ⟨Nat.le_of_ble_eq_true rfl, Nat.le_of_ble_eq_true rfl⟩ hlk (fun H H1 hP hz hq => ⟨rfl, hC_grow hP hz hq⟩) (Nat.le_of_ble_eq_true rfl) (Nat.le_of_ble_eq_true rfl)

def kDiff (a : CS) (d : Nat) (mo : Int32) : Int32 := kDry (cI a 2 5 d) mo - cI a 2 6 d
def kLike (a : CS) (d : Nat) : Bool := kIsOf a (kS a d) (cI a 2 2 d) (cI a 2 3 d)
def kReweigh (a : CS) (d : Nat) (mo : Int32) : CS :=
  let b := cSI a 2 6 d (cI a 2 6 d + kDiff a d mo)
  if kLike a d = true then
    if kDiff a d mo ≤ 0 then (if 0 ≤ kDiff a d mo then b else kTakeBack b d (-kDiff a d mo))
    else kPutIn b d (kDiff a d mo)
  else kOweT b (cI b 2 1 d) (-kDiff a d mo)
abbrev rmX5_reweigh : Room := { frames := 9, cells := 3, slots := 164, locals := 237 }
set_option maxHeartbeats 1500000 in
set_option maxRecDepth 100000 in
theorem k_reweigh (l : Launch) (D : va_G) (ty : Nat → ClassId) (A : Nat → Prop) (tE : Nat) (el : Nat → Nat → Nat) (a : CS) (h6 : cOb a 6 0) (hb1 : cL a 1 < 2 ^ 31) {q : Nat} (hq : q < cL a 1) (h2 : cOb a 2 q) (mo9 : Int32) (hv1 : mIn mo9 50 300 = true) (ok : cOk a) (hd3 : q < cN a 2) (hb : cL a 2 < 2 ^ 31) (h80 : cL a 2 ≤ 80) (hLN : cL a 2 = cN a 3) (hv : ¬ (0 < kDiff a q mo9 ∧ kLike a q = true ∧ 80 ≤ cL a 2)) : Met l yX5_reweigh wsX5_reweigh rmX5_reweigh (gPc D ty true cstrs tE A [.ref (el 6 0), .int (nI q), .int mo9] (hC D ty A tE el a)) (gQ A (gRet (some (.int (kDiff a q mo9))) (hX D ty A tE el a (kReweigh a q mo9)))) 3 164 A := by
  refine g_Met (cc := cX5_reweigh) (maxL := 6) (ret := (some .int)) [some (.ref (el 6 0)), some (.int (nI q)), some (.int mo9), none, none, none] (by decide) rfl (Nat.le_of_ble_eq_true rfl) rfl ?_
  intro p e s m args below meth c S hlk hr hnm hK hE hP0
  have S : CallFix p m c cX5_reweigh 6 s args wsX5_reweigh RX5 := S
  have hs9 := ok.1.2.1 q hd3
  have hs := hs9.1
  have h4 : cOb a 4 (kS a q) := Or.inl ⟨by decide, hs9.2⟩
  refine g_aload_n S dX5_reweigh_0 rfl ?_
  refine g_iload_n S dX5_reweigh_1 rfl ?_
  refine g_cVr S (k_findDelivery l D ty A tE el a h6 hb1 hq h2) (cwV 1 S.2.2.2.2 gX5_reweigh_X5_findDelivery rfl rfl rfl (by decide +kernel) ⟨Nat.le_of_ble_eq_true rfl, Nat.le_of_ble_eq_true rfl⟩) hK hE (fun H h => h) (k6_recv hK h6) rfl (Nat.le_of_ble_eq_true rfl) dX5_reweigh_2 ⟨Nat.le_of_ble_eq_true rfl, Nat.le_of_ble_eq_true rfl⟩ ?_
  refine g_astore_n S dX5_reweigh_5 (by decide) rfl ?_
  refine g_iload_n S dX5_reweigh_6 rfl ?_
  refine g_bipush S (v := 50) dX5_reweigh_7 (by decide) ?_
  refine g_sipush S (v := 300) dX5_reweigh_9 (by decide) ?_
  refine g_cSv S (k_needRange l D ty A tE el a _ _ _ _ (by exact hv1)) (va_cwS 3 S.2.2.2.2 gX5_reweigh_X5_needRange rfl rfl rfl (by decide +kernel) ⟨Nat.le_of_ble_eq_true rfl, Nat.le_of_ble_eq_true rfl⟩) hK hE (fun H h => h) rfl (Nat.le_of_ble_eq_true rfl) dX5_reweigh_12 ⟨Nat.le_of_ble_eq_true rfl, Nat.le_of_ble_eq_true rfl⟩ ?_
  refine g_aload_n S dX5_reweigh_15 rfl ?_
  refine k2_get S hK (by exact h2) 5 (by decide) (S.2.2.2.2 _ (List.mem_of_getElem? (i := 3) rfl)) rfl dX5_reweigh_16 ?_
  refine g_iload_n S dX5_reweigh_19 rfl ?_
  refine g_cSr S (k_dryWeight l D ty A tE el a _ _ _) (va_cwS 2 S.2.2.2.2 gX5_reweigh_X5_dryWeight rfl rfl rfl (by decide +kernel) ⟨Nat.le_of_ble_eq_true rfl, Nat.le_of_ble_eq_true rfl⟩) hK hE (fun H h => h) rfl (Nat.le_of_ble_eq_true rfl) dX5_reweigh_20 ⟨Nat.le_of_ble_eq_true rfl, Nat.le_of_ble_eq_true rfl⟩ ?_
  refine g_aload_n S dX5_reweigh_23 rfl ?_
  refine k2_get S hK (by exact h2) 6 (by decide) (S.2.2.2.2 _ (List.mem_of_getElem? (i := 4) rfl)) rfl dX5_reweigh_24 ?_
  refine g_isub S dX5_reweigh_27 ?_
  refine g_istore S dX5_reweigh_28 (by decide) rfl ?_
  refine g_aload_n S dX5_reweigh_30 rfl ?_
  refine k2_getR S hK (by exact h2) 4 (by decide) (by exact hs) (S.2.2.2.2 _ (List.mem_of_getElem? (i := 5) rfl)) rfl dX5_reweigh_31 ?_
  refine g_aload_n S dX5_reweigh_34 rfl ?_
  refine k2_get S hK (by exact h2) 2 (by decide) (S.2.2.2.2 _ (List.mem_of_getElem? (i := 6) rfl)) rfl dX5_reweigh_35 ?_
  refine g_aload_n S dX5_reweigh_38 rfl ?_
  refine k2_get S hK (by exact h2) 3 (by decide) (S.2.2.2.2 _ (List.mem_of_getElem? (i := 7) rfl)) rfl dX5_reweigh_39 ?_
  refine g_cVr S (k_isOf l D ty A tE el a h4 _ _) (cwV 2 S.2.2.2.2 gX5_reweigh_X3_isOf rfl rfl rfl (by decide +kernel) ⟨Nat.le_of_ble_eq_true rfl, Nat.le_of_ble_eq_true rfl⟩) hK hE (fun H h => h) (k4_recv hK h4) rfl (Nat.le_of_ble_eq_true rfl) dX5_reweigh_42 ⟨Nat.le_of_ble_eq_true rfl, Nat.le_of_ble_eq_true rfl⟩ ?_
  refine g_istore S dX5_reweigh_45 (by decide) rfl ?_
  refine g_iload S dX5_reweigh_47 rfl ?_
  refine g_if_le S (tgt := 74) dX5_reweigh_49 (by decide) (fun c_49 => ?_) (fun c_49 => ?_)
  · refine g_aload_n S dX5_reweigh_74 rfl ?_
    refine g_dup S dX5_reweigh_75 rfl ?_
    refine k2_get S hK (by exact h2) 6 (by decide) (S.2.2.2.2 _ (List.mem_of_getElem? (i := 4) rfl)) rfl dX5_reweigh_76 ?_
    refine g_iload S dX5_reweigh_79 rfl ?_
    refine g_iadd S dX5_reweigh_81 ?_
    refine k2_put S hK (by exact h2) 6 (by decide) (by decide) (S.2.2.2.2 _ (List.mem_of_getElem? (i := 4) rfl)) (Or.inl rfl) rfl rfl dX5_reweigh_82 ?_
    refine g_iload S dX5_reweigh_85 rfl ?_
    refine g_ifb_ne S (tgt := 104) dX5_reweigh_87 (by decide) (fun c_87 => ?_) (fun c_87 => ?_)
    · refine g_iload S dX5_reweigh_104 rfl ?_
      refine g_if_le S (tgt := 120) dX5_reweigh_106 (by decide) (fun c_106 => ?_) (fun c_106 => ?_)
      · refine g_iload S dX5_reweigh_120 rfl ?_
        refine g_if_ge S (tgt := 133) dX5_reweigh_122 (by decide) (fun c_122 => ?_) (fun c_122 => ?_)
        · refine g_iload S dX5_reweigh_133 rfl ?_
          exact g_iret S hlk hr (fun H h => ⟨rfl, el, elX.rf, by unfold kReweigh; simp only; rw [if_pos (show kLike a q = true from c_87), if_pos (show kDiff a q mo9 ≤ 0 from c_106), if_pos (show 0 ≤ kDiff a q mo9 from c_122)]; exact h⟩) (Nat.le_of_ble_eq_true rfl) (Nat.le_of_ble_eq_true rfl) dX5_reweigh_135
        · refine g_aload_n S dX5_reweigh_125 rfl ?_
          refine g_aload_n S dX5_reweigh_126 rfl ?_
          refine g_iload S dX5_reweigh_127 rfl ?_
          refine g_ineg S dX5_reweigh_129 ?_
          refine g_cVv S (k_takeBack l D ty A tE el (cSI a 2 6 q (cI a 2 6 q + kDiff a q mo9)) cOb6 (ok.of rfl rfl rfl) hb (d9 := q) h2 _) (cwV 2 S.2.2.2.2 gX5_reweigh_X5_takeBack rfl rfl rfl (by decide +kernel) ⟨Nat.le_of_ble_eq_true rfl, Nat.le_of_ble_eq_true rfl⟩) hK hE (fun H h => h) (k6_recv hK cOb6) rfl (Nat.le_of_ble_eq_true rfl) dX5_reweigh_130 ⟨Nat.le_of_ble_eq_true rfl, Nat.le_of_ble_eq_true rfl⟩ ?_
          refine g_iload S dX5_reweigh_133 rfl ?_
          exact g_iret S hlk hr (fun H h => ⟨rfl, el, elX.rf, by unfold kReweigh; simp only; rw [if_pos (show kLike a q = true from c_87), if_pos (show kDiff a q mo9 ≤ 0 from c_106), if_neg (show ¬ 0 ≤ kDiff a q mo9 from c_122)]; exact h⟩) (Nat.le_of_ble_eq_true rfl) (Nat.le_of_ble_eq_true rfl) dX5_reweigh_135
      · refine g_aload_n S dX5_reweigh_109 rfl ?_
        refine g_aload_n S dX5_reweigh_110 rfl ?_
        refine g_iload S dX5_reweigh_111 rfl ?_
        refine g_cVi S (k_putIn l D ty A tE el (cSI a 2 6 q (cI a 2 6 q + kDiff a q mo9)) (ok.of rfl rfl rfl) (d := q) hd3 (kDiff a q mo9) hLN (show cL a 2 < 100 by omega)) (cwV 2 S.2.2.2.2 gX5_reweigh_X5_putIn rfl rfl rfl (by decide +kernel) ⟨Nat.le_of_ble_eq_true rfl, Nat.le_of_ble_eq_true rfl⟩) hK hE (fun H h => h) (k6_recv hK cOb6) rfl (Nat.le_of_ble_eq_true rfl) dX5_reweigh_113 ⟨Nat.le_of_ble_eq_true rfl, Nat.le_of_ble_eq_true rfl⟩ (fun el1 x1 => ?_)
        refine g_pop S dX5_reweigh_116 rfl ?_
        refine g_goto S (tgt := 133) dX5_reweigh_117 (by decide) ?_
        refine g_iload S dX5_reweigh_133 rfl ?_
        exact g_iret S hlk hr (fun H h => ⟨rfl, el1, x1, by unfold kReweigh; simp only; rw [if_pos (show kLike a q = true from c_87), if_neg (show ¬ kDiff a q mo9 ≤ 0 from c_106)]; exact h⟩) (Nat.le_of_ble_eq_true rfl) (Nat.le_of_ble_eq_true rfl) dX5_reweigh_135
    · refine g_aload_n S dX5_reweigh_90 rfl ?_
      refine g_aload_n S dX5_reweigh_91 rfl ?_
      refine k2_get S hK (by exact h2) 1 (by decide) (S.2.2.2.2 _ (List.mem_of_getElem? (i := 8) rfl)) rfl dX5_reweigh_92 ?_
      refine g_iload S dX5_reweigh_95 rfl ?_
      refine g_ineg S dX5_reweigh_97 ?_
      refine g_cVv S (k_oweT l D ty A tE el (cSI a 2 6 q (cI a 2 6 q + kDiff a q mo9)) cOb6 _ _) (cwV 2 S.2.2.2.2 gX5_reweigh_X5_owe rfl rfl rfl (by decide +kernel) ⟨Nat.le_of_ble_eq_true rfl, Nat.le_of_ble_eq_true rfl⟩) hK hE (fun H h => h) (k6_recv hK cOb6) rfl (Nat.le_of_ble_eq_true rfl) dX5_reweigh_98 ⟨Nat.le_of_ble_eq_true rfl, Nat.le_of_ble_eq_true rfl⟩ ?_
      refine g_goto S (tgt := 133) dX5_reweigh_101 (by decide) ?_
      refine g_iload S dX5_reweigh_133 rfl ?_
      exact g_iret S hlk hr (fun H h => ⟨rfl, el, elX.rf, by unfold kReweigh; simp only; rw [if_neg (show ¬ kLike a q = true from fun z => absurd (Eq.trans (Eq.symm c_87) z) (by decide))]; exact h⟩) (Nat.le_of_ble_eq_true rfl) (Nat.le_of_ble_eq_true rfl) dX5_reweigh_135
  · refine g_iload S dX5_reweigh_52 rfl ?_
    refine g_ifb_eq S (tgt := 74) dX5_reweigh_54 (by decide) (fun c_54 => ?_) (fun c_54 => ?_)
    · refine g_aload_n S dX5_reweigh_74 rfl ?_
      refine g_dup S dX5_reweigh_75 rfl ?_
      refine k2_get S hK (by exact h2) 6 (by decide) (S.2.2.2.2 _ (List.mem_of_getElem? (i := 4) rfl)) rfl dX5_reweigh_76 ?_
      refine g_iload S dX5_reweigh_79 rfl ?_
      refine g_iadd S dX5_reweigh_81 ?_
      refine k2_put S hK (by exact h2) 6 (by decide) (by decide) (S.2.2.2.2 _ (List.mem_of_getElem? (i := 4) rfl)) (Or.inl rfl) rfl rfl dX5_reweigh_82 ?_
      refine g_iload S dX5_reweigh_85 rfl ?_
      refine g_ifb_ne S (tgt := 104) dX5_reweigh_87 (by decide) (fun c_87 => ?_) (fun c_87 => ?_)
      · exact absurd (c_87.symm.trans c_54) (by decide)
      · refine g_aload_n S dX5_reweigh_90 rfl ?_
        refine g_aload_n S dX5_reweigh_91 rfl ?_
        refine k2_get S hK (by exact h2) 1 (by decide) (S.2.2.2.2 _ (List.mem_of_getElem? (i := 8) rfl)) rfl dX5_reweigh_92 ?_
        refine g_iload S dX5_reweigh_95 rfl ?_
        refine g_ineg S dX5_reweigh_97 ?_
        refine g_cVv S (k_oweT l D ty A tE el (cSI a 2 6 q (cI a 2 6 q + kDiff a q mo9)) cOb6 _ _) (cwV 2 S.2.2.2.2 gX5_reweigh_X5_owe rfl rfl rfl (by decide +kernel) ⟨Nat.le_of_ble_eq_true rfl, Nat.le_of_ble_eq_true rfl⟩) hK hE (fun H h => h) (k6_recv hK cOb6) rfl (Nat.le_of_ble_eq_true rfl) dX5_reweigh_98 ⟨Nat.le_of_ble_eq_true rfl, Nat.le_of_ble_eq_true rfl⟩ ?_
        refine g_goto S (tgt := 133) dX5_reweigh_101 (by decide) ?_
        refine g_iload S dX5_reweigh_133 rfl ?_
        exact g_iret S hlk hr (fun H h => ⟨rfl, el, elX.rf, by unfold kReweigh; simp only; rw [if_neg (show ¬ kLike a q = true from fun z => absurd (Eq.trans (Eq.symm c_54) z) (by decide))]; exact h⟩) (Nat.le_of_ble_eq_true rfl) (Nat.le_of_ble_eq_true rfl) dX5_reweigh_135
    · refine g_aload_n S dX5_reweigh_57 rfl ?_
      refine g_cVr S (k_full l D ty A tE el a h6) (cwV 0 S.2.2.2.2 gX5_reweigh_X5_receiptsAreFull rfl rfl rfl (by decide +kernel) ⟨Nat.le_of_ble_eq_true rfl, Nat.le_of_ble_eq_true rfl⟩) hK hE (fun H h => h) (k6_recv hK h6) rfl (Nat.le_of_ble_eq_true rfl) dX5_reweigh_58 ⟨Nat.le_of_ble_eq_true rfl, Nat.le_of_ble_eq_true rfl⟩ ?_
      refine g_ifb_eq S (tgt := 74) dX5_reweigh_61 (by decide) (fun c_61 => ?_) (fun c_61 => ?_)
      · refine g_aload_n S dX5_reweigh_74 rfl ?_
        refine g_dup S dX5_reweigh_75 rfl ?_
        refine k2_get S hK (by exact h2) 6 (by decide) (S.2.2.2.2 _ (List.mem_of_getElem? (i := 4) rfl)) rfl dX5_reweigh_76 ?_
        refine g_iload S dX5_reweigh_79 rfl ?_
        refine g_iadd S dX5_reweigh_81 ?_
        refine k2_put S hK (by exact h2) 6 (by decide) (by decide) (S.2.2.2.2 _ (List.mem_of_getElem? (i := 4) rfl)) (Or.inl rfl) rfl rfl dX5_reweigh_82 ?_
        refine g_iload S dX5_reweigh_85 rfl ?_
        refine g_ifb_ne S (tgt := 104) dX5_reweigh_87 (by decide) (fun c_87 => ?_) (fun c_87 => ?_)
        · refine g_iload S dX5_reweigh_104 rfl ?_
          refine g_if_le S (tgt := 120) dX5_reweigh_106 (by decide) (fun c_106 => ?_) (fun c_106 => ?_)
          · refine g_iload S dX5_reweigh_120 rfl ?_
            refine g_if_ge S (tgt := 133) dX5_reweigh_122 (by decide) (fun c_122 => ?_) (fun c_122 => ?_)
            · refine g_iload S dX5_reweigh_133 rfl ?_
              exact g_iret S hlk hr (fun H h => ⟨rfl, el, elX.rf, by unfold kReweigh; simp only; rw [if_pos (show kLike a q = true from c_54), if_pos (show kDiff a q mo9 ≤ 0 from c_106), if_pos (show 0 ≤ kDiff a q mo9 from c_122)]; exact h⟩) (Nat.le_of_ble_eq_true rfl) (Nat.le_of_ble_eq_true rfl) dX5_reweigh_135
            · refine g_aload_n S dX5_reweigh_125 rfl ?_
              refine g_aload_n S dX5_reweigh_126 rfl ?_
              refine g_iload S dX5_reweigh_127 rfl ?_
              refine g_ineg S dX5_reweigh_129 ?_
              refine g_cVv S (k_takeBack l D ty A tE el (cSI a 2 6 q (cI a 2 6 q + kDiff a q mo9)) cOb6 (ok.of rfl rfl rfl) hb (d9 := q) h2 _) (cwV 2 S.2.2.2.2 gX5_reweigh_X5_takeBack rfl rfl rfl (by decide +kernel) ⟨Nat.le_of_ble_eq_true rfl, Nat.le_of_ble_eq_true rfl⟩) hK hE (fun H h => h) (k6_recv hK cOb6) rfl (Nat.le_of_ble_eq_true rfl) dX5_reweigh_130 ⟨Nat.le_of_ble_eq_true rfl, Nat.le_of_ble_eq_true rfl⟩ ?_
              refine g_iload S dX5_reweigh_133 rfl ?_
              exact g_iret S hlk hr (fun H h => ⟨rfl, el, elX.rf, by unfold kReweigh; simp only; rw [if_pos (show kLike a q = true from c_54), if_pos (show kDiff a q mo9 ≤ 0 from c_106), if_neg (show ¬ 0 ≤ kDiff a q mo9 from c_122)]; exact h⟩) (Nat.le_of_ble_eq_true rfl) (Nat.le_of_ble_eq_true rfl) dX5_reweigh_135
          · refine g_aload_n S dX5_reweigh_109 rfl ?_
            refine g_aload_n S dX5_reweigh_110 rfl ?_
            refine g_iload S dX5_reweigh_111 rfl ?_
            refine g_cVi S (k_putIn l D ty A tE el (cSI a 2 6 q (cI a 2 6 q + kDiff a q mo9)) (ok.of rfl rfl rfl) (d := q) hd3 (kDiff a q mo9) hLN (show cL a 2 < 100 by omega)) (cwV 2 S.2.2.2.2 gX5_reweigh_X5_putIn rfl rfl rfl (by decide +kernel) ⟨Nat.le_of_ble_eq_true rfl, Nat.le_of_ble_eq_true rfl⟩) hK hE (fun H h => h) (k6_recv hK cOb6) rfl (Nat.le_of_ble_eq_true rfl) dX5_reweigh_113 ⟨Nat.le_of_ble_eq_true rfl, Nat.le_of_ble_eq_true rfl⟩ (fun el1 x1 => ?_)
            refine g_pop S dX5_reweigh_116 rfl ?_
            refine g_goto S (tgt := 133) dX5_reweigh_117 (by decide) ?_
            refine g_iload S dX5_reweigh_133 rfl ?_
            exact g_iret S hlk hr (fun H h => ⟨rfl, el1, x1, by unfold kReweigh; simp only; rw [if_pos (show kLike a q = true from c_54), if_neg (show ¬ kDiff a q mo9 ≤ 0 from c_106)]; exact h⟩) (Nat.le_of_ble_eq_true rfl) (Nat.le_of_ble_eq_true rfl) dX5_reweigh_135
        · exact absurd (c_87.symm.trans c_54) (by decide)
      · exact absurd (fun (w : 0 < kDiff a q mo9 ∧ kLike a q = true ∧ 80 ≤ cL a 2) => hv w) (fun w => w ⟨Int32.not_le.mp c_49, c_54, Nat.not_lt.mp (fun w => absurd ((nI_80f w).symm.trans c_61) (by decide))⟩)

abbrev rtX5_reweigh : Room := { frames := 8, cells := 1, slots := 6, locals := 300 }
set_option maxHeartbeats 1500000 in
set_option maxRecDepth 100000 in
theorem t_reweigh3 (l : Launch) (D : va_G) (ty : Nat → ClassId) (A : Nat → Prop) (hl : l.stackTraces = false) (tE : Nat) (el : Nat → Nat → Nat) (a : CS) (h6 : cOb a 6 0) (hb1 : cL a 1 < 2 ^ 31) {q : Nat} (hq : q < cL a 1) (h2 : cOb a 2 q) (mo9 : Int32) (hv1 : mIn mo9 50 300 = true) (ok : cOk a) (hd3 : q < cN a 2) (hb : cL a 2 < 2 ^ 31) (hv : 0 < kDiff a q mo9 ∧ kLike a q = true ∧ 80 ≤ cL a 2) : vx_Met l yX5_reweigh wsX5_reweigh rtX5_reweigh (gPc D ty true cstrs tE A [.ref (el 6 0), .int (nI q), .int mo9] (hC D ty A tE el a)) (gQ A (fun _ _ => False)) (gX A (fun E H => E = "java/lang/IllegalStateException" ∧ hC D ty A tE el a H)) 1 6 A := by
  refine g_tMet (cc := cX5_reweigh) (maxL := 6) (ret := (some .int)) [some (.ref (el 6 0)), some (.int (nI q)), some (.int mo9), none, none, none] (by decide) rfl (Nat.le_of_ble_eq_true rfl) rfl ?_
  intro p e s m args below meth c S hlk hout hK hE hP0
  have S : CallFix p m c cX5_reweigh 6 s args wsX5_reweigh RX5 := S
  have hs9 := ok.1.2.1 q hd3
  have hs := hs9.1
  have h4 : cOb a 4 (kS a q) := Or.inl ⟨by decide, hs9.2⟩
  refine g_aload_n S dX5_reweigh_0 rfl ?_
  refine g_iload_n S dX5_reweigh_1 rfl ?_
  refine g_cVr S (k_findDelivery l D ty A tE el a h6 hb1 hq h2) (cwV 1 S.2.2.2.2 gX5_reweigh_X5_findDelivery rfl rfl rfl (by decide +kernel) ⟨Nat.le_of_ble_eq_true rfl, Nat.le_of_ble_eq_true rfl⟩) hK hE (fun H h => h) (k6_recv hK h6) rfl (Nat.le_of_ble_eq_true rfl) dX5_reweigh_2 ⟨Nat.le_of_ble_eq_true rfl, Nat.le_of_ble_eq_true rfl⟩ ?_
  refine g_astore_n S dX5_reweigh_5 (by decide) rfl ?_
  refine g_iload_n S dX5_reweigh_6 rfl ?_
  refine g_bipush S (v := 50) dX5_reweigh_7 (by decide) ?_
  refine g_sipush S (v := 300) dX5_reweigh_9 (by decide) ?_
  refine g_cSv S (k_needRange l D ty A tE el a _ _ _ _ (by exact hv1)) (va_cwS 3 S.2.2.2.2 gX5_reweigh_X5_needRange rfl rfl rfl (by decide +kernel) ⟨Nat.le_of_ble_eq_true rfl, Nat.le_of_ble_eq_true rfl⟩) hK hE (fun H h => h) rfl (Nat.le_of_ble_eq_true rfl) dX5_reweigh_12 ⟨Nat.le_of_ble_eq_true rfl, Nat.le_of_ble_eq_true rfl⟩ ?_
  refine g_aload_n S dX5_reweigh_15 rfl ?_
  refine k2_get S hK (by exact h2) 5 (by decide) (S.2.2.2.2 _ (List.mem_of_getElem? (i := 3) rfl)) rfl dX5_reweigh_16 ?_
  refine g_iload_n S dX5_reweigh_19 rfl ?_
  refine g_cSr S (k_dryWeight l D ty A tE el a _ _ _) (va_cwS 2 S.2.2.2.2 gX5_reweigh_X5_dryWeight rfl rfl rfl (by decide +kernel) ⟨Nat.le_of_ble_eq_true rfl, Nat.le_of_ble_eq_true rfl⟩) hK hE (fun H h => h) rfl (Nat.le_of_ble_eq_true rfl) dX5_reweigh_20 ⟨Nat.le_of_ble_eq_true rfl, Nat.le_of_ble_eq_true rfl⟩ ?_
  refine g_aload_n S dX5_reweigh_23 rfl ?_
  refine k2_get S hK (by exact h2) 6 (by decide) (S.2.2.2.2 _ (List.mem_of_getElem? (i := 4) rfl)) rfl dX5_reweigh_24 ?_
  refine g_isub S dX5_reweigh_27 ?_
  refine g_istore S dX5_reweigh_28 (by decide) rfl ?_
  refine g_aload_n S dX5_reweigh_30 rfl ?_
  refine k2_getR S hK (by exact h2) 4 (by decide) (by exact hs) (S.2.2.2.2 _ (List.mem_of_getElem? (i := 5) rfl)) rfl dX5_reweigh_31 ?_
  refine g_aload_n S dX5_reweigh_34 rfl ?_
  refine k2_get S hK (by exact h2) 2 (by decide) (S.2.2.2.2 _ (List.mem_of_getElem? (i := 6) rfl)) rfl dX5_reweigh_35 ?_
  refine g_aload_n S dX5_reweigh_38 rfl ?_
  refine k2_get S hK (by exact h2) 3 (by decide) (S.2.2.2.2 _ (List.mem_of_getElem? (i := 7) rfl)) rfl dX5_reweigh_39 ?_
  refine g_cVr S (k_isOf l D ty A tE el a h4 _ _) (cwV 2 S.2.2.2.2 gX5_reweigh_X3_isOf rfl rfl rfl (by decide +kernel) ⟨Nat.le_of_ble_eq_true rfl, Nat.le_of_ble_eq_true rfl⟩) hK hE (fun H h => h) (k4_recv hK h4) rfl (Nat.le_of_ble_eq_true rfl) dX5_reweigh_42 ⟨Nat.le_of_ble_eq_true rfl, Nat.le_of_ble_eq_true rfl⟩ ?_
  refine g_istore S dX5_reweigh_45 (by decide) rfl ?_
  refine g_iload S dX5_reweigh_47 rfl ?_
  refine g_if_le S (tgt := 74) dX5_reweigh_49 (by decide) (fun c_49 => ?_) (fun c_49 => ?_)
  · exact absurd hv.1 (Int32.not_lt.mpr c_49)
  · refine g_iload S dX5_reweigh_52 rfl ?_
    refine g_ifb_eq S (tgt := 74) dX5_reweigh_54 (by decide) (fun c_54 => ?_) (fun c_54 => ?_)
    · exact absurd (hv.2.1.symm.trans c_54) (by decide)
    · refine g_aload_n S dX5_reweigh_57 rfl ?_
      refine g_cVr S (k_full l D ty A tE el a h6) (cwV 0 S.2.2.2.2 gX5_reweigh_X5_receiptsAreFull rfl rfl rfl (by decide +kernel) ⟨Nat.le_of_ble_eq_true rfl, Nat.le_of_ble_eq_true rfl⟩) hK hE (fun H h => h) (k6_recv hK h6) rfl (Nat.le_of_ble_eq_true rfl) dX5_reweigh_58 ⟨Nat.le_of_ble_eq_true rfl, Nat.le_of_ble_eq_true rfl⟩ ?_
      refine g_ifb_eq S (tgt := 74) dX5_reweigh_61 (by decide) (fun c_61 => ?_) (fun c_61 => ?_)
      · exact absurd ((nI_80t hv.2.2 hb).symm.trans c_61) (by decide)
      · exact g_throwS S hl (cls := "java/lang/IllegalStateException") (text := "there are eighty receipts") (names := ["java/lang/RuntimeException", "java/lang/Exception"]) (by decide) (by decide) (S.2.2.2.2 _ (List.mem_of_getElem? (i := 1) rfl)) (S.2.2.2.2 _ (List.mem_of_getElem? (i := 2) rfl)) (by decide +kernel) (by decide +kernel) (by decide +kernel) hE (by decide +kernel) dX5_reweigh_64 dX5_reweigh_67 dX5_reweigh_68 dX5_reweigh_70 dX5_reweigh_73 hout rfl rfl ⟨Nat.le_of_ble_eq_true rfl, Nat.le_of_ble_eq_true rfl⟩ ⟨Nat.le_of_ble_eq_true rfl, Nat.le_of_ble_eq_true rfl⟩ hlk (fun H H1 hP hz hq => ⟨rfl, hC_grow hP hz hq⟩) (Nat.le_of_ble_eq_true rfl) (Nat.le_of_ble_eq_true rfl)

set_option maxHeartbeats 1500000 in
set_option maxRecDepth 100000 in
theorem t_reweigh2 (l : Launch) (D : va_G) (ty : Nat → ClassId) (A : Nat → Prop) (hl : l.stackTraces = false) (tE : Nat) (el : Nat → Nat → Nat) (a : CS) (h6 : cOb a 6 0) (hb1 : cL a 1 < 2 ^ 31) {q : Nat} (hq : q < cL a 1) (h2 : cOb a 2 q) (mo9 : Int32) (hv : mIn mo9 50 300 = false) : vx_Met l yX5_reweigh wsX5_reweigh rtX5_reweigh (gPc D ty true cstrs tE A [.ref (el 6 0), .int (nI q), .int mo9] (hC D ty A tE el a)) (gQ A (fun _ _ => False)) (gX A (fun E H => E = "java/lang/IllegalArgumentException" ∧ hC D ty A tE el a H)) 1 6 A := by
  refine g_tMet (cc := cX5_reweigh) (maxL := 6) (ret := (some .int)) [some (.ref (el 6 0)), some (.int (nI q)), some (.int mo9), none, none, none] (by decide) rfl (Nat.le_of_ble_eq_true rfl) rfl ?_
  intro p e s m args below meth c S hlk hout hK hE hP0
  have S : CallFix p m c cX5_reweigh 6 s args wsX5_reweigh RX5 := S
  refine g_aload_n S dX5_reweigh_0 rfl ?_
  refine g_iload_n S dX5_reweigh_1 rfl ?_
  refine g_cVr S (k_findDelivery l D ty A tE el a h6 hb1 hq h2) (cwV 1 S.2.2.2.2 gX5_reweigh_X5_findDelivery rfl rfl rfl (by decide +kernel) ⟨Nat.le_of_ble_eq_true rfl, Nat.le_of_ble_eq_true rfl⟩) hK hE (fun H h => h) (k6_recv hK h6) rfl (Nat.le_of_ble_eq_true rfl) dX5_reweigh_2 ⟨Nat.le_of_ble_eq_true rfl, Nat.le_of_ble_eq_true rfl⟩ ?_
  refine g_astore_n S dX5_reweigh_5 (by decide) rfl ?_
  refine g_iload_n S dX5_reweigh_6 rfl ?_
  refine g_bipush S (v := 50) dX5_reweigh_7 (by decide) ?_
  refine g_sipush S (v := 300) dX5_reweigh_9 (by decide) ?_
  exact g_tcallS S ((t_needRange l D ty A hl tE el a _ (fun H H1 h hz hq => hC_grow h hz hq) _ _ _ (by exact hv))) (va_cwS 3 S.2.2.2.2 gX5_reweigh_X5_needRange rfl rfl rfl (by decide +kernel) ⟨Nat.le_of_ble_eq_true rfl, Nat.le_of_ble_eq_true rfl⟩) hK hE (fun H h => h) rfl (Nat.le_of_ble_eq_true rfl) dX5_reweigh_12 ⟨Nat.le_of_ble_eq_true rfl, Nat.le_of_ble_eq_true rfl⟩ (fun E => g_out hout hlk (fun H h => h) (Nat.le_of_ble_eq_true rfl) (Nat.le_of_ble_eq_true rfl))

set_option maxHeartbeats 1500000 in
set_option maxRecDepth 100000 in
theorem t_reweigh1 (l : Launch) (D : va_G) (ty : Nat → ClassId) (A : Nat → Prop) (hl : l.stackTraces = false) (tE : Nat) (el : Nat → Nat → Nat) (a : CS) (h6 : cOb a 6 0) (hb1 : cL a 1 < 2 ^ 31) (v mo9 : Int32) (hv : ¬ vp_in v (cL a 1)) : vx_Met l yX5_reweigh wsX5_reweigh rtX5_reweigh (gPc D ty true cstrs tE A [.ref (el 6 0), .int v, .int mo9] (hC D ty A tE el a)) (gQ A (fun _ _ => False)) (gX A (fun E H => E = "java/lang/IndexOutOfBoundsException" ∧ hC D ty A tE el a H)) 1 6 A := by
  refine g_tMet (cc := cX5_reweigh) (maxL := 6) (ret := (some .int)) [some (.ref (el 6 0)), some (.int v), some (.int mo9), none, none, none] (by decide) rfl (Nat.le_of_ble_eq_true rfl) rfl ?_
  intro p e s m args below meth c S hlk hout hK hE hP0
  have S : CallFix p m c cX5_reweigh 6 s args wsX5_reweigh RX5 := S
  refine g_aload_n S dX5_reweigh_0 rfl ?_
  refine g_iload_n S dX5_reweigh_1 rfl ?_
  exact g_tcallV S (t_findDelivery l D ty A hl tE el a h6 hb1 _ hv) (cwV 1 S.2.2.2.2 gX5_reweigh_X5_findDelivery rfl rfl rfl (by decide +kernel) ⟨Nat.le_of_ble_eq_true rfl, Nat.le_of_ble_eq_true rfl⟩) hK hE (fun H h => h) (k6_recv hK h6) rfl (Nat.le_of_ble_eq_true rfl) dX5_reweigh_2 ⟨Nat.le_of_ble_eq_true rfl, Nat.le_of_ble_eq_true rfl⟩ (fun E => g_out hout hlk (fun H h => h) (Nat.le_of_ble_eq_true rfl) (Nat.le_of_ble_eq_true rfl))

