theorem nI_80 {n : Nat} (h : n < 80) : ¬ (80 : Int32) ≤ nI n := nI_ge (b := 80) h (by decide)
theorem nI_80f {n : Nat} (h : n < 80) : decide ((80 : Int32) ≤ nI n) = false := decide_eq_false (nI_80 h)
theorem kSplitOff_no (a : CS) (r : Nat) (kg : Int32) : cI (kSplitOff a r kg) 3 0 (cN a 3) = nI (cL a 2) := by
  refine Eq.trans ?_ (kMake_no a (kD a r) (cI a 5 2 (kT a r)) kg)
  simp [kSplitOff, cSI, cSR, u3, cI]
theorem nI_80t {n : Nat} (h : 80 ≤ n) (hb : n < 2 ^ 31) : decide ((80 : Int32) ≤ nI n) = true := decide_eq_true (nI_le (a := 80) h hb)
abbrev rmX5_split : Room := { frames := 9, cells := 3, slots := 164, locals := 238 }
set_option maxHeartbeats 1500000 in
set_option maxRecDepth 100000 in
theorem k_split (l : Launch) (D : va_G) (ty : Nat → ClassId) (A : Nat → Prop) (tE : Nat) (el : Nat → Nat → Nat) (a : CS) (h6 : cOb a 6 0) (hb : cL a 2 < 2 ^ 31) {q : Nat} (hq : q < cL a 2) (h3 : cOb a 3 q) (kg : Int32) (hv1 : mIn kg 1 40000 = true) (ok : cOk a) (hr3 : q < cN a 3) (hLN : cL a 2 = cN a 3) (hv : (¬ cI a 3 3 q ≤ kg ∧ cI a 3 4 q = -1 ∧ cL a 2 < 80)) : Met l yX5_split wsX5_split rmX5_split (gPc D ty true cstrs tE A [.ref (el 6 0), .int (nI q), .int kg] (hC D ty A tE el a)) (gQ A (gRet (some (.int (nI (cL a 2)))) (hX D ty A tE el a (kSplitOff a q kg)))) 3 164 A := by
  refine g_Met (cc := cX5_split) (maxL := 4) (ret := (some .int)) [some (.ref (el 6 0)), some (.int (nI q)), some (.int kg), none] (by decide) rfl (Nat.le_of_ble_eq_true rfl) rfl ?_
  intro p e s m args below meth c S hlk hr hnm hK hE hP0
  have S : CallFix p m c cX5_split 4 s args wsX5_split RX5 := S
  refine g_aload_n S dX5_split_0 rfl ?_
  refine g_iload_n S dX5_split_1 rfl ?_
  refine g_cVr S (k_findReceipt l D ty A tE el a h6 hb hq h3) (cwV 1 S.2.2.2.2 gX5_split_X5_findReceipt rfl rfl rfl (by decide +kernel) ⟨Nat.le_of_ble_eq_true rfl, Nat.le_of_ble_eq_true rfl⟩) hK hE (fun H h => h) (k6_recv hK h6) rfl (Nat.le_of_ble_eq_true rfl) dX5_split_2 ⟨Nat.le_of_ble_eq_true rfl, Nat.le_of_ble_eq_true rfl⟩ ?_
  refine g_astore_n S dX5_split_5 (by decide) rfl ?_
  refine g_iload_n S dX5_split_6 rfl ?_
  refine g_iconst S (v := 1) dX5_split_7 (by decide) ?_
  refine g_ldc S (S.2.2.2.2 _ (List.mem_of_getElem? (i := 3) rfl)) dX5_split_8 ?_
  refine g_cSv S (k_needRange l D ty A tE el a _ _ _ _ (by exact hv1)) (va_cwS 3 S.2.2.2.2 gX5_split_X5_needRange rfl rfl rfl (by decide +kernel) ⟨Nat.le_of_ble_eq_true rfl, Nat.le_of_ble_eq_true rfl⟩) hK hE (fun H h => h) rfl (Nat.le_of_ble_eq_true rfl) dX5_split_10 ⟨Nat.le_of_ble_eq_true rfl, Nat.le_of_ble_eq_true rfl⟩ ?_
  refine g_aload_n S dX5_split_13 rfl ?_
  refine k3_get S hK (by exact h3) 3 (by decide) (S.2.2.2.2 _ (List.mem_of_getElem? (i := 4) rfl)) rfl dX5_split_14 ?_
  refine g_iload_n S dX5_split_17 rfl ?_
  refine g_icmp_le S (tgt := 35) dX5_split_18 (by decide) (fun c_18 => ?_) (fun c_18 => ?_)
  · exact absurd hv (fun z => z.1 c_18)
  · refine g_aload_n S dX5_split_21 rfl ?_
    refine g_cVr S (k_isPledged l D ty A tE el _ (by exact h3)) (cwV 0 S.2.2.2.2 gX5_split_X2_isPledged rfl rfl rfl (by decide +kernel) ⟨Nat.le_of_ble_eq_true rfl, Nat.le_of_ble_eq_true rfl⟩) hK hE (fun H h => h) (k3_recv hK (by exact h3)) rfl (Nat.le_of_ble_eq_true rfl) dX5_split_22 ⟨Nat.le_of_ble_eq_true rfl, Nat.le_of_ble_eq_true rfl⟩ ?_
    refine g_ifb_ne S (tgt := 35) dX5_split_25 (by decide) (fun c_25 => ?_) (fun c_25 => ?_)
    · exact absurd hv (fun z => absurd z.2.1 (of_decide_eq_true c_25))
    · refine g_aload_n S dX5_split_28 rfl ?_
      refine g_cVr S (k_full l D ty A tE el a h6) (cwV 0 S.2.2.2.2 gX5_split_X5_receiptsAreFull rfl rfl rfl (by decide +kernel) ⟨Nat.le_of_ble_eq_true rfl, Nat.le_of_ble_eq_true rfl⟩) hK hE (fun H h => h) (k6_recv hK h6) rfl (Nat.le_of_ble_eq_true rfl) dX5_split_29 ⟨Nat.le_of_ble_eq_true rfl, Nat.le_of_ble_eq_true rfl⟩ ?_
      refine g_ifb_eq S (tgt := 45) dX5_split_32 (by decide) (fun c_32 => ?_) (fun c_32 => ?_)
      · refine g_aload_n S dX5_split_45 rfl ?_
        refine g_aload_n S dX5_split_46 rfl ?_
        refine g_iload_n S dX5_split_47 rfl ?_
        refine g_cVx S (k_splitOff l D ty A tE el a ok hr3 _ hLN (by omega)) (cwV 2 S.2.2.2.2 gX5_split_X5_splitOff rfl rfl rfl (by decide +kernel) ⟨Nat.le_of_ble_eq_true rfl, Nat.le_of_ble_eq_true rfl⟩) hK hE (fun H h => h) (k6_recv hK cOb6) rfl (Nat.le_of_ble_eq_true rfl) dX5_split_48 ⟨Nat.le_of_ble_eq_true rfl, Nat.le_of_ble_eq_true rfl⟩ (fun el1 x1 => ?_)
        refine k3_get S hK (by exact (cOb_le (cNew_le 5) (cOb_nw (a := a) (by decide)))) 0 (by decide) (S.2.2.2.2 _ (List.mem_of_getElem? (i := 5) rfl)) rfl dX5_split_51 ?_
        exact g_iret S hlk hr (fun H h => ⟨congrArg (fun x => some (Value.int x)) (kSplitOff_no _ _ _), el1, x1, h⟩) (Nat.le_of_ble_eq_true rfl) (Nat.le_of_ble_eq_true rfl) dX5_split_54
      · exact absurd hv (fun z => absurd (nI_80f z.2.2) (fun w => absurd (w.symm.trans c_32) (by decide)))

abbrev rtX5_split : Room := { frames := 8, cells := 1, slots := 6, locals := 300 }
set_option maxHeartbeats 1500000 in
set_option maxRecDepth 100000 in
theorem t_split3 (l : Launch) (D : va_G) (ty : Nat → ClassId) (A : Nat → Prop) (hl : l.stackTraces = false) (tE : Nat) (el : Nat → Nat → Nat) (a : CS) (h6 : cOb a 6 0) (hb : cL a 2 < 2 ^ 31) {q : Nat} (hq : q < cL a 2) (h3 : cOb a 3 q) (kg : Int32) (hv1 : mIn kg 1 40000 = true) (hv : ¬ (¬ cI a 3 3 q ≤ kg ∧ cI a 3 4 q = -1 ∧ cL a 2 < 80)) : vx_Met l yX5_split wsX5_split rtX5_split (gPc D ty true cstrs tE A [.ref (el 6 0), .int (nI q), .int kg] (hC D ty A tE el a)) (gQ A (fun _ _ => False)) (gX A (fun E H => E = "java/lang/IllegalStateException" ∧ hC D ty A tE el a H)) 1 6 A := by
  refine g_tMet (cc := cX5_split) (maxL := 4) (ret := (some .int)) [some (.ref (el 6 0)), some (.int (nI q)), some (.int kg), none] (by decide) rfl (Nat.le_of_ble_eq_true rfl) rfl ?_
  intro p e s m args below meth c S hlk hout hK hE hP0
  have S : CallFix p m c cX5_split 4 s args wsX5_split RX5 := S
  refine g_aload_n S dX5_split_0 rfl ?_
  refine g_iload_n S dX5_split_1 rfl ?_
  refine g_cVr S (k_findReceipt l D ty A tE el a h6 hb hq h3) (cwV 1 S.2.2.2.2 gX5_split_X5_findReceipt rfl rfl rfl (by decide +kernel) ⟨Nat.le_of_ble_eq_true rfl, Nat.le_of_ble_eq_true rfl⟩) hK hE (fun H h => h) (k6_recv hK h6) rfl (Nat.le_of_ble_eq_true rfl) dX5_split_2 ⟨Nat.le_of_ble_eq_true rfl, Nat.le_of_ble_eq_true rfl⟩ ?_
  refine g_astore_n S dX5_split_5 (by decide) rfl ?_
  refine g_iload_n S dX5_split_6 rfl ?_
  refine g_iconst S (v := 1) dX5_split_7 (by decide) ?_
  refine g_ldc S (S.2.2.2.2 _ (List.mem_of_getElem? (i := 3) rfl)) dX5_split_8 ?_
  refine g_cSv S (k_needRange l D ty A tE el a _ _ _ _ (by exact hv1)) (va_cwS 3 S.2.2.2.2 gX5_split_X5_needRange rfl rfl rfl (by decide +kernel) ⟨Nat.le_of_ble_eq_true rfl, Nat.le_of_ble_eq_true rfl⟩) hK hE (fun H h => h) rfl (Nat.le_of_ble_eq_true rfl) dX5_split_10 ⟨Nat.le_of_ble_eq_true rfl, Nat.le_of_ble_eq_true rfl⟩ ?_
  refine g_aload_n S dX5_split_13 rfl ?_
  refine k3_get S hK (by exact h3) 3 (by decide) (S.2.2.2.2 _ (List.mem_of_getElem? (i := 4) rfl)) rfl dX5_split_14 ?_
  refine g_iload_n S dX5_split_17 rfl ?_
  refine g_icmp_le S (tgt := 35) dX5_split_18 (by decide) (fun c_18 => ?_) (fun c_18 => ?_)
  · exact g_throwS S hl (cls := "java/lang/IllegalStateException") (text := "the receipt cannot be split") (names := ["java/lang/RuntimeException", "java/lang/Exception"]) (by decide) (by decide) (S.2.2.2.2 _ (List.mem_of_getElem? (i := 1) rfl)) (S.2.2.2.2 _ (List.mem_of_getElem? (i := 2) rfl)) (by decide +kernel) (by decide +kernel) (by decide +kernel) hE (by decide +kernel) dX5_split_35 dX5_split_38 dX5_split_39 dX5_split_41 dX5_split_44 hout rfl rfl ⟨Nat.le_of_ble_eq_true rfl, Nat.le_of_ble_eq_true rfl⟩ ⟨Nat.le_of_ble_eq_true rfl, Nat.le_of_ble_eq_true rfl⟩ hlk (fun H H1 hP hz hq => ⟨rfl, hC_grow hP hz hq⟩) (Nat.le_of_ble_eq_true rfl) (Nat.le_of_ble_eq_true rfl)
  · refine g_aload_n S dX5_split_21 rfl ?_
    refine g_cVr S (k_isPledged l D ty A tE el _ (by exact h3)) (cwV 0 S.2.2.2.2 gX5_split_X2_isPledged rfl rfl rfl (by decide +kernel) ⟨Nat.le_of_ble_eq_true rfl, Nat.le_of_ble_eq_true rfl⟩) hK hE (fun H h => h) (k3_recv hK (by exact h3)) rfl (Nat.le_of_ble_eq_true rfl) dX5_split_22 ⟨Nat.le_of_ble_eq_true rfl, Nat.le_of_ble_eq_true rfl⟩ ?_
    refine g_ifb_ne S (tgt := 35) dX5_split_25 (by decide) (fun c_25 => ?_) (fun c_25 => ?_)
    · exact g_throwS S hl (cls := "java/lang/IllegalStateException") (text := "the receipt cannot be split") (names := ["java/lang/RuntimeException", "java/lang/Exception"]) (by decide) (by decide) (S.2.2.2.2 _ (List.mem_of_getElem? (i := 1) rfl)) (S.2.2.2.2 _ (List.mem_of_getElem? (i := 2) rfl)) (by decide +kernel) (by decide +kernel) (by decide +kernel) hE (by decide +kernel) dX5_split_35 dX5_split_38 dX5_split_39 dX5_split_41 dX5_split_44 hout rfl rfl ⟨Nat.le_of_ble_eq_true rfl, Nat.le_of_ble_eq_true rfl⟩ ⟨Nat.le_of_ble_eq_true rfl, Nat.le_of_ble_eq_true rfl⟩ hlk (fun H H1 hP hz hq => ⟨rfl, hC_grow hP hz hq⟩) (Nat.le_of_ble_eq_true rfl) (Nat.le_of_ble_eq_true rfl)
    · refine g_aload_n S dX5_split_28 rfl ?_
      refine g_cVr S (k_full l D ty A tE el a h6) (cwV 0 S.2.2.2.2 gX5_split_X5_receiptsAreFull rfl rfl rfl (by decide +kernel) ⟨Nat.le_of_ble_eq_true rfl, Nat.le_of_ble_eq_true rfl⟩) hK hE (fun H h => h) (k6_recv hK h6) rfl (Nat.le_of_ble_eq_true rfl) dX5_split_29 ⟨Nat.le_of_ble_eq_true rfl, Nat.le_of_ble_eq_true rfl⟩ ?_
      refine g_ifb_eq S (tgt := 45) dX5_split_32 (by decide) (fun c_32 => ?_) (fun c_32 => ?_)
      · exact absurd ⟨c_18, Decidable.of_not_not (of_decide_eq_false c_25), Nat.not_le.mp (fun w => absurd ((nI_80t w hb).symm.trans c_32) (by decide))⟩ hv
      · exact g_throwS S hl (cls := "java/lang/IllegalStateException") (text := "the receipt cannot be split") (names := ["java/lang/RuntimeException", "java/lang/Exception"]) (by decide) (by decide) (S.2.2.2.2 _ (List.mem_of_getElem? (i := 1) rfl)) (S.2.2.2.2 _ (List.mem_of_getElem? (i := 2) rfl)) (by decide +kernel) (by decide +kernel) (by decide +kernel) hE (by decide +kernel) dX5_split_35 dX5_split_38 dX5_split_39 dX5_split_41 dX5_split_44 hout rfl rfl ⟨Nat.le_of_ble_eq_true rfl, Nat.le_of_ble_eq_true rfl⟩ ⟨Nat.le_of_ble_eq_true rfl, Nat.le_of_ble_eq_true rfl⟩ hlk (fun H H1 hP hz hq => ⟨rfl, hC_grow hP hz hq⟩) (Nat.le_of_ble_eq_true rfl) (Nat.le_of_ble_eq_true rfl)

set_option maxHeartbeats 1500000 in
set_option maxRecDepth 100000 in
theorem t_split2 (l : Launch) (D : va_G) (ty : Nat → ClassId) (A : Nat → Prop) (hl : l.stackTraces = false) (tE : Nat) (el : Nat → Nat → Nat) (a : CS) (h6 : cOb a 6 0) (hb : cL a 2 < 2 ^ 31) {q : Nat} (hq : q < cL a 2) (h3 : cOb a 3 q) (kg : Int32) (hv : mIn kg 1 40000 = false) : vx_Met l yX5_split wsX5_split rtX5_split (gPc D ty true cstrs tE A [.ref (el 6 0), .int (nI q), .int kg] (hC D ty A tE el a)) (gQ A (fun _ _ => False)) (gX A (fun E H => E = "java/lang/IllegalArgumentException" ∧ hC D ty A tE el a H)) 1 6 A := by
  refine g_tMet (cc := cX5_split) (maxL := 4) (ret := (some .int)) [some (.ref (el 6 0)), some (.int (nI q)), some (.int kg), none] (by decide) rfl (Nat.le_of_ble_eq_true rfl) rfl ?_
  intro p e s m args below meth c S hlk hout hK hE hP0
  have S : CallFix p m c cX5_split 4 s args wsX5_split RX5 := S
  refine g_aload_n S dX5_split_0 rfl ?_
  refine g_iload_n S dX5_split_1 rfl ?_
  refine g_cVr S (k_findReceipt l D ty A tE el a h6 hb hq h3) (cwV 1 S.2.2.2.2 gX5_split_X5_findReceipt rfl rfl rfl (by decide +kernel) ⟨Nat.le_of_ble_eq_true rfl, Nat.le_of_ble_eq_true rfl⟩) hK hE (fun H h => h) (k6_recv hK h6) rfl (Nat.le_of_ble_eq_true rfl) dX5_split_2 ⟨Nat.le_of_ble_eq_true rfl, Nat.le_of_ble_eq_true rfl⟩ ?_
  refine g_astore_n S dX5_split_5 (by decide) rfl ?_
  refine g_iload_n S dX5_split_6 rfl ?_
  refine g_iconst S (v := 1) dX5_split_7 (by decide) ?_
  refine g_ldc S (S.2.2.2.2 _ (List.mem_of_getElem? (i := 3) rfl)) dX5_split_8 ?_
  exact g_tcallS S ((t_needRange l D ty A hl tE el a _ (fun H H1 h hz hq => hC_grow h hz hq) _ _ _ (by exact hv))) (va_cwS 3 S.2.2.2.2 gX5_split_X5_needRange rfl rfl rfl (by decide +kernel) ⟨Nat.le_of_ble_eq_true rfl, Nat.le_of_ble_eq_true rfl⟩) hK hE (fun H h => h) rfl (Nat.le_of_ble_eq_true rfl) dX5_split_10 ⟨Nat.le_of_ble_eq_true rfl, Nat.le_of_ble_eq_true rfl⟩ (fun E => g_out hout hlk (fun H h => h) (Nat.le_of_ble_eq_true rfl) (Nat.le_of_ble_eq_true rfl))

set_option maxHeartbeats 1500000 in
set_option maxRecDepth 100000 in
theorem t_split1 (l : Launch) (D : va_G) (ty : Nat → ClassId) (A : Nat → Prop) (hl : l.stackTraces = false) (tE : Nat) (el : Nat → Nat → Nat) (a : CS) (h6 : cOb a 6 0) (hb : cL a 2 < 2 ^ 31) (v kg : Int32) (hv : ¬ vp_in v (cL a 2)) : vx_Met l yX5_split wsX5_split rtX5_split (gPc D ty true cstrs tE A [.ref (el 6 0), .int v, .int kg] (hC D ty A tE el a)) (gQ A (fun _ _ => False)) (gX A (fun E H => E = "java/lang/IndexOutOfBoundsException" ∧ hC D ty A tE el a H)) 1 6 A := by
  refine g_tMet (cc := cX5_split) (maxL := 4) (ret := (some .int)) [some (.ref (el 6 0)), some (.int v), some (.int kg), none] (by decide) rfl (Nat.le_of_ble_eq_true rfl) rfl ?_
  intro p e s m args below meth c S hlk hout hK hE hP0
  have S : CallFix p m c cX5_split 4 s args wsX5_split RX5 := S
  refine g_aload_n S dX5_split_0 rfl ?_
  refine g_iload_n S dX5_split_1 rfl ?_
  exact g_tcallV S (t_findReceipt l D ty A hl tE el a h6 hb _ hv) (cwV 1 S.2.2.2.2 gX5_split_X5_findReceipt rfl rfl rfl (by decide +kernel) ⟨Nat.le_of_ble_eq_true rfl, Nat.le_of_ble_eq_true rfl⟩) hK hE (fun H h => h) (k6_recv hK h6) rfl (Nat.le_of_ble_eq_true rfl) dX5_split_2 ⟨Nat.le_of_ble_eq_true rfl, Nat.le_of_ble_eq_true rfl⟩ (fun E => g_out hout hlk (fun H h => h) (Nat.le_of_ble_eq_true rfl) (Nat.le_of_ble_eq_true rfl))

def kSell (a : CS) (r : Nat) (to cents : Int32) : CS := kCh (kPayT a to (cI a 5 2 (kT a r)) cents.toInt64) r to
theorem pc_of {a a' : CS} (h : a'.1 = a.1) : pc a' = pc a ∧ ps a' = ps a := by
  unfold pc ps cN
  rw [h]
  exact ⟨rfl, rfl⟩
abbrev rmX5_sell : Room := { frames := 4, cells := 1, slots := 3, locals := 85 }
set_option maxHeartbeats 1500000 in
set_option maxRecDepth 100000 in
theorem k_sell (l : Launch) (D : va_G) (ty : Nat → ClassId) (A : Nat → Prop) (tE : Nat) (el : Nat → Nat → Nat) (a : CS) (h6 : cOb a 6 0) (hb : cL a 2 < 2 ^ 31) {q : Nat} (hq : q < cL a 2) (h3 : cOb a 3 q) (to cents : Int32) (hv1 : mIn to 0 5 = true) (hv2 : mIn cents 0 10000000 = true) (ok : cOk a) (hr3 : q < cN a 3) (hv : (0 < cI a 3 3 q ∧ cI a 3 4 q = -1 ∧ ¬ cI a 5 2 (kT a q) = to)) : Met l yX5_sell wsX5_sell rmX5_sell (gPc D ty true cstrs tE A [.ref (el 6 0), .int (nI q), .int to, .int cents] (hC D ty A tE el a)) (gQ A (gRet (some (.int (cI a 5 2 (kT a q)))) (hX D ty A tE el a (kSell a q to cents)))) 1 3 A := by
  refine g_Met (cc := cX5_sell) (maxL := 6) (ret := (some .int)) [some (.ref (el 6 0)), some (.int (nI q)), some (.int to), some (.int cents), none, none] (by decide) rfl (Nat.le_of_ble_eq_true rfl) rfl ?_
  intro p e s m args below meth c S hlk hr hnm hK hE hP0
  have S : CallFix p m c cX5_sell 6 s args wsX5_sell RX5 := S
  have hr9 := ok.1.1 q hr3
  have ht := hr9.2.2.1
  have h5 : cOb a 5 (kT a q) := Or.inl ⟨by decide, hr9.2.2.2⟩
  refine g_aload_n S dX5_sell_0 rfl ?_
  refine g_iload_n S dX5_sell_1 rfl ?_
  refine g_cVr S (k_findReceipt l D ty A tE el a h6 hb hq h3) (cwV 1 S.2.2.2.2 gX5_sell_X5_findReceipt rfl rfl rfl (by decide +kernel) ⟨Nat.le_of_ble_eq_true rfl, Nat.le_of_ble_eq_true rfl⟩) hK hE (fun H h => h) (k6_recv hK h6) rfl (Nat.le_of_ble_eq_true rfl) dX5_sell_2 ⟨Nat.le_of_ble_eq_true rfl, Nat.le_of_ble_eq_true rfl⟩ ?_
  refine g_astore S dX5_sell_5 (by decide) rfl ?_
  refine g_iload_n S dX5_sell_7 rfl ?_
  refine g_iconst S (v := 0) dX5_sell_8 (by decide) ?_
  refine g_iconst S (v := 5) dX5_sell_9 (by decide) ?_
  refine g_cSv S (k_needRange l D ty A tE el a _ _ _ _ (by exact hv1)) (va_cwS 3 S.2.2.2.2 gX5_sell_X5_needRange rfl rfl rfl (by decide +kernel) ⟨Nat.le_of_ble_eq_true rfl, Nat.le_of_ble_eq_true rfl⟩) hK hE (fun H h => h) rfl (Nat.le_of_ble_eq_true rfl) dX5_sell_10 ⟨Nat.le_of_ble_eq_true rfl, Nat.le_of_ble_eq_true rfl⟩ ?_
  refine g_iload_n S dX5_sell_13 rfl ?_
  refine g_iconst S (v := 0) dX5_sell_14 (by decide) ?_
  refine g_ldc S (S.2.2.2.2 _ (List.mem_of_getElem? (i := 1) rfl)) dX5_sell_15 ?_
  refine g_cSv S (k_needRange l D ty A tE el a _ _ _ _ (by exact hv2)) (va_cwS 3 S.2.2.2.2 gX5_sell_X5_needRange rfl rfl rfl (by decide +kernel) ⟨Nat.le_of_ble_eq_true rfl, Nat.le_of_ble_eq_true rfl⟩) hK hE (fun H h => h) rfl (Nat.le_of_ble_eq_true rfl) dX5_sell_17 ⟨Nat.le_of_ble_eq_true rfl, Nat.le_of_ble_eq_true rfl⟩ ?_
  refine g_aload S dX5_sell_20 rfl ?_
  refine g_iload_n S dX5_sell_22 rfl ?_
  refine g_cSv S (k_needFreeFor l D ty A tE el a h3 ht h5 _ hv) (va_cwS 2 S.2.2.2.2 gX5_sell_X5_needFreeFor rfl rfl rfl (by decide +kernel) ⟨Nat.le_of_ble_eq_true rfl, Nat.le_of_ble_eq_true rfl⟩) hK hE (fun H h => h) rfl (Nat.le_of_ble_eq_true rfl) dX5_sell_23 ⟨Nat.le_of_ble_eq_true rfl, Nat.le_of_ble_eq_true rfl⟩ ?_
  refine g_aload S dX5_sell_26 rfl ?_
  refine g_cVr S (k_holder l D ty A tE el a h3 ht h5) (cwV 0 S.2.2.2.2 gX5_sell_X2_holder rfl rfl rfl (by decide +kernel) ⟨Nat.le_of_ble_eq_true rfl, Nat.le_of_ble_eq_true rfl⟩) hK hE (fun H h => h) (k3_recv hK h3) rfl (Nat.le_of_ble_eq_true rfl) dX5_sell_28 ⟨Nat.le_of_ble_eq_true rfl, Nat.le_of_ble_eq_true rfl⟩ ?_
  refine g_istore S dX5_sell_31 (by decide) rfl ?_
  refine g_aload_n S dX5_sell_33 rfl ?_
  refine g_iload_n S dX5_sell_34 rfl ?_
  refine g_iload S dX5_sell_35 rfl ?_
  refine g_iload_n S dX5_sell_37 rfl ?_
  refine g_i2l S dX5_sell_38 ?_
  refine g_cVv S (k_payT l D ty A tE el a h6 _ _ _) (cwV 3 S.2.2.2.2 gX5_sell_X5_pay rfl rfl rfl (by decide +kernel) ⟨Nat.le_of_ble_eq_true rfl, Nat.le_of_ble_eq_true rfl⟩) hK hE (fun H h => h) (k6_recv hK h6) rfl (Nat.le_of_ble_eq_true rfl) dX5_sell_39 ⟨Nat.le_of_ble_eq_true rfl, Nat.le_of_ble_eq_true rfl⟩ ?_
  refine g_aload_n S dX5_sell_42 rfl ?_
  refine g_aload S dX5_sell_43 rfl ?_
  refine g_iload_n S dX5_sell_45 rfl ?_
  refine g_cVh S (k_ch l D ty A tE el (kPayT a to (cI a 5 2 (kT a q)) cents.toInt64) cOb6 (r := q) (cOb_of (kPayT_same a to (cI a 5 2 (kT a q)) cents.toInt64).1 h3) to (ok.of (kPayT_same a to (cI a 5 2 (kT a q)) cents.toInt64).1 (kPayT_same a to (cI a 5 2 (kT a q)) cents.toInt64).2.1 (kPayT_same a to (cI a 5 2 (kT a q)) cents.toInt64).2.2.1) (by rw [show cN (kPayT a to (cI a 5 2 (kT a q)) cents.toInt64) 3 = cN a 3 from congrFun (kPayT_same a to (cI a 5 2 (kT a q)) cents.toInt64).1 3]; exact hr3)) (cwV 2 S.2.2.2.2 gX5_sell_X5_changeHolder rfl rfl rfl (by decide +kernel) ⟨Nat.le_of_ble_eq_true rfl, Nat.le_of_ble_eq_true rfl⟩) hK hE (fun H h => h) (k6_recv hK cOb6) rfl (Nat.le_of_ble_eq_true rfl) dX5_sell_46 ⟨by show 0 + (pc (kCh (kPayT a to (cI a 5 2 (kT a q)) cents.toInt64) q to) - pc (kPayT a to (cI a 5 2 (kT a q)) cents.toInt64)) ≤ 1; have := kCh_pc (kPayT a to (cI a 5 2 (kT a q)) cents.toInt64) q to; omega, by show 0 + (ps (kCh (kPayT a to (cI a 5 2 (kT a q)) cents.toInt64) q to) - ps (kPayT a to (cI a 5 2 (kT a q)) cents.toInt64)) ≤ 3; have := kCh_pc (kPayT a to (cI a 5 2 (kT a q)) cents.toInt64) q to; omega⟩ (fun el1 x1 => ?_)
  refine g_iload S dX5_sell_49 rfl ?_
  exact g_iret S hlk hr (fun H h => ⟨rfl, el1, elX.tr2 (a := a) (a1 := (kPayT a to (cI a 5 2 (kT a q)) cents.toInt64)) elX.rf x1 (fun t => by rw [show cN (kPayT a to (cI a 5 2 (kT a q)) cents.toInt64) t = cN a t from congrFun (kPayT_same a to (cI a 5 2 (kT a q)) cents.toInt64).1 t]; exact Nat.le_refl _), h⟩) (by show 0 + (pc (kCh (kPayT a to (cI a 5 2 (kT a q)) cents.toInt64) q to) - pc (kPayT a to (cI a 5 2 (kT a q)) cents.toInt64)) ≤ 1; have := kCh_pc (kPayT a to (cI a 5 2 (kT a q)) cents.toInt64) q to; omega) (by show 0 + (ps (kCh (kPayT a to (cI a 5 2 (kT a q)) cents.toInt64) q to) - ps (kPayT a to (cI a 5 2 (kT a q)) cents.toInt64)) ≤ 3; have := kCh_pc (kPayT a to (cI a 5 2 (kT a q)) cents.toInt64) q to; omega) dX5_sell_51

abbrev rtX5_sell : Room := { frames := 8, cells := 1, slots := 6, locals := 300 }
set_option maxHeartbeats 1500000 in
set_option maxRecDepth 100000 in
theorem t_sell3 (l : Launch) (D : va_G) (ty : Nat → ClassId) (A : Nat → Prop) (hl : l.stackTraces = false) (tE : Nat) (el : Nat → Nat → Nat) (a : CS) (h6 : cOb a 6 0) (hb : cL a 2 < 2 ^ 31) {q : Nat} (hq : q < cL a 2) (h3 : cOb a 3 q) (to cents : Int32) (hv1 : mIn to 0 5 = true) (hv2 : mIn cents 0 10000000 = true) (ht : cR a 3 2 q = some (kT a q)) (h5 : cOb a 5 (kT a q)) (hv : ¬ (0 < cI a 3 3 q ∧ cI a 3 4 q = -1 ∧ ¬ cI a 5 2 (kT a q) = to)) : vx_Met l yX5_sell wsX5_sell rtX5_sell (gPc D ty true cstrs tE A [.ref (el 6 0), .int (nI q), .int to, .int cents] (hC D ty A tE el a)) (gQ A (fun _ _ => False)) (gX A (fun E H => E = "java/lang/IllegalStateException" ∧ hC D ty A tE el a H)) 1 6 A := by
  refine g_tMet (cc := cX5_sell) (maxL := 6) (ret := (some .int)) [some (.ref (el 6 0)), some (.int (nI q)), some (.int to), some (.int cents), none, none] (by decide) rfl (Nat.le_of_ble_eq_true rfl) rfl ?_
  intro p e s m args below meth c S hlk hout hK hE hP0
  have S : CallFix p m c cX5_sell 6 s args wsX5_sell RX5 := S
  refine g_aload_n S dX5_sell_0 rfl ?_
  refine g_iload_n S dX5_sell_1 rfl ?_
  refine g_cVr S (k_findReceipt l D ty A tE el a h6 hb hq h3) (cwV 1 S.2.2.2.2 gX5_sell_X5_findReceipt rfl rfl rfl (by decide +kernel) ⟨Nat.le_of_ble_eq_true rfl, Nat.le_of_ble_eq_true rfl⟩) hK hE (fun H h => h) (k6_recv hK h6) rfl (Nat.le_of_ble_eq_true rfl) dX5_sell_2 ⟨Nat.le_of_ble_eq_true rfl, Nat.le_of_ble_eq_true rfl⟩ ?_
  refine g_astore S dX5_sell_5 (by decide) rfl ?_
  refine g_iload_n S dX5_sell_7 rfl ?_
  refine g_iconst S (v := 0) dX5_sell_8 (by decide) ?_
  refine g_iconst S (v := 5) dX5_sell_9 (by decide) ?_
  refine g_cSv S (k_needRange l D ty A tE el a _ _ _ _ (by exact hv1)) (va_cwS 3 S.2.2.2.2 gX5_sell_X5_needRange rfl rfl rfl (by decide +kernel) ⟨Nat.le_of_ble_eq_true rfl, Nat.le_of_ble_eq_true rfl⟩) hK hE (fun H h => h) rfl (Nat.le_of_ble_eq_true rfl) dX5_sell_10 ⟨Nat.le_of_ble_eq_true rfl, Nat.le_of_ble_eq_true rfl⟩ ?_
  refine g_iload_n S dX5_sell_13 rfl ?_
  refine g_iconst S (v := 0) dX5_sell_14 (by decide) ?_
  refine g_ldc S (S.2.2.2.2 _ (List.mem_of_getElem? (i := 1) rfl)) dX5_sell_15 ?_
  refine g_cSv S (k_needRange l D ty A tE el a _ _ _ _ (by exact hv2)) (va_cwS 3 S.2.2.2.2 gX5_sell_X5_needRange rfl rfl rfl (by decide +kernel) ⟨Nat.le_of_ble_eq_true rfl, Nat.le_of_ble_eq_true rfl⟩) hK hE (fun H h => h) rfl (Nat.le_of_ble_eq_true rfl) dX5_sell_17 ⟨Nat.le_of_ble_eq_true rfl, Nat.le_of_ble_eq_true rfl⟩ ?_
  refine g_aload S dX5_sell_20 rfl ?_
  refine g_iload_n S dX5_sell_22 rfl ?_
  exact g_tcallS S ((t_needFreeFor l D ty A hl tE el a h3 ht h5 _ hv)) (va_cwS 2 S.2.2.2.2 gX5_sell_X5_needFreeFor rfl rfl rfl (by decide +kernel) ⟨Nat.le_of_ble_eq_true rfl, Nat.le_of_ble_eq_true rfl⟩) hK hE (fun H h => h) rfl (Nat.le_of_ble_eq_true rfl) dX5_sell_23 ⟨Nat.le_of_ble_eq_true rfl, Nat.le_of_ble_eq_true rfl⟩ (fun E => g_out hout hlk (fun H h => h) (Nat.le_of_ble_eq_true rfl) (Nat.le_of_ble_eq_true rfl))

set_option maxHeartbeats 1500000 in
set_option maxRecDepth 100000 in
theorem t_sell20 (l : Launch) (D : va_G) (ty : Nat → ClassId) (A : Nat → Prop) (hl : l.stackTraces = false) (tE : Nat) (el : Nat → Nat → Nat) (a : CS) (h6 : cOb a 6 0) (hb : cL a 2 < 2 ^ 31) {q : Nat} (hq : q < cL a 2) (h3 : cOb a 3 q) (to cents : Int32)  (hv : mIn to 0 5 = false) : vx_Met l yX5_sell wsX5_sell rtX5_sell (gPc D ty true cstrs tE A [.ref (el 6 0), .int (nI q), .int to, .int cents] (hC D ty A tE el a)) (gQ A (fun _ _ => False)) (gX A (fun E H => E = "java/lang/IllegalArgumentException" ∧ hC D ty A tE el a H)) 1 6 A := by
  refine g_tMet (cc := cX5_sell) (maxL := 6) (ret := (some .int)) [some (.ref (el 6 0)), some (.int (nI q)), some (.int to), some (.int cents), none, none] (by decide) rfl (Nat.le_of_ble_eq_true rfl) rfl ?_
  intro p e s m args below meth c S hlk hout hK hE hP0
  have S : CallFix p m c cX5_sell 6 s args wsX5_sell RX5 := S
  refine g_aload_n S dX5_sell_0 rfl ?_
  refine g_iload_n S dX5_sell_1 rfl ?_
  refine g_cVr S (k_findReceipt l D ty A tE el a h6 hb hq h3) (cwV 1 S.2.2.2.2 gX5_sell_X5_findReceipt rfl rfl rfl (by decide +kernel) ⟨Nat.le_of_ble_eq_true rfl, Nat.le_of_ble_eq_true rfl⟩) hK hE (fun H h => h) (k6_recv hK h6) rfl (Nat.le_of_ble_eq_true rfl) dX5_sell_2 ⟨Nat.le_of_ble_eq_true rfl, Nat.le_of_ble_eq_true rfl⟩ ?_
  refine g_astore S dX5_sell_5 (by decide) rfl ?_
  refine g_iload_n S dX5_sell_7 rfl ?_
  refine g_iconst S (v := 0) dX5_sell_8 (by decide) ?_
  refine g_iconst S (v := 5) dX5_sell_9 (by decide) ?_
  exact g_tcallS S ((t_needRange l D ty A hl tE el a _ (fun H H1 h hz hq => hC_grow h hz hq) _ _ _ (by exact hv))) (va_cwS 3 S.2.2.2.2 gX5_sell_X5_needRange rfl rfl rfl (by decide +kernel) ⟨Nat.le_of_ble_eq_true rfl, Nat.le_of_ble_eq_true rfl⟩) hK hE (fun H h => h) rfl (Nat.le_of_ble_eq_true rfl) dX5_sell_10 ⟨Nat.le_of_ble_eq_true rfl, Nat.le_of_ble_eq_true rfl⟩ (fun E => g_out hout hlk (fun H h => h) (Nat.le_of_ble_eq_true rfl) (Nat.le_of_ble_eq_true rfl))

set_option maxHeartbeats 1500000 in
set_option maxRecDepth 100000 in
theorem t_sell21 (l : Launch) (D : va_G) (ty : Nat → ClassId) (A : Nat → Prop) (hl : l.stackTraces = false) (tE : Nat) (el : Nat → Nat → Nat) (a : CS) (h6 : cOb a 6 0) (hb : cL a 2 < 2 ^ 31) {q : Nat} (hq : q < cL a 2) (h3 : cOb a 3 q) (to cents : Int32) (hv1 : mIn to 0 5 = true) (hv : mIn cents 0 10000000 = false) : vx_Met l yX5_sell wsX5_sell rtX5_sell (gPc D ty true cstrs tE A [.ref (el 6 0), .int (nI q), .int to, .int cents] (hC D ty A tE el a)) (gQ A (fun _ _ => False)) (gX A (fun E H => E = "java/lang/IllegalArgumentException" ∧ hC D ty A tE el a H)) 1 6 A := by
  refine g_tMet (cc := cX5_sell) (maxL := 6) (ret := (some .int)) [some (.ref (el 6 0)), some (.int (nI q)), some (.int to), some (.int cents), none, none] (by decide) rfl (Nat.le_of_ble_eq_true rfl) rfl ?_
  intro p e s m args below meth c S hlk hout hK hE hP0
  have S : CallFix p m c cX5_sell 6 s args wsX5_sell RX5 := S
  refine g_aload_n S dX5_sell_0 rfl ?_
  refine g_iload_n S dX5_sell_1 rfl ?_
  refine g_cVr S (k_findReceipt l D ty A tE el a h6 hb hq h3) (cwV 1 S.2.2.2.2 gX5_sell_X5_findReceipt rfl rfl rfl (by decide +kernel) ⟨Nat.le_of_ble_eq_true rfl, Nat.le_of_ble_eq_true rfl⟩) hK hE (fun H h => h) (k6_recv hK h6) rfl (Nat.le_of_ble_eq_true rfl) dX5_sell_2 ⟨Nat.le_of_ble_eq_true rfl, Nat.le_of_ble_eq_true rfl⟩ ?_
  refine g_astore S dX5_sell_5 (by decide) rfl ?_
  refine g_iload_n S dX5_sell_7 rfl ?_
  refine g_iconst S (v := 0) dX5_sell_8 (by decide) ?_
  refine g_iconst S (v := 5) dX5_sell_9 (by decide) ?_
  refine g_cSv S (k_needRange l D ty A tE el a _ _ _ _ (by exact hv1)) (va_cwS 3 S.2.2.2.2 gX5_sell_X5_needRange rfl rfl rfl (by decide +kernel) ⟨Nat.le_of_ble_eq_true rfl, Nat.le_of_ble_eq_true rfl⟩) hK hE (fun H h => h) rfl (Nat.le_of_ble_eq_true rfl) dX5_sell_10 ⟨Nat.le_of_ble_eq_true rfl, Nat.le_of_ble_eq_true rfl⟩ ?_
  refine g_iload_n S dX5_sell_13 rfl ?_
  refine g_iconst S (v := 0) dX5_sell_14 (by decide) ?_
  refine g_ldc S (S.2.2.2.2 _ (List.mem_of_getElem? (i := 1) rfl)) dX5_sell_15 ?_
  exact g_tcallS S ((t_needRange l D ty A hl tE el a _ (fun H H1 h hz hq => hC_grow h hz hq) _ _ _ (by exact hv))) (va_cwS 3 S.2.2.2.2 gX5_sell_X5_needRange rfl rfl rfl (by decide +kernel) ⟨Nat.le_of_ble_eq_true rfl, Nat.le_of_ble_eq_true rfl⟩) hK hE (fun H h => h) rfl (Nat.le_of_ble_eq_true rfl) dX5_sell_17 ⟨Nat.le_of_ble_eq_true rfl, Nat.le_of_ble_eq_true rfl⟩ (fun E => g_out hout hlk (fun H h => h) (Nat.le_of_ble_eq_true rfl) (Nat.le_of_ble_eq_true rfl))

set_option maxHeartbeats 1500000 in
set_option maxRecDepth 100000 in
theorem t_sell1 (l : Launch) (D : va_G) (ty : Nat → ClassId) (A : Nat → Prop) (hl : l.stackTraces = false) (tE : Nat) (el : Nat → Nat → Nat) (a : CS) (h6 : cOb a 6 0) (hb : cL a 2 < 2 ^ 31) (v to cents : Int32) (hv : ¬ vp_in v (cL a 2)) : vx_Met l yX5_sell wsX5_sell rtX5_sell (gPc D ty true cstrs tE A [.ref (el 6 0), .int v, .int to, .int cents] (hC D ty A tE el a)) (gQ A (fun _ _ => False)) (gX A (fun E H => E = "java/lang/IndexOutOfBoundsException" ∧ hC D ty A tE el a H)) 1 6 A := by
  refine g_tMet (cc := cX5_sell) (maxL := 6) (ret := (some .int)) [some (.ref (el 6 0)), some (.int v), some (.int to), some (.int cents), none, none] (by decide) rfl (Nat.le_of_ble_eq_true rfl) rfl ?_
  intro p e s m args below meth c S hlk hout hK hE hP0
  have S : CallFix p m c cX5_sell 6 s args wsX5_sell RX5 := S
  refine g_aload_n S dX5_sell_0 rfl ?_
  refine g_iload_n S dX5_sell_1 rfl ?_
  exact g_tcallV S (t_findReceipt l D ty A hl tE el a h6 hb _ hv) (cwV 1 S.2.2.2.2 gX5_sell_X5_findReceipt rfl rfl rfl (by decide +kernel) ⟨Nat.le_of_ble_eq_true rfl, Nat.le_of_ble_eq_true rfl⟩) hK hE (fun H h => h) (k6_recv hK h6) rfl (Nat.le_of_ble_eq_true rfl) dX5_sell_2 ⟨Nat.le_of_ble_eq_true rfl, Nat.le_of_ble_eq_true rfl⟩ (fun E => g_out hout hlk (fun H h => h) (Nat.le_of_ble_eq_true rfl) (Nat.le_of_ble_eq_true rfl))

def kPledge (a : CS) (r : Nat) (to cents days : Int32) : CS :=
  let b := kPayT a to (cI a 5 2 (kT a r)) cents.toInt64
  cSI (cSI (cSI b 3 4 r to) 3 5 r cents) 3 6 r (cI b 6 9 0 + days)
abbrev rmX5_pledge : Room := { frames := 4, cells := 0, slots := 0, locals := 85 }
set_option maxHeartbeats 1500000 in
set_option maxRecDepth 100000 in
theorem k_pledge (l : Launch) (D : va_G) (ty : Nat → ClassId) (A : Nat → Prop) (tE : Nat) (el : Nat → Nat → Nat) (a : CS) (h6 : cOb a 6 0) (hb : cL a 2 < 2 ^ 31) {q : Nat} (hq : q < cL a 2) (h3 : cOb a 3 q) (to cents days : Int32) (hv1 : mIn to 0 5 = true) (hv2 : mIn cents 0 10000000 = true) (hv3 : mIn days 0 100 = true) (ok : cOk a) (hr3 : q < cN a 3) (hv : (0 < cI a 3 3 q ∧ cI a 3 4 q = -1 ∧ ¬ cI a 5 2 (kT a q) = to)) : Met l yX5_pledge wsX5_pledge rmX5_pledge (gPc D ty true cstrs tE A [.ref (el 6 0), .int (nI q), .int to, .int cents, .int days] (hC D ty A tE el a)) (gQ A (gRet (some (.int (cI (kPledge a q to cents days) 3 6 q))) (hC D ty A tE el (kPledge a q to cents days)))) 0 0 A := by
  refine g_Met (cc := cX5_pledge) (maxL := 6) (ret := (some .int)) [some (.ref (el 6 0)), some (.int (nI q)), some (.int to), some (.int cents), some (.int days), none] (by decide) rfl (Nat.le_of_ble_eq_true rfl) rfl ?_
  intro p e s m args below meth c S hlk hr hnm hK hE hP0
  have S : CallFix p m c cX5_pledge 6 s args wsX5_pledge RX5 := S
  have hr9 := ok.1.1 q hr3
  have ht := hr9.2.2.1
  have h5 : cOb a 5 (kT a q) := Or.inl ⟨by decide, hr9.2.2.2⟩
  refine g_aload_n S dX5_pledge_0 rfl ?_
  refine g_iload_n S dX5_pledge_1 rfl ?_
  refine g_cVr S (k_findReceipt l D ty A tE el a h6 hb hq h3) (cwV 1 S.2.2.2.2 gX5_pledge_X5_findReceipt rfl rfl rfl (by decide +kernel) ⟨Nat.le_of_ble_eq_true rfl, Nat.le_of_ble_eq_true rfl⟩) hK hE (fun H h => h) (k6_recv hK h6) rfl (Nat.le_of_ble_eq_true rfl) dX5_pledge_2 ⟨Nat.le_of_ble_eq_true rfl, Nat.le_of_ble_eq_true rfl⟩ ?_
  refine g_astore S dX5_pledge_5 (by decide) rfl ?_
  refine g_iload_n S dX5_pledge_7 rfl ?_
  refine g_iconst S (v := 0) dX5_pledge_8 (by decide) ?_
  refine g_iconst S (v := 5) dX5_pledge_9 (by decide) ?_
  refine g_cSv S (k_needRange l D ty A tE el a _ _ _ _ (by exact hv1)) (va_cwS 3 S.2.2.2.2 gX5_pledge_X5_needRange rfl rfl rfl (by decide +kernel) ⟨Nat.le_of_ble_eq_true rfl, Nat.le_of_ble_eq_true rfl⟩) hK hE (fun H h => h) rfl (Nat.le_of_ble_eq_true rfl) dX5_pledge_10 ⟨Nat.le_of_ble_eq_true rfl, Nat.le_of_ble_eq_true rfl⟩ ?_
  refine g_iload_n S dX5_pledge_13 rfl ?_
  refine g_iconst S (v := 0) dX5_pledge_14 (by decide) ?_
  refine g_ldc S (S.2.2.2.2 _ (List.mem_of_getElem? (i := 1) rfl)) dX5_pledge_15 ?_
  refine g_cSv S (k_needRange l D ty A tE el a _ _ _ _ (by exact hv2)) (va_cwS 3 S.2.2.2.2 gX5_pledge_X5_needRange rfl rfl rfl (by decide +kernel) ⟨Nat.le_of_ble_eq_true rfl, Nat.le_of_ble_eq_true rfl⟩) hK hE (fun H h => h) rfl (Nat.le_of_ble_eq_true rfl) dX5_pledge_17 ⟨Nat.le_of_ble_eq_true rfl, Nat.le_of_ble_eq_true rfl⟩ ?_
  refine g_iload S dX5_pledge_20 rfl ?_
  refine g_iconst S (v := 0) dX5_pledge_22 (by decide) ?_
  refine g_bipush S (v := 100) dX5_pledge_23 (by decide) ?_
  refine g_cSv S (k_needRange l D ty A tE el a _ _ _ _ (by exact hv3)) (va_cwS 3 S.2.2.2.2 gX5_pledge_X5_needRange rfl rfl rfl (by decide +kernel) ⟨Nat.le_of_ble_eq_true rfl, Nat.le_of_ble_eq_true rfl⟩) hK hE (fun H h => h) rfl (Nat.le_of_ble_eq_true rfl) dX5_pledge_25 ⟨Nat.le_of_ble_eq_true rfl, Nat.le_of_ble_eq_true rfl⟩ ?_
  refine g_aload S dX5_pledge_28 rfl ?_
  refine g_iload_n S dX5_pledge_30 rfl ?_
  refine g_cSv S (k_needFreeFor l D ty A tE el a h3 ht h5 _ hv) (va_cwS 2 S.2.2.2.2 gX5_pledge_X5_needFreeFor rfl rfl rfl (by decide +kernel) ⟨Nat.le_of_ble_eq_true rfl, Nat.le_of_ble_eq_true rfl⟩) hK hE (fun H h => h) rfl (Nat.le_of_ble_eq_true rfl) dX5_pledge_31 ⟨Nat.le_of_ble_eq_true rfl, Nat.le_of_ble_eq_true rfl⟩ ?_
  refine g_aload_n S dX5_pledge_34 rfl ?_
  refine g_iload_n S dX5_pledge_35 rfl ?_
  refine g_aload S dX5_pledge_36 rfl ?_
  refine g_cVr S (k_holder l D ty A tE el a h3 ht h5) (cwV 0 S.2.2.2.2 gX5_pledge_X2_holder rfl rfl rfl (by decide +kernel) ⟨Nat.le_of_ble_eq_true rfl, Nat.le_of_ble_eq_true rfl⟩) hK hE (fun H h => h) (k3_recv hK h3) rfl (Nat.le_of_ble_eq_true rfl) dX5_pledge_38 ⟨Nat.le_of_ble_eq_true rfl, Nat.le_of_ble_eq_true rfl⟩ ?_
  refine g_iload_n S dX5_pledge_41 rfl ?_
  refine g_i2l S dX5_pledge_42 ?_
  refine g_cVv S (k_payT l D ty A tE el a h6 _ _ _) (cwV 3 S.2.2.2.2 gX5_pledge_X5_pay rfl rfl rfl (by decide +kernel) ⟨Nat.le_of_ble_eq_true rfl, Nat.le_of_ble_eq_true rfl⟩) hK hE (fun H h => h) (k6_recv hK h6) rfl (Nat.le_of_ble_eq_true rfl) dX5_pledge_43 ⟨Nat.le_of_ble_eq_true rfl, Nat.le_of_ble_eq_true rfl⟩ ?_
  refine g_aload S dX5_pledge_46 rfl ?_
  refine g_iload_n S dX5_pledge_48 rfl ?_
  refine k3_put S hK (by exact (cOb_of (kPayT_same a to (cI a 5 2 (kT a q)) cents.toInt64).1 h3)) 4 (by decide) (by decide) (S.2.2.2.2 _ (List.mem_of_getElem? (i := 2) rfl)) (Or.inl rfl) rfl rfl dX5_pledge_49 ?_
  refine g_aload S dX5_pledge_52 rfl ?_
  refine g_iload_n S dX5_pledge_54 rfl ?_
  refine k3_put S hK (by exact (cOb_of (kPayT_same a to (cI a 5 2 (kT a q)) cents.toInt64).1 h3)) 5 (by decide) (by decide) (S.2.2.2.2 _ (List.mem_of_getElem? (i := 3) rfl)) (Or.inl rfl) rfl rfl dX5_pledge_55 ?_
  refine g_aload S dX5_pledge_58 rfl ?_
  refine g_aload_n S dX5_pledge_60 rfl ?_
  refine k6_get S hK (by exact cOb6) 9 (by decide) (S.2.2.2.2 _ (List.mem_of_getElem? (i := 4) rfl)) rfl dX5_pledge_61 ?_
  refine g_iload S dX5_pledge_64 rfl ?_
  refine g_iadd S dX5_pledge_66 ?_
  refine k3_put S hK (by exact (cOb_of (kPayT_same a to (cI a 5 2 (kT a q)) cents.toInt64).1 h3)) 6 (by decide) (by decide) (S.2.2.2.2 _ (List.mem_of_getElem? (i := 5) rfl)) (Or.inl rfl) rfl rfl dX5_pledge_67 ?_
  refine g_aload S dX5_pledge_70 rfl ?_
  refine k3_get S hK (by exact (cOb_of (kPayT_same a to (cI a 5 2 (kT a q)) cents.toInt64).1 h3)) 6 (by decide) (S.2.2.2.2 _ (List.mem_of_getElem? (i := 5) rfl)) rfl dX5_pledge_72 ?_
  exact g_iret S hlk hr (fun H h => ⟨rfl, h⟩) (Nat.le_refl _) (Nat.le_refl _) dX5_pledge_75

abbrev rtX5_pledge : Room := { frames := 8, cells := 1, slots := 6, locals := 300 }
set_option maxHeartbeats 1500000 in
set_option maxRecDepth 100000 in
theorem t_pledge3 (l : Launch) (D : va_G) (ty : Nat → ClassId) (A : Nat → Prop) (hl : l.stackTraces = false) (tE : Nat) (el : Nat → Nat → Nat) (a : CS) (h6 : cOb a 6 0) (hb : cL a 2 < 2 ^ 31) {q : Nat} (hq : q < cL a 2) (h3 : cOb a 3 q) (to cents days : Int32) (hv1 : mIn to 0 5 = true) (hv2 : mIn cents 0 10000000 = true) (hv3 : mIn days 0 100 = true) (ht : cR a 3 2 q = some (kT a q)) (h5 : cOb a 5 (kT a q)) (hv : ¬ (0 < cI a 3 3 q ∧ cI a 3 4 q = -1 ∧ ¬ cI a 5 2 (kT a q) = to)) : vx_Met l yX5_pledge wsX5_pledge rtX5_pledge (gPc D ty true cstrs tE A [.ref (el 6 0), .int (nI q), .int to, .int cents, .int days] (hC D ty A tE el a)) (gQ A (fun _ _ => False)) (gX A (fun E H => E = "java/lang/IllegalStateException" ∧ hC D ty A tE el a H)) 1 6 A := by
  refine g_tMet (cc := cX5_pledge) (maxL := 6) (ret := (some .int)) [some (.ref (el 6 0)), some (.int (nI q)), some (.int to), some (.int cents), some (.int days), none] (by decide) rfl (Nat.le_of_ble_eq_true rfl) rfl ?_
  intro p e s m args below meth c S hlk hout hK hE hP0
  have S : CallFix p m c cX5_pledge 6 s args wsX5_pledge RX5 := S
  refine g_aload_n S dX5_pledge_0 rfl ?_
  refine g_iload_n S dX5_pledge_1 rfl ?_
  refine g_cVr S (k_findReceipt l D ty A tE el a h6 hb hq h3) (cwV 1 S.2.2.2.2 gX5_pledge_X5_findReceipt rfl rfl rfl (by decide +kernel) ⟨Nat.le_of_ble_eq_true rfl, Nat.le_of_ble_eq_true rfl⟩) hK hE (fun H h => h) (k6_recv hK h6) rfl (Nat.le_of_ble_eq_true rfl) dX5_pledge_2 ⟨Nat.le_of_ble_eq_true rfl, Nat.le_of_ble_eq_true rfl⟩ ?_
  refine g_astore S dX5_pledge_5 (by decide) rfl ?_
  refine g_iload_n S dX5_pledge_7 rfl ?_
  refine g_iconst S (v := 0) dX5_pledge_8 (by decide) ?_
  refine g_iconst S (v := 5) dX5_pledge_9 (by decide) ?_
  refine g_cSv S (k_needRange l D ty A tE el a _ _ _ _ (by exact hv1)) (va_cwS 3 S.2.2.2.2 gX5_pledge_X5_needRange rfl rfl rfl (by decide +kernel) ⟨Nat.le_of_ble_eq_true rfl, Nat.le_of_ble_eq_true rfl⟩) hK hE (fun H h => h) rfl (Nat.le_of_ble_eq_true rfl) dX5_pledge_10 ⟨Nat.le_of_ble_eq_true rfl, Nat.le_of_ble_eq_true rfl⟩ ?_
  refine g_iload_n S dX5_pledge_13 rfl ?_
  refine g_iconst S (v := 0) dX5_pledge_14 (by decide) ?_
  refine g_ldc S (S.2.2.2.2 _ (List.mem_of_getElem? (i := 1) rfl)) dX5_pledge_15 ?_
  refine g_cSv S (k_needRange l D ty A tE el a _ _ _ _ (by exact hv2)) (va_cwS 3 S.2.2.2.2 gX5_pledge_X5_needRange rfl rfl rfl (by decide +kernel) ⟨Nat.le_of_ble_eq_true rfl, Nat.le_of_ble_eq_true rfl⟩) hK hE (fun H h => h) rfl (Nat.le_of_ble_eq_true rfl) dX5_pledge_17 ⟨Nat.le_of_ble_eq_true rfl, Nat.le_of_ble_eq_true rfl⟩ ?_
  refine g_iload S dX5_pledge_20 rfl ?_
  refine g_iconst S (v := 0) dX5_pledge_22 (by decide) ?_
  refine g_bipush S (v := 100) dX5_pledge_23 (by decide) ?_
  refine g_cSv S (k_needRange l D ty A tE el a _ _ _ _ (by exact hv3)) (va_cwS 3 S.2.2.2.2 gX5_pledge_X5_needRange rfl rfl rfl (by decide +kernel) ⟨Nat.le_of_ble_eq_true rfl, Nat.le_of_ble_eq_true rfl⟩) hK hE (fun H h => h) rfl (Nat.le_of_ble_eq_true rfl) dX5_pledge_25 ⟨Nat.le_of_ble_eq_true rfl, Nat.le_of_ble_eq_true rfl⟩ ?_
  refine g_aload S dX5_pledge_28 rfl ?_
  refine g_iload_n S dX5_pledge_30 rfl ?_
  exact g_tcallS S ((t_needFreeFor l D ty A hl tE el a h3 ht h5 _ hv)) (va_cwS 2 S.2.2.2.2 gX5_pledge_X5_needFreeFor rfl rfl rfl (by decide +kernel) ⟨Nat.le_of_ble_eq_true rfl, Nat.le_of_ble_eq_true rfl⟩) hK hE (fun H h => h) rfl (Nat.le_of_ble_eq_true rfl) dX5_pledge_31 ⟨Nat.le_of_ble_eq_true rfl, Nat.le_of_ble_eq_true rfl⟩ (fun E => g_out hout hlk (fun H h => h) (Nat.le_of_ble_eq_true rfl) (Nat.le_of_ble_eq_true rfl))

set_option maxHeartbeats 1500000 in
set_option maxRecDepth 100000 in
theorem t_pledge20 (l : Launch) (D : va_G) (ty : Nat → ClassId) (A : Nat → Prop) (hl : l.stackTraces = false) (tE : Nat) (el : Nat → Nat → Nat) (a : CS) (h6 : cOb a 6 0) (hb : cL a 2 < 2 ^ 31) {q : Nat} (hq : q < cL a 2) (h3 : cOb a 3 q) (to cents days : Int32)  (hv : mIn to 0 5 = false) : vx_Met l yX5_pledge wsX5_pledge rtX5_pledge (gPc D ty true cstrs tE A [.ref (el 6 0), .int (nI q), .int to, .int cents, .int days] (hC D ty A tE el a)) (gQ A (fun _ _ => False)) (gX A (fun E H => E = "java/lang/IllegalArgumentException" ∧ hC D ty A tE el a H)) 1 6 A := by
  refine g_tMet (cc := cX5_pledge) (maxL := 6) (ret := (some .int)) [some (.ref (el 6 0)), some (.int (nI q)), some (.int to), some (.int cents), some (.int days), none] (by decide) rfl (Nat.le_of_ble_eq_true rfl) rfl ?_
  intro p e s m args below meth c S hlk hout hK hE hP0
  have S : CallFix p m c cX5_pledge 6 s args wsX5_pledge RX5 := S
  refine g_aload_n S dX5_pledge_0 rfl ?_
  refine g_iload_n S dX5_pledge_1 rfl ?_
  refine g_cVr S (k_findReceipt l D ty A tE el a h6 hb hq h3) (cwV 1 S.2.2.2.2 gX5_pledge_X5_findReceipt rfl rfl rfl (by decide +kernel) ⟨Nat.le_of_ble_eq_true rfl, Nat.le_of_ble_eq_true rfl⟩) hK hE (fun H h => h) (k6_recv hK h6) rfl (Nat.le_of_ble_eq_true rfl) dX5_pledge_2 ⟨Nat.le_of_ble_eq_true rfl, Nat.le_of_ble_eq_true rfl⟩ ?_
  refine g_astore S dX5_pledge_5 (by decide) rfl ?_
  refine g_iload_n S dX5_pledge_7 rfl ?_
  refine g_iconst S (v := 0) dX5_pledge_8 (by decide) ?_
  refine g_iconst S (v := 5) dX5_pledge_9 (by decide) ?_
  exact g_tcallS S ((t_needRange l D ty A hl tE el a _ (fun H H1 h hz hq => hC_grow h hz hq) _ _ _ (by exact hv))) (va_cwS 3 S.2.2.2.2 gX5_pledge_X5_needRange rfl rfl rfl (by decide +kernel) ⟨Nat.le_of_ble_eq_true rfl, Nat.le_of_ble_eq_true rfl⟩) hK hE (fun H h => h) rfl (Nat.le_of_ble_eq_true rfl) dX5_pledge_10 ⟨Nat.le_of_ble_eq_true rfl, Nat.le_of_ble_eq_true rfl⟩ (fun E => g_out hout hlk (fun H h => h) (Nat.le_of_ble_eq_true rfl) (Nat.le_of_ble_eq_true rfl))

set_option maxHeartbeats 1500000 in
set_option maxRecDepth 100000 in
theorem t_pledge21 (l : Launch) (D : va_G) (ty : Nat → ClassId) (A : Nat → Prop) (hl : l.stackTraces = false) (tE : Nat) (el : Nat → Nat → Nat) (a : CS) (h6 : cOb a 6 0) (hb : cL a 2 < 2 ^ 31) {q : Nat} (hq : q < cL a 2) (h3 : cOb a 3 q) (to cents days : Int32) (hv1 : mIn to 0 5 = true) (hv : mIn cents 0 10000000 = false) : vx_Met l yX5_pledge wsX5_pledge rtX5_pledge (gPc D ty true cstrs tE A [.ref (el 6 0), .int (nI q), .int to, .int cents, .int days] (hC D ty A tE el a)) (gQ A (fun _ _ => False)) (gX A (fun E H => E = "java/lang/IllegalArgumentException" ∧ hC D ty A tE el a H)) 1 6 A := by
  refine g_tMet (cc := cX5_pledge) (maxL := 6) (ret := (some .int)) [some (.ref (el 6 0)), some (.int (nI q)), some (.int to), some (.int cents), some (.int days), none] (by decide) rfl (Nat.le_of_ble_eq_true rfl) rfl ?_
  intro p e s m args below meth c S hlk hout hK hE hP0
  have S : CallFix p m c cX5_pledge 6 s args wsX5_pledge RX5 := S
  refine g_aload_n S dX5_pledge_0 rfl ?_
  refine g_iload_n S dX5_pledge_1 rfl ?_
  refine g_cVr S (k_findReceipt l D ty A tE el a h6 hb hq h3) (cwV 1 S.2.2.2.2 gX5_pledge_X5_findReceipt rfl rfl rfl (by decide +kernel) ⟨Nat.le_of_ble_eq_true rfl, Nat.le_of_ble_eq_true rfl⟩) hK hE (fun H h => h) (k6_recv hK h6) rfl (Nat.le_of_ble_eq_true rfl) dX5_pledge_2 ⟨Nat.le_of_ble_eq_true rfl, Nat.le_of_ble_eq_true rfl⟩ ?_
  refine g_astore S dX5_pledge_5 (by decide) rfl ?_
  refine g_iload_n S dX5_pledge_7 rfl ?_
  refine g_iconst S (v := 0) dX5_pledge_8 (by decide) ?_
  refine g_iconst S (v := 5) dX5_pledge_9 (by decide) ?_
  refine g_cSv S (k_needRange l D ty A tE el a _ _ _ _ (by exact hv1)) (va_cwS 3 S.2.2.2.2 gX5_pledge_X5_needRange rfl rfl rfl (by decide +kernel) ⟨Nat.le_of_ble_eq_true rfl, Nat.le_of_ble_eq_true rfl⟩) hK hE (fun H h => h) rfl (Nat.le_of_ble_eq_true rfl) dX5_pledge_10 ⟨Nat.le_of_ble_eq_true rfl, Nat.le_of_ble_eq_true rfl⟩ ?_
  refine g_iload_n S dX5_pledge_13 rfl ?_
  refine g_iconst S (v := 0) dX5_pledge_14 (by decide) ?_
  refine g_ldc S (S.2.2.2.2 _ (List.mem_of_getElem? (i := 1) rfl)) dX5_pledge_15 ?_
  exact g_tcallS S ((t_needRange l D ty A hl tE el a _ (fun H H1 h hz hq => hC_grow h hz hq) _ _ _ (by exact hv))) (va_cwS 3 S.2.2.2.2 gX5_pledge_X5_needRange rfl rfl rfl (by decide +kernel) ⟨Nat.le_of_ble_eq_true rfl, Nat.le_of_ble_eq_true rfl⟩) hK hE (fun H h => h) rfl (Nat.le_of_ble_eq_true rfl) dX5_pledge_17 ⟨Nat.le_of_ble_eq_true rfl, Nat.le_of_ble_eq_true rfl⟩ (fun E => g_out hout hlk (fun H h => h) (Nat.le_of_ble_eq_true rfl) (Nat.le_of_ble_eq_true rfl))

set_option maxHeartbeats 1500000 in
set_option maxRecDepth 100000 in
theorem t_pledge22 (l : Launch) (D : va_G) (ty : Nat → ClassId) (A : Nat → Prop) (hl : l.stackTraces = false) (tE : Nat) (el : Nat → Nat → Nat) (a : CS) (h6 : cOb a 6 0) (hb : cL a 2 < 2 ^ 31) {q : Nat} (hq : q < cL a 2) (h3 : cOb a 3 q) (to cents days : Int32) (hv1 : mIn to 0 5 = true) (hv2 : mIn cents 0 10000000 = true) (hv : mIn days 0 100 = false) : vx_Met l yX5_pledge wsX5_pledge rtX5_pledge (gPc D ty true cstrs tE A [.ref (el 6 0), .int (nI q), .int to, .int cents, .int days] (hC D ty A tE el a)) (gQ A (fun _ _ => False)) (gX A (fun E H => E = "java/lang/IllegalArgumentException" ∧ hC D ty A tE el a H)) 1 6 A := by
  refine g_tMet (cc := cX5_pledge) (maxL := 6) (ret := (some .int)) [some (.ref (el 6 0)), some (.int (nI q)), some (.int to), some (.int cents), some (.int days), none] (by decide) rfl (Nat.le_of_ble_eq_true rfl) rfl ?_
  intro p e s m args below meth c S hlk hout hK hE hP0
  have S : CallFix p m c cX5_pledge 6 s args wsX5_pledge RX5 := S
  refine g_aload_n S dX5_pledge_0 rfl ?_
  refine g_iload_n S dX5_pledge_1 rfl ?_
  refine g_cVr S (k_findReceipt l D ty A tE el a h6 hb hq h3) (cwV 1 S.2.2.2.2 gX5_pledge_X5_findReceipt rfl rfl rfl (by decide +kernel) ⟨Nat.le_of_ble_eq_true rfl, Nat.le_of_ble_eq_true rfl⟩) hK hE (fun H h => h) (k6_recv hK h6) rfl (Nat.le_of_ble_eq_true rfl) dX5_pledge_2 ⟨Nat.le_of_ble_eq_true rfl, Nat.le_of_ble_eq_true rfl⟩ ?_
  refine g_astore S dX5_pledge_5 (by decide) rfl ?_
  refine g_iload_n S dX5_pledge_7 rfl ?_
  refine g_iconst S (v := 0) dX5_pledge_8 (by decide) ?_
  refine g_iconst S (v := 5) dX5_pledge_9 (by decide) ?_
  refine g_cSv S (k_needRange l D ty A tE el a _ _ _ _ (by exact hv1)) (va_cwS 3 S.2.2.2.2 gX5_pledge_X5_needRange rfl rfl rfl (by decide +kernel) ⟨Nat.le_of_ble_eq_true rfl, Nat.le_of_ble_eq_true rfl⟩) hK hE (fun H h => h) rfl (Nat.le_of_ble_eq_true rfl) dX5_pledge_10 ⟨Nat.le_of_ble_eq_true rfl, Nat.le_of_ble_eq_true rfl⟩ ?_
  refine g_iload_n S dX5_pledge_13 rfl ?_
  refine g_iconst S (v := 0) dX5_pledge_14 (by decide) ?_
  refine g_ldc S (S.2.2.2.2 _ (List.mem_of_getElem? (i := 1) rfl)) dX5_pledge_15 ?_
  refine g_cSv S (k_needRange l D ty A tE el a _ _ _ _ (by exact hv2)) (va_cwS 3 S.2.2.2.2 gX5_pledge_X5_needRange rfl rfl rfl (by decide +kernel) ⟨Nat.le_of_ble_eq_true rfl, Nat.le_of_ble_eq_true rfl⟩) hK hE (fun H h => h) rfl (Nat.le_of_ble_eq_true rfl) dX5_pledge_17 ⟨Nat.le_of_ble_eq_true rfl, Nat.le_of_ble_eq_true rfl⟩ ?_
  refine g_iload S dX5_pledge_20 rfl ?_
  refine g_iconst S (v := 0) dX5_pledge_22 (by decide) ?_
  refine g_bipush S (v := 100) dX5_pledge_23 (by decide) ?_
  exact g_tcallS S ((t_needRange l D ty A hl tE el a _ (fun H H1 h hz hq => hC_grow h hz hq) _ _ _ (by exact hv))) (va_cwS 3 S.2.2.2.2 gX5_pledge_X5_needRange rfl rfl rfl (by decide +kernel) ⟨Nat.le_of_ble_eq_true rfl, Nat.le_of_ble_eq_true rfl⟩) hK hE (fun H h => h) rfl (Nat.le_of_ble_eq_true rfl) dX5_pledge_25 ⟨Nat.le_of_ble_eq_true rfl, Nat.le_of_ble_eq_true rfl⟩ (fun E => g_out hout hlk (fun H h => h) (Nat.le_of_ble_eq_true rfl) (Nat.le_of_ble_eq_true rfl))

set_option maxHeartbeats 1500000 in
set_option maxRecDepth 100000 in
theorem t_pledge1 (l : Launch) (D : va_G) (ty : Nat → ClassId) (A : Nat → Prop) (hl : l.stackTraces = false) (tE : Nat) (el : Nat → Nat → Nat) (a : CS) (h6 : cOb a 6 0) (hb : cL a 2 < 2 ^ 31) (v to cents days : Int32) (hv : ¬ vp_in v (cL a 2)) : vx_Met l yX5_pledge wsX5_pledge rtX5_pledge (gPc D ty true cstrs tE A [.ref (el 6 0), .int v, .int to, .int cents, .int days] (hC D ty A tE el a)) (gQ A (fun _ _ => False)) (gX A (fun E H => E = "java/lang/IndexOutOfBoundsException" ∧ hC D ty A tE el a H)) 1 6 A := by
  refine g_tMet (cc := cX5_pledge) (maxL := 6) (ret := (some .int)) [some (.ref (el 6 0)), some (.int v), some (.int to), some (.int cents), some (.int days), none] (by decide) rfl (Nat.le_of_ble_eq_true rfl) rfl ?_
  intro p e s m args below meth c S hlk hout hK hE hP0
  have S : CallFix p m c cX5_pledge 6 s args wsX5_pledge RX5 := S
  refine g_aload_n S dX5_pledge_0 rfl ?_
  refine g_iload_n S dX5_pledge_1 rfl ?_
  exact g_tcallV S (t_findReceipt l D ty A hl tE el a h6 hb _ hv) (cwV 1 S.2.2.2.2 gX5_pledge_X5_findReceipt rfl rfl rfl (by decide +kernel) ⟨Nat.le_of_ble_eq_true rfl, Nat.le_of_ble_eq_true rfl⟩) hK hE (fun H h => h) (k6_recv hK h6) rfl (Nat.le_of_ble_eq_true rfl) dX5_pledge_2 ⟨Nat.le_of_ble_eq_true rfl, Nat.le_of_ble_eq_true rfl⟩ (fun E => g_out hout hlk (fun H h => h) (Nat.le_of_ble_eq_true rfl) (Nat.le_of_ble_eq_true rfl))

def kContract0 (a : CS) (x1 x2 x3 x4 x5 x6 x7 : Int32) : CS :=
  let b := cNew a 1
  let b := cSI (cSI (cSI (cSI (cSI b 1 0 (cN a 1) (nI (cL a 3))) 1 1 (cN a 1) x1) 1 2 (cN a 1) x2) 1 3 (cN a 1) x3) 1 4 (cN a 1) x4
  cSI (cSI (cSI b 1 5 (cN a 1) x5) 1 6 (cN a 1) (cI a 6 9 0 + x6)) 1 7 (cN a 1) x7
def kContract (a : CS) (x1 x2 x3 x4 x5 x6 x7 : Int32) : CS := cSL (kContract0 a x1 x2 x3 x4 x5 x6 x7) 3 (cL a 3 + 1)
abbrev rmX5_contract : Room := { frames := 7, cells := 2, slots := 161, locals := 191 }
set_option maxHeartbeats 1500000 in
set_option maxRecDepth 100000 in
theorem k_contract (l : Launch) (D : va_G) (ty : Nat → ClassId) (A : Nat → Prop) (tE : Nat) (el : Nat → Nat → Nat) (a : CS) (h6 : cOb a 6 0) (hrw : cRwf a) (x1 x2 x3 x4 x5 x6 x7 : Int32) (hv1 : mIn x1 0 5 = true) (hv2 : mIn x2 0 5 = true) (hv3 : mIn x3 0 2 = true) (hv4 : mIn x4 0 2 = true) (hv5 : mIn x5 1 100000 = true) (hv6 : mIn x6 1 100 = true) (hv7 : mIn x7 0 1000 = true) (hne : ¬ x1 = x2) (hc30 : cL a 3 < 30) (hLN : cL a 3 = cN a 1) : Met l yX5_contract wsX5_contract rmX5_contract (gPc D ty true cstrs tE A [.ref (el 6 0), .int x1, .int x2, .int x3, .int x4, .int x5, .int x6, .int x7] (hC D ty A tE el a)) (gQ A (gRet (some (.int (nI (cL a 3)))) (hX D ty A tE el a (kContract a x1 x2 x3 x4 x5 x6 x7)))) 2 161 A := by
  refine g_Met (cc := cX5_contract) (maxL := 10) (ret := (some .int)) [some (.ref (el 6 0)), some (.int x1), some (.int x2), some (.int x3), some (.int x4), some (.int x5), some (.int x6), some (.int x7), none, none] (by decide) rfl (Nat.le_of_ble_eq_true rfl) rfl ?_
  intro p e s m args below meth c S hlk hr hnm hK hE hP0
  have S : CallFix p m c cX5_contract 10 s args wsX5_contract RX5 := S
  refine g_iload_n S dX5_contract_0 rfl ?_
  refine g_iconst S (v := 0) dX5_contract_1 (by decide) ?_
  refine g_iconst S (v := 5) dX5_contract_2 (by decide) ?_
  refine g_cSv S (k_needRange l D ty A tE el a _ _ _ _ (by exact hv1)) (va_cwS 3 S.2.2.2.2 gX5_contract_X5_needRange rfl rfl rfl (by decide +kernel) ⟨Nat.le_of_ble_eq_true rfl, Nat.le_of_ble_eq_true rfl⟩) hK hE (fun H h => h) rfl (Nat.le_of_ble_eq_true rfl) dX5_contract_3 ⟨Nat.le_of_ble_eq_true rfl, Nat.le_of_ble_eq_true rfl⟩ ?_
  refine g_iload_n S dX5_contract_6 rfl ?_
  refine g_iconst S (v := 0) dX5_contract_7 (by decide) ?_
  refine g_iconst S (v := 5) dX5_contract_8 (by decide) ?_
  refine g_cSv S (k_needRange l D ty A tE el a _ _ _ _ (by exact hv2)) (va_cwS 3 S.2.2.2.2 gX5_contract_X5_needRange rfl rfl rfl (by decide +kernel) ⟨Nat.le_of_ble_eq_true rfl, Nat.le_of_ble_eq_true rfl⟩) hK hE (fun H h => h) rfl (Nat.le_of_ble_eq_true rfl) dX5_contract_9 ⟨Nat.le_of_ble_eq_true rfl, Nat.le_of_ble_eq_true rfl⟩ ?_
  refine g_iload_n S dX5_contract_12 rfl ?_
  refine g_iconst S (v := 0) dX5_contract_13 (by decide) ?_
  refine g_iconst S (v := 2) dX5_contract_14 (by decide) ?_
  refine g_cSv S (k_needRange l D ty A tE el a _ _ _ _ (by exact hv3)) (va_cwS 3 S.2.2.2.2 gX5_contract_X5_needRange rfl rfl rfl (by decide +kernel) ⟨Nat.le_of_ble_eq_true rfl, Nat.le_of_ble_eq_true rfl⟩) hK hE (fun H h => h) rfl (Nat.le_of_ble_eq_true rfl) dX5_contract_15 ⟨Nat.le_of_ble_eq_true rfl, Nat.le_of_ble_eq_true rfl⟩ ?_
  refine g_iload S dX5_contract_18 rfl ?_
  refine g_iconst S (v := 0) dX5_contract_20 (by decide) ?_
  refine g_iconst S (v := 2) dX5_contract_21 (by decide) ?_
  refine g_cSv S (k_needRange l D ty A tE el a _ _ _ _ (by exact hv4)) (va_cwS 3 S.2.2.2.2 gX5_contract_X5_needRange rfl rfl rfl (by decide +kernel) ⟨Nat.le_of_ble_eq_true rfl, Nat.le_of_ble_eq_true rfl⟩) hK hE (fun H h => h) rfl (Nat.le_of_ble_eq_true rfl) dX5_contract_22 ⟨Nat.le_of_ble_eq_true rfl, Nat.le_of_ble_eq_true rfl⟩ ?_
  refine g_iload S dX5_contract_25 rfl ?_
  refine g_iconst S (v := 1) dX5_contract_27 (by decide) ?_
  refine g_ldc S (S.2.2.2.2 _ (List.mem_of_getElem? (i := 5) rfl)) dX5_contract_28 ?_
  refine g_cSv S (k_needRange l D ty A tE el a _ _ _ _ (by exact hv5)) (va_cwS 3 S.2.2.2.2 gX5_contract_X5_needRange rfl rfl rfl (by decide +kernel) ⟨Nat.le_of_ble_eq_true rfl, Nat.le_of_ble_eq_true rfl⟩) hK hE (fun H h => h) rfl (Nat.le_of_ble_eq_true rfl) dX5_contract_30 ⟨Nat.le_of_ble_eq_true rfl, Nat.le_of_ble_eq_true rfl⟩ ?_
  refine g_iload S dX5_contract_33 rfl ?_
  refine g_iconst S (v := 1) dX5_contract_35 (by decide) ?_
  refine g_bipush S (v := 100) dX5_contract_36 (by decide) ?_
  refine g_cSv S (k_needRange l D ty A tE el a _ _ _ _ (by exact hv6)) (va_cwS 3 S.2.2.2.2 gX5_contract_X5_needRange rfl rfl rfl (by decide +kernel) ⟨Nat.le_of_ble_eq_true rfl, Nat.le_of_ble_eq_true rfl⟩) hK hE (fun H h => h) rfl (Nat.le_of_ble_eq_true rfl) dX5_contract_38 ⟨Nat.le_of_ble_eq_true rfl, Nat.le_of_ble_eq_true rfl⟩ ?_
  refine g_iload S dX5_contract_41 rfl ?_
  refine g_iconst S (v := 0) dX5_contract_43 (by decide) ?_
  refine g_sipush S (v := 1000) dX5_contract_44 (by decide) ?_
  refine g_cSv S (k_needRange l D ty A tE el a _ _ _ _ (by exact hv7)) (va_cwS 3 S.2.2.2.2 gX5_contract_X5_needRange rfl rfl rfl (by decide +kernel) ⟨Nat.le_of_ble_eq_true rfl, Nat.le_of_ble_eq_true rfl⟩) hK hE (fun H h => h) rfl (Nat.le_of_ble_eq_true rfl) dX5_contract_47 ⟨Nat.le_of_ble_eq_true rfl, Nat.le_of_ble_eq_true rfl⟩ ?_
  refine g_iload_n S dX5_contract_50 rfl ?_
  refine g_iload_n S dX5_contract_51 rfl ?_
  refine g_icmp_ne S (tgt := 65) dX5_contract_52 (by decide) (fun c_52 => ?_) (fun c_52 => ?_)
  · refine g_aload_n S dX5_contract_65 rfl ?_
    refine k6_get S hK (by exact cOb6) 3 (by decide) (S.2.2.2.2 _ (List.mem_of_getElem? (i := 6) rfl)) rfl dX5_contract_66 ?_
    refine g_cVr S (k_size l D ty A tE el a (j := 3) (by decide)) (cwV 0 S.2.2.2.2 gX5_contract_Jx4a65c_size_8abf5 rfl rfl rfl (by decide +kernel) ⟨Nat.le_of_ble_eq_true rfl, Nat.le_of_ble_eq_true rfl⟩) hK hE (fun H h => h) (k0_recv hK (j := 3) (by decide)) rfl (Nat.le_of_ble_eq_true rfl) dX5_contract_69 ⟨Nat.le_of_ble_eq_true rfl, Nat.le_of_ble_eq_true rfl⟩ ?_
    refine g_istore S dX5_contract_72 (by decide) rfl ?_
    refine g_iload S dX5_contract_74 rfl ?_
    refine g_bipush S (v := 30) dX5_contract_76 (by decide) ?_
    refine g_icmp_lt S (tgt := 91) dX5_contract_78 (by decide) (fun c_78 => ?_) (fun c_78 => ?_)
    · refine k1_new S hK (by exact hrw) (S.2.2.2.2 _ (List.mem_of_getElem? (i := 7) rfl)) (S.2.2.2.2 _ (List.mem_of_getElem? (i := 8) rfl)) (S.2.2.2.2 _ (List.mem_of_getElem? (i := 9) rfl)) (hE rfl).2.2.2.1 (Nat.le_of_ble_eq_true rfl) (Nat.le_of_ble_eq_true rfl) dX5_contract_91 (fun q => ?_)
      obtain ⟨el1, hel1⟩ : ∃ x : Nat → Nat → Nat, x = elU el 1 (cN a 1) q := ⟨_, rfl⟩
      rw [← hel1]
      have xel1 : elX a el el1 := by rw [hel1]; exact elX.new (by decide)
      refine g_lv (show _ = [some (.ref (el1 6 0)), some (.int x1), some (.int x2), some (.int x3), some (.int x4), some (.int x5), some (.int x6), some (.int x7), some (.int (nI (cL a 3))), none] from by rw [xel1.ob cOb6] <;> rfl) ?_
      refine g_dup S dX5_contract_94 rfl ?_
      refine g_iload S dX5_contract_95 rfl ?_
      refine g_iload_n S dX5_contract_97 rfl ?_
      refine g_iload_n S dX5_contract_98 rfl ?_
      refine g_iload_n S dX5_contract_99 rfl ?_
      refine g_iload S dX5_contract_100 rfl ?_
      refine g_cIv S (k_newContract l D ty A tE el1 (cNew a 1) (i := cN a 1) (cOb_nw (a := a) (j := 1) (by decide)) _ _ _ _ _) (cwI 5 S.2.2.2.2 gX5_contract_X0_init rfl rfl rfl (S.2.2.2.2 _ (List.mem_of_getElem? (i := 9) rfl)) (S.2.2.2.2 _ (List.mem_of_getElem? (i := 24) rfl)) (S.2.2.2.2 _ (List.mem_of_getElem? (i := 25) rfl)) rfl (by decide +kernel) ⟨Nat.le_of_ble_eq_true rfl, Nat.le_of_ble_eq_true rfl⟩) hK hE (fun H h => h) rfl (Nat.le_of_ble_eq_true rfl) dX5_contract_102 ⟨Nat.le_of_ble_eq_true rfl, Nat.le_of_ble_eq_true rfl⟩ ?_
      refine g_astore S dX5_contract_105 (by decide) rfl ?_
      refine g_aload S dX5_contract_107 rfl ?_
      refine g_iload S dX5_contract_109 rfl ?_
      refine k1_put S hK (by exact (cOb_nw (a := a) (j := 1) (by decide))) 5 (by decide) (by decide) (S.2.2.2.2 _ (List.mem_of_getElem? (i := 10) rfl)) (Or.inl rfl) rfl rfl dX5_contract_111 ?_
      refine g_aload S dX5_contract_114 rfl ?_
      refine g_aload_n S dX5_contract_116 rfl ?_
      refine k6_get S hK (by exact cOb6) 9 (by decide) (S.2.2.2.2 _ (List.mem_of_getElem? (i := 11) rfl)) rfl dX5_contract_117 ?_
      refine g_iload S dX5_contract_120 rfl ?_
      refine g_iadd S dX5_contract_122 ?_
      refine k1_put S hK (by exact (cOb_nw (a := a) (j := 1) (by decide))) 6 (by decide) (by decide) (S.2.2.2.2 _ (List.mem_of_getElem? (i := 12) rfl)) (Or.inl rfl) rfl rfl dX5_contract_123 ?_
      refine g_aload S dX5_contract_126 rfl ?_
      refine g_iload S dX5_contract_128 rfl ?_
      refine k1_put S hK (by exact (cOb_nw (a := a) (j := 1) (by decide))) 7 (by decide) (by decide) (S.2.2.2.2 _ (List.mem_of_getElem? (i := 13) rfl)) (Or.inl rfl) rfl rfl dX5_contract_130 ?_
      refine g_aload_n S dX5_contract_133 rfl ?_
      refine k6_get S hK (by exact cOb6) 3 (by decide) (S.2.2.2.2 _ (List.mem_of_getElem? (i := 6) rfl)) rfl dX5_contract_134 ?_
      refine g_aload S dX5_contract_137 rfl ?_
      refine g_st (show _ = [Value.ref (el1 (lkd 3) (cL (kContract0 a x1 x2 x3 x4 x5 x6 x7) 3)), Value.ref (el1 0 3)] from by rw [show cL (kContract0 a x1 x2 x3 x4 x5 x6 x7) 3 = cN a 1 from hLN] <;> rfl) ?_
      refine g_cVr S (k_add l D ty A tE el1 (kContract0 a x1 x2 x3 x4 x5 x6 x7) (j := 3) (by decide) (show cL a 3 < 100 by omega) (by rw [show cL (kContract0 a x1 x2 x3 x4 x5 x6 x7) 3 = cN a 1 from hLN]; exact Nat.lt_succ_self _)) (cwV 1 S.2.2.2.2 gX5_contract_Jx4a65c_add_9ea2d rfl rfl rfl (by decide +kernel) ⟨Nat.le_of_ble_eq_true rfl, Nat.le_of_ble_eq_true rfl⟩) hK hE (fun H h => h) (k0_recv hK (j := 3) (by decide)) rfl (Nat.le_of_ble_eq_true rfl) dX5_contract_139 ⟨Nat.le_of_ble_eq_true rfl, Nat.le_of_ble_eq_true rfl⟩ ?_
      refine g_pop S dX5_contract_142 rfl ?_
      refine g_iload S dX5_contract_143 rfl ?_
      exact g_iret S hlk hr (fun H h => ⟨rfl, el1, xel1, h⟩) (Nat.le_of_ble_eq_true rfl) (Nat.le_of_ble_eq_true rfl) dX5_contract_145
    · exact absurd (nI_lt (b := 30) hc30 (by decide)) c_78
  · exact absurd c_52 hne

abbrev rtX5_contract : Room := { frames := 8, cells := 1, slots := 6, locals := 300 }
set_option maxHeartbeats 1500000 in
set_option maxRecDepth 100000 in
theorem t_contract10 (l : Launch) (D : va_G) (ty : Nat → ClassId) (A : Nat → Prop) (hl : l.stackTraces = false) (tE : Nat) (el : Nat → Nat → Nat) (a : CS) (h6 : cOb a 6 0) (x1 x2 x3 x4 x5 x6 x7 : Int32)  (hv : mIn x1 0 5 = false) : vx_Met l yX5_contract wsX5_contract rtX5_contract (gPc D ty true cstrs tE A [.ref (el 6 0), .int x1, .int x2, .int x3, .int x4, .int x5, .int x6, .int x7] (hC D ty A tE el a)) (gQ A (fun _ _ => False)) (gX A (fun E H => E = "java/lang/IllegalArgumentException" ∧ hC D ty A tE el a H)) 1 6 A := by
  refine g_tMet (cc := cX5_contract) (maxL := 10) (ret := (some .int)) [some (.ref (el 6 0)), some (.int x1), some (.int x2), some (.int x3), some (.int x4), some (.int x5), some (.int x6), some (.int x7), none, none] (by decide) rfl (Nat.le_of_ble_eq_true rfl) rfl ?_
  intro p e s m args below meth c S hlk hout hK hE hP0
  have S : CallFix p m c cX5_contract 10 s args wsX5_contract RX5 := S
  refine g_iload_n S dX5_contract_0 rfl ?_
  refine g_iconst S (v := 0) dX5_contract_1 (by decide) ?_
  refine g_iconst S (v := 5) dX5_contract_2 (by decide) ?_
  exact g_tcallS S ((t_needRange l D ty A hl tE el a _ (fun H H1 h hz hq => hC_grow h hz hq) _ _ _ (by exact hv))) (va_cwS 3 S.2.2.2.2 gX5_contract_X5_needRange rfl rfl rfl (by decide +kernel) ⟨Nat.le_of_ble_eq_true rfl, Nat.le_of_ble_eq_true rfl⟩) hK hE (fun H h => h) rfl (Nat.le_of_ble_eq_true rfl) dX5_contract_3 ⟨Nat.le_of_ble_eq_true rfl, Nat.le_of_ble_eq_true rfl⟩ (fun E => g_out hout hlk (fun H h => h) (Nat.le_of_ble_eq_true rfl) (Nat.le_of_ble_eq_true rfl))

set_option maxHeartbeats 1500000 in
set_option maxRecDepth 100000 in
theorem t_contract11 (l : Launch) (D : va_G) (ty : Nat → ClassId) (A : Nat → Prop) (hl : l.stackTraces = false) (tE : Nat) (el : Nat → Nat → Nat) (a : CS) (h6 : cOb a 6 0) (x1 x2 x3 x4 x5 x6 x7 : Int32) (hv1 : mIn x1 0 5 = true) (hv : mIn x2 0 5 = false) : vx_Met l yX5_contract wsX5_contract rtX5_contract (gPc D ty true cstrs tE A [.ref (el 6 0), .int x1, .int x2, .int x3, .int x4, .int x5, .int x6, .int x7] (hC D ty A tE el a)) (gQ A (fun _ _ => False)) (gX A (fun E H => E = "java/lang/IllegalArgumentException" ∧ hC D ty A tE el a H)) 1 6 A := by
  refine g_tMet (cc := cX5_contract) (maxL := 10) (ret := (some .int)) [some (.ref (el 6 0)), some (.int x1), some (.int x2), some (.int x3), some (.int x4), some (.int x5), some (.int x6), some (.int x7), none, none] (by decide) rfl (Nat.le_of_ble_eq_true rfl) rfl ?_
  intro p e s m args below meth c S hlk hout hK hE hP0
  have S : CallFix p m c cX5_contract 10 s args wsX5_contract RX5 := S
  refine g_iload_n S dX5_contract_0 rfl ?_
  refine g_iconst S (v := 0) dX5_contract_1 (by decide) ?_
  refine g_iconst S (v := 5) dX5_contract_2 (by decide) ?_
  refine g_cSv S (k_needRange l D ty A tE el a _ _ _ _ (by exact hv1)) (va_cwS 3 S.2.2.2.2 gX5_contract_X5_needRange rfl rfl rfl (by decide +kernel) ⟨Nat.le_of_ble_eq_true rfl, Nat.le_of_ble_eq_true rfl⟩) hK hE (fun H h => h) rfl (Nat.le_of_ble_eq_true rfl) dX5_contract_3 ⟨Nat.le_of_ble_eq_true rfl, Nat.le_of_ble_eq_true rfl⟩ ?_
  refine g_iload_n S dX5_contract_6 rfl ?_
  refine g_iconst S (v := 0) dX5_contract_7 (by decide) ?_
  refine g_iconst S (v := 5) dX5_contract_8 (by decide) ?_
  exact g_tcallS S ((t_needRange l D ty A hl tE el a _ (fun H H1 h hz hq => hC_grow h hz hq) _ _ _ (by exact hv))) (va_cwS 3 S.2.2.2.2 gX5_contract_X5_needRange rfl rfl rfl (by decide +kernel) ⟨Nat.le_of_ble_eq_true rfl, Nat.le_of_ble_eq_true rfl⟩) hK hE (fun H h => h) rfl (Nat.le_of_ble_eq_true rfl) dX5_contract_9 ⟨Nat.le_of_ble_eq_true rfl, Nat.le_of_ble_eq_true rfl⟩ (fun E => g_out hout hlk (fun H h => h) (Nat.le_of_ble_eq_true rfl) (Nat.le_of_ble_eq_true rfl))

set_option maxHeartbeats 1500000 in
set_option maxRecDepth 100000 in
theorem t_contract12 (l : Launch) (D : va_G) (ty : Nat → ClassId) (A : Nat → Prop) (hl : l.stackTraces = false) (tE : Nat) (el : Nat → Nat → Nat) (a : CS) (h6 : cOb a 6 0) (x1 x2 x3 x4 x5 x6 x7 : Int32) (hv1 : mIn x1 0 5 = true) (hv2 : mIn x2 0 5 = true) (hv : mIn x3 0 2 = false) : vx_Met l yX5_contract wsX5_contract rtX5_contract (gPc D ty true cstrs tE A [.ref (el 6 0), .int x1, .int x2, .int x3, .int x4, .int x5, .int x6, .int x7] (hC D ty A tE el a)) (gQ A (fun _ _ => False)) (gX A (fun E H => E = "java/lang/IllegalArgumentException" ∧ hC D ty A tE el a H)) 1 6 A := by
  refine g_tMet (cc := cX5_contract) (maxL := 10) (ret := (some .int)) [some (.ref (el 6 0)), some (.int x1), some (.int x2), some (.int x3), some (.int x4), some (.int x5), some (.int x6), some (.int x7), none, none] (by decide) rfl (Nat.le_of_ble_eq_true rfl) rfl ?_
  intro p e s m args below meth c S hlk hout hK hE hP0
  have S : CallFix p m c cX5_contract 10 s args wsX5_contract RX5 := S
  refine g_iload_n S dX5_contract_0 rfl ?_
  refine g_iconst S (v := 0) dX5_contract_1 (by decide) ?_
  refine g_iconst S (v := 5) dX5_contract_2 (by decide) ?_
  refine g_cSv S (k_needRange l D ty A tE el a _ _ _ _ (by exact hv1)) (va_cwS 3 S.2.2.2.2 gX5_contract_X5_needRange rfl rfl rfl (by decide +kernel) ⟨Nat.le_of_ble_eq_true rfl, Nat.le_of_ble_eq_true rfl⟩) hK hE (fun H h => h) rfl (Nat.le_of_ble_eq_true rfl) dX5_contract_3 ⟨Nat.le_of_ble_eq_true rfl, Nat.le_of_ble_eq_true rfl⟩ ?_
  refine g_iload_n S dX5_contract_6 rfl ?_
  refine g_iconst S (v := 0) dX5_contract_7 (by decide) ?_
  refine g_iconst S (v := 5) dX5_contract_8 (by decide) ?_
  refine g_cSv S (k_needRange l D ty A tE el a _ _ _ _ (by exact hv2)) (va_cwS 3 S.2.2.2.2 gX5_contract_X5_needRange rfl rfl rfl (by decide +kernel) ⟨Nat.le_of_ble_eq_true rfl, Nat.le_of_ble_eq_true rfl⟩) hK hE (fun H h => h) rfl (Nat.le_of_ble_eq_true rfl) dX5_contract_9 ⟨Nat.le_of_ble_eq_true rfl, Nat.le_of_ble_eq_true rfl⟩ ?_
  refine g_iload_n S dX5_contract_12 rfl ?_
  refine g_iconst S (v := 0) dX5_contract_13 (by decide) ?_
  refine g_iconst S (v := 2) dX5_contract_14 (by decide) ?_
  exact g_tcallS S ((t_needRange l D ty A hl tE el a _ (fun H H1 h hz hq => hC_grow h hz hq) _ _ _ (by exact hv))) (va_cwS 3 S.2.2.2.2 gX5_contract_X5_needRange rfl rfl rfl (by decide +kernel) ⟨Nat.le_of_ble_eq_true rfl, Nat.le_of_ble_eq_true rfl⟩) hK hE (fun H h => h) rfl (Nat.le_of_ble_eq_true rfl) dX5_contract_15 ⟨Nat.le_of_ble_eq_true rfl, Nat.le_of_ble_eq_true rfl⟩ (fun E => g_out hout hlk (fun H h => h) (Nat.le_of_ble_eq_true rfl) (Nat.le_of_ble_eq_true rfl))

set_option maxHeartbeats 1500000 in
set_option maxRecDepth 100000 in
theorem t_contract13 (l : Launch) (D : va_G) (ty : Nat → ClassId) (A : Nat → Prop) (hl : l.stackTraces = false) (tE : Nat) (el : Nat → Nat → Nat) (a : CS) (h6 : cOb a 6 0) (x1 x2 x3 x4 x5 x6 x7 : Int32) (hv1 : mIn x1 0 5 = true) (hv2 : mIn x2 0 5 = true) (hv3 : mIn x3 0 2 = true) (hv : mIn x4 0 2 = false) : vx_Met l yX5_contract wsX5_contract rtX5_contract (gPc D ty true cstrs tE A [.ref (el 6 0), .int x1, .int x2, .int x3, .int x4, .int x5, .int x6, .int x7] (hC D ty A tE el a)) (gQ A (fun _ _ => False)) (gX A (fun E H => E = "java/lang/IllegalArgumentException" ∧ hC D ty A tE el a H)) 1 6 A := by
  refine g_tMet (cc := cX5_contract) (maxL := 10) (ret := (some .int)) [some (.ref (el 6 0)), some (.int x1), some (.int x2), some (.int x3), some (.int x4), some (.int x5), some (.int x6), some (.int x7), none, none] (by decide) rfl (Nat.le_of_ble_eq_true rfl) rfl ?_
  intro p e s m args below meth c S hlk hout hK hE hP0
  have S : CallFix p m c cX5_contract 10 s args wsX5_contract RX5 := S
  refine g_iload_n S dX5_contract_0 rfl ?_
  refine g_iconst S (v := 0) dX5_contract_1 (by decide) ?_
  refine g_iconst S (v := 5) dX5_contract_2 (by decide) ?_
  refine g_cSv S (k_needRange l D ty A tE el a _ _ _ _ (by exact hv1)) (va_cwS 3 S.2.2.2.2 gX5_contract_X5_needRange rfl rfl rfl (by decide +kernel) ⟨Nat.le_of_ble_eq_true rfl, Nat.le_of_ble_eq_true rfl⟩) hK hE (fun H h => h) rfl (Nat.le_of_ble_eq_true rfl) dX5_contract_3 ⟨Nat.le_of_ble_eq_true rfl, Nat.le_of_ble_eq_true rfl⟩ ?_
  refine g_iload_n S dX5_contract_6 rfl ?_
  refine g_iconst S (v := 0) dX5_contract_7 (by decide) ?_
  refine g_iconst S (v := 5) dX5_contract_8 (by decide) ?_
  refine g_cSv S (k_needRange l D ty A tE el a _ _ _ _ (by exact hv2)) (va_cwS 3 S.2.2.2.2 gX5_contract_X5_needRange rfl rfl rfl (by decide +kernel) ⟨Nat.le_of_ble_eq_true rfl, Nat.le_of_ble_eq_true rfl⟩) hK hE (fun H h => h) rfl (Nat.le_of_ble_eq_true rfl) dX5_contract_9 ⟨Nat.le_of_ble_eq_true rfl, Nat.le_of_ble_eq_true rfl⟩ ?_
  refine g_iload_n S dX5_contract_12 rfl ?_
  refine g_iconst S (v := 0) dX5_contract_13 (by decide) ?_
  refine g_iconst S (v := 2) dX5_contract_14 (by decide) ?_
  refine g_cSv S (k_needRange l D ty A tE el a _ _ _ _ (by exact hv3)) (va_cwS 3 S.2.2.2.2 gX5_contract_X5_needRange rfl rfl rfl (by decide +kernel) ⟨Nat.le_of_ble_eq_true rfl, Nat.le_of_ble_eq_true rfl⟩) hK hE (fun H h => h) rfl (Nat.le_of_ble_eq_true rfl) dX5_contract_15 ⟨Nat.le_of_ble_eq_true rfl, Nat.le_of_ble_eq_true rfl⟩ ?_
  refine g_iload S dX5_contract_18 rfl ?_
  refine g_iconst S (v := 0) dX5_contract_20 (by decide) ?_
  refine g_iconst S (v := 2) dX5_contract_21 (by decide) ?_
  exact g_tcallS S ((t_needRange l D ty A hl tE el a _ (fun H H1 h hz hq => hC_grow h hz hq) _ _ _ (by exact hv))) (va_cwS 3 S.2.2.2.2 gX5_contract_X5_needRange rfl rfl rfl (by decide +kernel) ⟨Nat.le_of_ble_eq_true rfl, Nat.le_of_ble_eq_true rfl⟩) hK hE (fun H h => h) rfl (Nat.le_of_ble_eq_true rfl) dX5_contract_22 ⟨Nat.le_of_ble_eq_true rfl, Nat.le_of_ble_eq_true rfl⟩ (fun E => g_out hout hlk (fun H h => h) (Nat.le_of_ble_eq_true rfl) (Nat.le_of_ble_eq_true rfl))

set_option maxHeartbeats 1500000 in
set_option maxRecDepth 100000 in
theorem t_contract14 (l : Launch) (D : va_G) (ty : Nat → ClassId) (A : Nat → Prop) (hl : l.stackTraces = false) (tE : Nat) (el : Nat → Nat → Nat) (a : CS) (h6 : cOb a 6 0) (x1 x2 x3 x4 x5 x6 x7 : Int32) (hv1 : mIn x1 0 5 = true) (hv2 : mIn x2 0 5 = true) (hv3 : mIn x3 0 2 = true) (hv4 : mIn x4 0 2 = true) (hv : mIn x5 1 100000 = false) : vx_Met l yX5_contract wsX5_contract rtX5_contract (gPc D ty true cstrs tE A [.ref (el 6 0), .int x1, .int x2, .int x3, .int x4, .int x5, .int x6, .int x7] (hC D ty A tE el a)) (gQ A (fun _ _ => False)) (gX A (fun E H => E = "java/lang/IllegalArgumentException" ∧ hC D ty A tE el a H)) 1 6 A := by
  refine g_tMet (cc := cX5_contract) (maxL := 10) (ret := (some .int)) [some (.ref (el 6 0)), some (.int x1), some (.int x2), some (.int x3), some (.int x4), some (.int x5), some (.int x6), some (.int x7), none, none] (by decide) rfl (Nat.le_of_ble_eq_true rfl) rfl ?_
  intro p e s m args below meth c S hlk hout hK hE hP0
  have S : CallFix p m c cX5_contract 10 s args wsX5_contract RX5 := S
  refine g_iload_n S dX5_contract_0 rfl ?_
  refine g_iconst S (v := 0) dX5_contract_1 (by decide) ?_
  refine g_iconst S (v := 5) dX5_contract_2 (by decide) ?_
  refine g_cSv S (k_needRange l D ty A tE el a _ _ _ _ (by exact hv1)) (va_cwS 3 S.2.2.2.2 gX5_contract_X5_needRange rfl rfl rfl (by decide +kernel) ⟨Nat.le_of_ble_eq_true rfl, Nat.le_of_ble_eq_true rfl⟩) hK hE (fun H h => h) rfl (Nat.le_of_ble_eq_true rfl) dX5_contract_3 ⟨Nat.le_of_ble_eq_true rfl, Nat.le_of_ble_eq_true rfl⟩ ?_
  refine g_iload_n S dX5_contract_6 rfl ?_
  refine g_iconst S (v := 0) dX5_contract_7 (by decide) ?_
  refine g_iconst S (v := 5) dX5_contract_8 (by decide) ?_
  refine g_cSv S (k_needRange l D ty A tE el a _ _ _ _ (by exact hv2)) (va_cwS 3 S.2.2.2.2 gX5_contract_X5_needRange rfl rfl rfl (by decide +kernel) ⟨Nat.le_of_ble_eq_true rfl, Nat.le_of_ble_eq_true rfl⟩) hK hE (fun H h => h) rfl (Nat.le_of_ble_eq_true rfl) dX5_contract_9 ⟨Nat.le_of_ble_eq_true rfl, Nat.le_of_ble_eq_true rfl⟩ ?_
  refine g_iload_n S dX5_contract_12 rfl ?_
  refine g_iconst S (v := 0) dX5_contract_13 (by decide) ?_
  refine g_iconst S (v := 2) dX5_contract_14 (by decide) ?_
  refine g_cSv S (k_needRange l D ty A tE el a _ _ _ _ (by exact hv3)) (va_cwS 3 S.2.2.2.2 gX5_contract_X5_needRange rfl rfl rfl (by decide +kernel) ⟨Nat.le_of_ble_eq_true rfl, Nat.le_of_ble_eq_true rfl⟩) hK hE (fun H h => h) rfl (Nat.le_of_ble_eq_true rfl) dX5_contract_15 ⟨Nat.le_of_ble_eq_true rfl, Nat.le_of_ble_eq_true rfl⟩ ?_
  refine g_iload S dX5_contract_18 rfl ?_
  refine g_iconst S (v := 0) dX5_contract_20 (by decide) ?_
  refine g_iconst S (v := 2) dX5_contract_21 (by decide) ?_
  refine g_cSv S (k_needRange l D ty A tE el a _ _ _ _ (by exact hv4)) (va_cwS 3 S.2.2.2.2 gX5_contract_X5_needRange rfl rfl rfl (by decide +kernel) ⟨Nat.le_of_ble_eq_true rfl, Nat.le_of_ble_eq_true rfl⟩) hK hE (fun H h => h) rfl (Nat.le_of_ble_eq_true rfl) dX5_contract_22 ⟨Nat.le_of_ble_eq_true rfl, Nat.le_of_ble_eq_true rfl⟩ ?_
  refine g_iload S dX5_contract_25 rfl ?_
  refine g_iconst S (v := 1) dX5_contract_27 (by decide) ?_
  refine g_ldc S (S.2.2.2.2 _ (List.mem_of_getElem? (i := 5) rfl)) dX5_contract_28 ?_
  exact g_tcallS S ((t_needRange l D ty A hl tE el a _ (fun H H1 h hz hq => hC_grow h hz hq) _ _ _ (by exact hv))) (va_cwS 3 S.2.2.2.2 gX5_contract_X5_needRange rfl rfl rfl (by decide +kernel) ⟨Nat.le_of_ble_eq_true rfl, Nat.le_of_ble_eq_true rfl⟩) hK hE (fun H h => h) rfl (Nat.le_of_ble_eq_true rfl) dX5_contract_30 ⟨Nat.le_of_ble_eq_true rfl, Nat.le_of_ble_eq_true rfl⟩ (fun E => g_out hout hlk (fun H h => h) (Nat.le_of_ble_eq_true rfl) (Nat.le_of_ble_eq_true rfl))

set_option maxHeartbeats 1500000 in
set_option maxRecDepth 100000 in
theorem t_contract15 (l : Launch) (D : va_G) (ty : Nat → ClassId) (A : Nat → Prop) (hl : l.stackTraces = false) (tE : Nat) (el : Nat → Nat → Nat) (a : CS) (h6 : cOb a 6 0) (x1 x2 x3 x4 x5 x6 x7 : Int32) (hv1 : mIn x1 0 5 = true) (hv2 : mIn x2 0 5 = true) (hv3 : mIn x3 0 2 = true) (hv4 : mIn x4 0 2 = true) (hv5 : mIn x5 1 100000 = true) (hv : mIn x6 1 100 = false) : vx_Met l yX5_contract wsX5_contract rtX5_contract (gPc D ty true cstrs tE A [.ref (el 6 0), .int x1, .int x2, .int x3, .int x4, .int x5, .int x6, .int x7] (hC D ty A tE el a)) (gQ A (fun _ _ => False)) (gX A (fun E H => E = "java/lang/IllegalArgumentException" ∧ hC D ty A tE el a H)) 1 6 A := by
  refine g_tMet (cc := cX5_contract) (maxL := 10) (ret := (some .int)) [some (.ref (el 6 0)), some (.int x1), some (.int x2), some (.int x3), some (.int x4), some (.int x5), some (.int x6), some (.int x7), none, none] (by decide) rfl (Nat.le_of_ble_eq_true rfl) rfl ?_
  intro p e s m args below meth c S hlk hout hK hE hP0
  have S : CallFix p m c cX5_contract 10 s args wsX5_contract RX5 := S
  refine g_iload_n S dX5_contract_0 rfl ?_
  refine g_iconst S (v := 0) dX5_contract_1 (by decide) ?_
  refine g_iconst S (v := 5) dX5_contract_2 (by decide) ?_
  refine g_cSv S (k_needRange l D ty A tE el a _ _ _ _ (by exact hv1)) (va_cwS 3 S.2.2.2.2 gX5_contract_X5_needRange rfl rfl rfl (by decide +kernel) ⟨Nat.le_of_ble_eq_true rfl, Nat.le_of_ble_eq_true rfl⟩) hK hE (fun H h => h) rfl (Nat.le_of_ble_eq_true rfl) dX5_contract_3 ⟨Nat.le_of_ble_eq_true rfl, Nat.le_of_ble_eq_true rfl⟩ ?_
  refine g_iload_n S dX5_contract_6 rfl ?_
  refine g_iconst S (v := 0) dX5_contract_7 (by decide) ?_
  refine g_iconst S (v := 5) dX5_contract_8 (by decide) ?_
  refine g_cSv S (k_needRange l D ty A tE el a _ _ _ _ (by exact hv2)) (va_cwS 3 S.2.2.2.2 gX5_contract_X5_needRange rfl rfl rfl (by decide +kernel) ⟨Nat.le_of_ble_eq_true rfl, Nat.le_of_ble_eq_true rfl⟩) hK hE (fun H h => h) rfl (Nat.le_of_ble_eq_true rfl) dX5_contract_9 ⟨Nat.le_of_ble_eq_true rfl, Nat.le_of_ble_eq_true rfl⟩ ?_
  refine g_iload_n S dX5_contract_12 rfl ?_
  refine g_iconst S (v := 0) dX5_contract_13 (by decide) ?_
  refine g_iconst S (v := 2) dX5_contract_14 (by decide) ?_
  refine g_cSv S (k_needRange l D ty A tE el a _ _ _ _ (by exact hv3)) (va_cwS 3 S.2.2.2.2 gX5_contract_X5_needRange rfl rfl rfl (by decide +kernel) ⟨Nat.le_of_ble_eq_true rfl, Nat.le_of_ble_eq_true rfl⟩) hK hE (fun H h => h) rfl (Nat.le_of_ble_eq_true rfl) dX5_contract_15 ⟨Nat.le_of_ble_eq_true rfl, Nat.le_of_ble_eq_true rfl⟩ ?_
  refine g_iload S dX5_contract_18 rfl ?_
  refine g_iconst S (v := 0) dX5_contract_20 (by decide) ?_
  refine g_iconst S (v := 2) dX5_contract_21 (by decide) ?_
  refine g_cSv S (k_needRange l D ty A tE el a _ _ _ _ (by exact hv4)) (va_cwS 3 S.2.2.2.2 gX5_contract_X5_needRange rfl rfl rfl (by decide +kernel) ⟨Nat.le_of_ble_eq_true rfl, Nat.le_of_ble_eq_true rfl⟩) hK hE (fun H h => h) rfl (Nat.le_of_ble_eq_true rfl) dX5_contract_22 ⟨Nat.le_of_ble_eq_true rfl, Nat.le_of_ble_eq_true rfl⟩ ?_
  refine g_iload S dX5_contract_25 rfl ?_
  refine g_iconst S (v := 1) dX5_contract_27 (by decide) ?_
  refine g_ldc S (S.2.2.2.2 _ (List.mem_of_getElem? (i := 5) rfl)) dX5_contract_28 ?_
  refine g_cSv S (k_needRange l D ty A tE el a _ _ _ _ (by exact hv5)) (va_cwS 3 S.2.2.2.2 gX5_contract_X5_needRange rfl rfl rfl (by decide +kernel) ⟨Nat.le_of_ble_eq_true rfl, Nat.le_of_ble_eq_true rfl⟩) hK hE (fun H h => h) rfl (Nat.le_of_ble_eq_true rfl) dX5_contract_30 ⟨Nat.le_of_ble_eq_true rfl, Nat.le_of_ble_eq_true rfl⟩ ?_
  refine g_iload S dX5_contract_33 rfl ?_
  refine g_iconst S (v := 1) dX5_contract_35 (by decide) ?_
  refine g_bipush S (v := 100) dX5_contract_36 (by decide) ?_
  exact g_tcallS S ((t_needRange l D ty A hl tE el a _ (fun H H1 h hz hq => hC_grow h hz hq) _ _ _ (by exact hv))) (va_cwS 3 S.2.2.2.2 gX5_contract_X5_needRange rfl rfl rfl (by decide +kernel) ⟨Nat.le_of_ble_eq_true rfl, Nat.le_of_ble_eq_true rfl⟩) hK hE (fun H h => h) rfl (Nat.le_of_ble_eq_true rfl) dX5_contract_38 ⟨Nat.le_of_ble_eq_true rfl, Nat.le_of_ble_eq_true rfl⟩ (fun E => g_out hout hlk (fun H h => h) (Nat.le_of_ble_eq_true rfl) (Nat.le_of_ble_eq_true rfl))

set_option maxHeartbeats 1500000 in
set_option maxRecDepth 100000 in
theorem t_contract16 (l : Launch) (D : va_G) (ty : Nat → ClassId) (A : Nat → Prop) (hl : l.stackTraces = false) (tE : Nat) (el : Nat → Nat → Nat) (a : CS) (h6 : cOb a 6 0) (x1 x2 x3 x4 x5 x6 x7 : Int32) (hv1 : mIn x1 0 5 = true) (hv2 : mIn x2 0 5 = true) (hv3 : mIn x3 0 2 = true) (hv4 : mIn x4 0 2 = true) (hv5 : mIn x5 1 100000 = true) (hv6 : mIn x6 1 100 = true) (hv : mIn x7 0 1000 = false) : vx_Met l yX5_contract wsX5_contract rtX5_contract (gPc D ty true cstrs tE A [.ref (el 6 0), .int x1, .int x2, .int x3, .int x4, .int x5, .int x6, .int x7] (hC D ty A tE el a)) (gQ A (fun _ _ => False)) (gX A (fun E H => E = "java/lang/IllegalArgumentException" ∧ hC D ty A tE el a H)) 1 6 A := by
  refine g_tMet (cc := cX5_contract) (maxL := 10) (ret := (some .int)) [some (.ref (el 6 0)), some (.int x1), some (.int x2), some (.int x3), some (.int x4), some (.int x5), some (.int x6), some (.int x7), none, none] (by decide) rfl (Nat.le_of_ble_eq_true rfl) rfl ?_
  intro p e s m args below meth c S hlk hout hK hE hP0
  have S : CallFix p m c cX5_contract 10 s args wsX5_contract RX5 := S
  refine g_iload_n S dX5_contract_0 rfl ?_
  refine g_iconst S (v := 0) dX5_contract_1 (by decide) ?_
  refine g_iconst S (v := 5) dX5_contract_2 (by decide) ?_
  refine g_cSv S (k_needRange l D ty A tE el a _ _ _ _ (by exact hv1)) (va_cwS 3 S.2.2.2.2 gX5_contract_X5_needRange rfl rfl rfl (by decide +kernel) ⟨Nat.le_of_ble_eq_true rfl, Nat.le_of_ble_eq_true rfl⟩) hK hE (fun H h => h) rfl (Nat.le_of_ble_eq_true rfl) dX5_contract_3 ⟨Nat.le_of_ble_eq_true rfl, Nat.le_of_ble_eq_true rfl⟩ ?_
  refine g_iload_n S dX5_contract_6 rfl ?_
  refine g_iconst S (v := 0) dX5_contract_7 (by decide) ?_
  refine g_iconst S (v := 5) dX5_contract_8 (by decide) ?_
  refine g_cSv S (k_needRange l D ty A tE el a _ _ _ _ (by exact hv2)) (va_cwS 3 S.2.2.2.2 gX5_contract_X5_needRange rfl rfl rfl (by decide +kernel) ⟨Nat.le_of_ble_eq_true rfl, Nat.le_of_ble_eq_true rfl⟩) hK hE (fun H h => h) rfl (Nat.le_of_ble_eq_true rfl) dX5_contract_9 ⟨Nat.le_of_ble_eq_true rfl, Nat.le_of_ble_eq_true rfl⟩ ?_
  refine g_iload_n S dX5_contract_12 rfl ?_
  refine g_iconst S (v := 0) dX5_contract_13 (by decide) ?_
  refine g_iconst S (v := 2) dX5_contract_14 (by decide) ?_
  refine g_cSv S (k_needRange l D ty A tE el a _ _ _ _ (by exact hv3)) (va_cwS 3 S.2.2.2.2 gX5_contract_X5_needRange rfl rfl rfl (by decide +kernel) ⟨Nat.le_of_ble_eq_true rfl, Nat.le_of_ble_eq_true rfl⟩) hK hE (fun H h => h) rfl (Nat.le_of_ble_eq_true rfl) dX5_contract_15 ⟨Nat.le_of_ble_eq_true rfl, Nat.le_of_ble_eq_true rfl⟩ ?_
  refine g_iload S dX5_contract_18 rfl ?_
  refine g_iconst S (v := 0) dX5_contract_20 (by decide) ?_
  refine g_iconst S (v := 2) dX5_contract_21 (by decide) ?_
  refine g_cSv S (k_needRange l D ty A tE el a _ _ _ _ (by exact hv4)) (va_cwS 3 S.2.2.2.2 gX5_contract_X5_needRange rfl rfl rfl (by decide +kernel) ⟨Nat.le_of_ble_eq_true rfl, Nat.le_of_ble_eq_true rfl⟩) hK hE (fun H h => h) rfl (Nat.le_of_ble_eq_true rfl) dX5_contract_22 ⟨Nat.le_of_ble_eq_true rfl, Nat.le_of_ble_eq_true rfl⟩ ?_
  refine g_iload S dX5_contract_25 rfl ?_
  refine g_iconst S (v := 1) dX5_contract_27 (by decide) ?_
  refine g_ldc S (S.2.2.2.2 _ (List.mem_of_getElem? (i := 5) rfl)) dX5_contract_28 ?_
  refine g_cSv S (k_needRange l D ty A tE el a _ _ _ _ (by exact hv5)) (va_cwS 3 S.2.2.2.2 gX5_contract_X5_needRange rfl rfl rfl (by decide +kernel) ⟨Nat.le_of_ble_eq_true rfl, Nat.le_of_ble_eq_true rfl⟩) hK hE (fun H h => h) rfl (Nat.le_of_ble_eq_true rfl) dX5_contract_30 ⟨Nat.le_of_ble_eq_true rfl, Nat.le_of_ble_eq_true rfl⟩ ?_
  refine g_iload S dX5_contract_33 rfl ?_
  refine g_iconst S (v := 1) dX5_contract_35 (by decide) ?_
  refine g_bipush S (v := 100) dX5_contract_36 (by decide) ?_
  refine g_cSv S (k_needRange l D ty A tE el a _ _ _ _ (by exact hv6)) (va_cwS 3 S.2.2.2.2 gX5_contract_X5_needRange rfl rfl rfl (by decide +kernel) ⟨Nat.le_of_ble_eq_true rfl, Nat.le_of_ble_eq_true rfl⟩) hK hE (fun H h => h) rfl (Nat.le_of_ble_eq_true rfl) dX5_contract_38 ⟨Nat.le_of_ble_eq_true rfl, Nat.le_of_ble_eq_true rfl⟩ ?_
  refine g_iload S dX5_contract_41 rfl ?_
  refine g_iconst S (v := 0) dX5_contract_43 (by decide) ?_
  refine g_sipush S (v := 1000) dX5_contract_44 (by decide) ?_
  exact g_tcallS S ((t_needRange l D ty A hl tE el a _ (fun H H1 h hz hq => hC_grow h hz hq) _ _ _ (by exact hv))) (va_cwS 3 S.2.2.2.2 gX5_contract_X5_needRange rfl rfl rfl (by decide +kernel) ⟨Nat.le_of_ble_eq_true rfl, Nat.le_of_ble_eq_true rfl⟩) hK hE (fun H h => h) rfl (Nat.le_of_ble_eq_true rfl) dX5_contract_47 ⟨Nat.le_of_ble_eq_true rfl, Nat.le_of_ble_eq_true rfl⟩ (fun E => g_out hout hlk (fun H h => h) (Nat.le_of_ble_eq_true rfl) (Nat.le_of_ble_eq_true rfl))

set_option maxHeartbeats 1500000 in
set_option maxRecDepth 100000 in
theorem t_contract17 (l : Launch) (D : va_G) (ty : Nat → ClassId) (A : Nat → Prop) (hl : l.stackTraces = false) (tE : Nat) (el : Nat → Nat → Nat) (a : CS) (h6 : cOb a 6 0) (x1 x2 x3 x4 x5 x6 x7 : Int32) (hv1 : mIn x1 0 5 = true) (hv2 : mIn x2 0 5 = true) (hv3 : mIn x3 0 2 = true) (hv4 : mIn x4 0 2 = true) (hv5 : mIn x5 1 100000 = true) (hv6 : mIn x6 1 100 = true) (hv7 : mIn x7 0 1000 = true) (heq : x1 = x2) : vx_Met l yX5_contract wsX5_contract rtX5_contract (gPc D ty true cstrs tE A [.ref (el 6 0), .int x1, .int x2, .int x3, .int x4, .int x5, .int x6, .int x7] (hC D ty A tE el a)) (gQ A (fun _ _ => False)) (gX A (fun E H => E = "java/lang/IllegalArgumentException" ∧ hC D ty A tE el a H)) 1 6 A := by
  refine g_tMet (cc := cX5_contract) (maxL := 10) (ret := (some .int)) [some (.ref (el 6 0)), some (.int x1), some (.int x2), some (.int x3), some (.int x4), some (.int x5), some (.int x6), some (.int x7), none, none] (by decide) rfl (Nat.le_of_ble_eq_true rfl) rfl ?_
  intro p e s m args below meth c S hlk hout hK hE hP0
  have S : CallFix p m c cX5_contract 10 s args wsX5_contract RX5 := S
  refine g_iload_n S dX5_contract_0 rfl ?_
  refine g_iconst S (v := 0) dX5_contract_1 (by decide) ?_
  refine g_iconst S (v := 5) dX5_contract_2 (by decide) ?_
  refine g_cSv S (k_needRange l D ty A tE el a _ _ _ _ (by exact hv1)) (va_cwS 3 S.2.2.2.2 gX5_contract_X5_needRange rfl rfl rfl (by decide +kernel) ⟨Nat.le_of_ble_eq_true rfl, Nat.le_of_ble_eq_true rfl⟩) hK hE (fun H h => h) rfl (Nat.le_of_ble_eq_true rfl) dX5_contract_3 ⟨Nat.le_of_ble_eq_true rfl, Nat.le_of_ble_eq_true rfl⟩ ?_
  refine g_iload_n S dX5_contract_6 rfl ?_
  refine g_iconst S (v := 0) dX5_contract_7 (by decide) ?_
  refine g_iconst S (v := 5) dX5_contract_8 (by decide) ?_
  refine g_cSv S (k_needRange l D ty A tE el a _ _ _ _ (by exact hv2)) (va_cwS 3 S.2.2.2.2 gX5_contract_X5_needRange rfl rfl rfl (by decide +kernel) ⟨Nat.le_of_ble_eq_true rfl, Nat.le_of_ble_eq_true rfl⟩) hK hE (fun H h => h) rfl (Nat.le_of_ble_eq_true rfl) dX5_contract_9 ⟨Nat.le_of_ble_eq_true rfl, Nat.le_of_ble_eq_true rfl⟩ ?_
  refine g_iload_n S dX5_contract_12 rfl ?_
  refine g_iconst S (v := 0) dX5_contract_13 (by decide) ?_
  refine g_iconst S (v := 2) dX5_contract_14 (by decide) ?_
  refine g_cSv S (k_needRange l D ty A tE el a _ _ _ _ (by exact hv3)) (va_cwS 3 S.2.2.2.2 gX5_contract_X5_needRange rfl rfl rfl (by decide +kernel) ⟨Nat.le_of_ble_eq_true rfl, Nat.le_of_ble_eq_true rfl⟩) hK hE (fun H h => h) rfl (Nat.le_of_ble_eq_true rfl) dX5_contract_15 ⟨Nat.le_of_ble_eq_true rfl, Nat.le_of_ble_eq_true rfl⟩ ?_
  refine g_iload S dX5_contract_18 rfl ?_
  refine g_iconst S (v := 0) dX5_contract_20 (by decide) ?_
  refine g_iconst S (v := 2) dX5_contract_21 (by decide) ?_
  refine g_cSv S (k_needRange l D ty A tE el a _ _ _ _ (by exact hv4)) (va_cwS 3 S.2.2.2.2 gX5_contract_X5_needRange rfl rfl rfl (by decide +kernel) ⟨Nat.le_of_ble_eq_true rfl, Nat.le_of_ble_eq_true rfl⟩) hK hE (fun H h => h) rfl (Nat.le_of_ble_eq_true rfl) dX5_contract_22 ⟨Nat.le_of_ble_eq_true rfl, Nat.le_of_ble_eq_true rfl⟩ ?_
  refine g_iload S dX5_contract_25 rfl ?_
  refine g_iconst S (v := 1) dX5_contract_27 (by decide) ?_
  refine g_ldc S (S.2.2.2.2 _ (List.mem_of_getElem? (i := 5) rfl)) dX5_contract_28 ?_
  refine g_cSv S (k_needRange l D ty A tE el a _ _ _ _ (by exact hv5)) (va_cwS 3 S.2.2.2.2 gX5_contract_X5_needRange rfl rfl rfl (by decide +kernel) ⟨Nat.le_of_ble_eq_true rfl, Nat.le_of_ble_eq_true rfl⟩) hK hE (fun H h => h) rfl (Nat.le_of_ble_eq_true rfl) dX5_contract_30 ⟨Nat.le_of_ble_eq_true rfl, Nat.le_of_ble_eq_true rfl⟩ ?_
  refine g_iload S dX5_contract_33 rfl ?_
  refine g_iconst S (v := 1) dX5_contract_35 (by decide) ?_
  refine g_bipush S (v := 100) dX5_contract_36 (by decide) ?_
  refine g_cSv S (k_needRange l D ty A tE el a _ _ _ _ (by exact hv6)) (va_cwS 3 S.2.2.2.2 gX5_contract_X5_needRange rfl rfl rfl (by decide +kernel) ⟨Nat.le_of_ble_eq_true rfl, Nat.le_of_ble_eq_true rfl⟩) hK hE (fun H h => h) rfl (Nat.le_of_ble_eq_true rfl) dX5_contract_38 ⟨Nat.le_of_ble_eq_true rfl, Nat.le_of_ble_eq_true rfl⟩ ?_
  refine g_iload S dX5_contract_41 rfl ?_
  refine g_iconst S (v := 0) dX5_contract_43 (by decide) ?_
  refine g_sipush S (v := 1000) dX5_contract_44 (by decide) ?_
  refine g_cSv S (k_needRange l D ty A tE el a _ _ _ _ (by exact hv7)) (va_cwS 3 S.2.2.2.2 gX5_contract_X5_needRange rfl rfl rfl (by decide +kernel) ⟨Nat.le_of_ble_eq_true rfl, Nat.le_of_ble_eq_true rfl⟩) hK hE (fun H h => h) rfl (Nat.le_of_ble_eq_true rfl) dX5_contract_47 ⟨Nat.le_of_ble_eq_true rfl, Nat.le_of_ble_eq_true rfl⟩ ?_
  refine g_iload_n S dX5_contract_50 rfl ?_
  refine g_iload_n S dX5_contract_51 rfl ?_
  refine g_icmp_ne S (tgt := 65) dX5_contract_52 (by decide) (fun c_52 => ?_) (fun c_52 => ?_)
  · exact absurd heq c_52
  · exact g_throwS S hl (cls := "java/lang/IllegalArgumentException") (text := "the buyer is the seller") (names := ["java/lang/RuntimeException", "java/lang/Exception"]) (by decide) (by decide) (S.2.2.2.2 _ (List.mem_of_getElem? (i := 1) rfl)) (S.2.2.2.2 _ (List.mem_of_getElem? (i := 2) rfl)) (by decide +kernel) (by decide +kernel) (by decide +kernel) hE (by decide +kernel) dX5_contract_55 dX5_contract_58 dX5_contract_59 dX5_contract_61 dX5_contract_64 hout rfl rfl ⟨Nat.le_of_ble_eq_true rfl, Nat.le_of_ble_eq_true rfl⟩ ⟨Nat.le_of_ble_eq_true rfl, Nat.le_of_ble_eq_true rfl⟩ hlk (fun H H1 hP hz hq => ⟨rfl, hC_grow hP hz hq⟩) (Nat.le_of_ble_eq_true rfl) (Nat.le_of_ble_eq_true rfl)

set_option maxHeartbeats 1500000 in
set_option maxRecDepth 100000 in
theorem t_contract2 (l : Launch) (D : va_G) (ty : Nat → ClassId) (A : Nat → Prop) (hl : l.stackTraces = false) (tE : Nat) (el : Nat → Nat → Nat) (a : CS) (h6 : cOb a 6 0) (x1 x2 x3 x4 x5 x6 x7 : Int32) (hv1 : mIn x1 0 5 = true) (hv2 : mIn x2 0 5 = true) (hv3 : mIn x3 0 2 = true) (hv4 : mIn x4 0 2 = true) (hv5 : mIn x5 1 100000 = true) (hv6 : mIn x6 1 100 = true) (hv7 : mIn x7 0 1000 = true) (hne : ¬ x1 = x2) (hc30 : 30 ≤ cL a 3) (hb : cL a 3 < 100) : vx_Met l yX5_contract wsX5_contract rtX5_contract (gPc D ty true cstrs tE A [.ref (el 6 0), .int x1, .int x2, .int x3, .int x4, .int x5, .int x6, .int x7] (hC D ty A tE el a)) (gQ A (fun _ _ => False)) (gX A (fun E H => E = "java/lang/IllegalStateException" ∧ hC D ty A tE el a H)) 1 6 A := by
  refine g_tMet (cc := cX5_contract) (maxL := 10) (ret := (some .int)) [some (.ref (el 6 0)), some (.int x1), some (.int x2), some (.int x3), some (.int x4), some (.int x5), some (.int x6), some (.int x7), none, none] (by decide) rfl (Nat.le_of_ble_eq_true rfl) rfl ?_
  intro p e s m args below meth c S hlk hout hK hE hP0
  have S : CallFix p m c cX5_contract 10 s args wsX5_contract RX5 := S
  refine g_iload_n S dX5_contract_0 rfl ?_
  refine g_iconst S (v := 0) dX5_contract_1 (by decide) ?_
  refine g_iconst S (v := 5) dX5_contract_2 (by decide) ?_
  refine g_cSv S (k_needRange l D ty A tE el a _ _ _ _ (by exact hv1)) (va_cwS 3 S.2.2.2.2 gX5_contract_X5_needRange rfl rfl rfl (by decide +kernel) ⟨Nat.le_of_ble_eq_true rfl, Nat.le_of_ble_eq_true rfl⟩) hK hE (fun H h => h) rfl (Nat.le_of_ble_eq_true rfl) dX5_contract_3 ⟨Nat.le_of_ble_eq_true rfl, Nat.le_of_ble_eq_true rfl⟩ ?_
  refine g_iload_n S dX5_contract_6 rfl ?_
  refine g_iconst S (v := 0) dX5_contract_7 (by decide) ?_
  refine g_iconst S (v := 5) dX5_contract_8 (by decide) ?_
  refine g_cSv S (k_needRange l D ty A tE el a _ _ _ _ (by exact hv2)) (va_cwS 3 S.2.2.2.2 gX5_contract_X5_needRange rfl rfl rfl (by decide +kernel) ⟨Nat.le_of_ble_eq_true rfl, Nat.le_of_ble_eq_true rfl⟩) hK hE (fun H h => h) rfl (Nat.le_of_ble_eq_true rfl) dX5_contract_9 ⟨Nat.le_of_ble_eq_true rfl, Nat.le_of_ble_eq_true rfl⟩ ?_
  refine g_iload_n S dX5_contract_12 rfl ?_
  refine g_iconst S (v := 0) dX5_contract_13 (by decide) ?_
  refine g_iconst S (v := 2) dX5_contract_14 (by decide) ?_
  refine g_cSv S (k_needRange l D ty A tE el a _ _ _ _ (by exact hv3)) (va_cwS 3 S.2.2.2.2 gX5_contract_X5_needRange rfl rfl rfl (by decide +kernel) ⟨Nat.le_of_ble_eq_true rfl, Nat.le_of_ble_eq_true rfl⟩) hK hE (fun H h => h) rfl (Nat.le_of_ble_eq_true rfl) dX5_contract_15 ⟨Nat.le_of_ble_eq_true rfl, Nat.le_of_ble_eq_true rfl⟩ ?_
  refine g_iload S dX5_contract_18 rfl ?_
  refine g_iconst S (v := 0) dX5_contract_20 (by decide) ?_
  refine g_iconst S (v := 2) dX5_contract_21 (by decide) ?_
  refine g_cSv S (k_needRange l D ty A tE el a _ _ _ _ (by exact hv4)) (va_cwS 3 S.2.2.2.2 gX5_contract_X5_needRange rfl rfl rfl (by decide +kernel) ⟨Nat.le_of_ble_eq_true rfl, Nat.le_of_ble_eq_true rfl⟩) hK hE (fun H h => h) rfl (Nat.le_of_ble_eq_true rfl) dX5_contract_22 ⟨Nat.le_of_ble_eq_true rfl, Nat.le_of_ble_eq_true rfl⟩ ?_
  refine g_iload S dX5_contract_25 rfl ?_
  refine g_iconst S (v := 1) dX5_contract_27 (by decide) ?_
  refine g_ldc S (S.2.2.2.2 _ (List.mem_of_getElem? (i := 5) rfl)) dX5_contract_28 ?_
  refine g_cSv S (k_needRange l D ty A tE el a _ _ _ _ (by exact hv5)) (va_cwS 3 S.2.2.2.2 gX5_contract_X5_needRange rfl rfl rfl (by decide +kernel) ⟨Nat.le_of_ble_eq_true rfl, Nat.le_of_ble_eq_true rfl⟩) hK hE (fun H h => h) rfl (Nat.le_of_ble_eq_true rfl) dX5_contract_30 ⟨Nat.le_of_ble_eq_true rfl, Nat.le_of_ble_eq_true rfl⟩ ?_
  refine g_iload S dX5_contract_33 rfl ?_
  refine g_iconst S (v := 1) dX5_contract_35 (by decide) ?_
  refine g_bipush S (v := 100) dX5_contract_36 (by decide) ?_
  refine g_cSv S (k_needRange l D ty A tE el a _ _ _ _ (by exact hv6)) (va_cwS 3 S.2.2.2.2 gX5_contract_X5_needRange rfl rfl rfl (by decide +kernel) ⟨Nat.le_of_ble_eq_true rfl, Nat.le_of_ble_eq_true rfl⟩) hK hE (fun H h => h) rfl (Nat.le_of_ble_eq_true rfl) dX5_contract_38 ⟨Nat.le_of_ble_eq_true rfl, Nat.le_of_ble_eq_true rfl⟩ ?_
  refine g_iload S dX5_contract_41 rfl ?_
  refine g_iconst S (v := 0) dX5_contract_43 (by decide) ?_
  refine g_sipush S (v := 1000) dX5_contract_44 (by decide) ?_
  refine g_cSv S (k_needRange l D ty A tE el a _ _ _ _ (by exact hv7)) (va_cwS 3 S.2.2.2.2 gX5_contract_X5_needRange rfl rfl rfl (by decide +kernel) ⟨Nat.le_of_ble_eq_true rfl, Nat.le_of_ble_eq_true rfl⟩) hK hE (fun H h => h) rfl (Nat.le_of_ble_eq_true rfl) dX5_contract_47 ⟨Nat.le_of_ble_eq_true rfl, Nat.le_of_ble_eq_true rfl⟩ ?_
  refine g_iload_n S dX5_contract_50 rfl ?_
  refine g_iload_n S dX5_contract_51 rfl ?_
  refine g_icmp_ne S (tgt := 65) dX5_contract_52 (by decide) (fun c_52 => ?_) (fun c_52 => ?_)
  · refine g_aload_n S dX5_contract_65 rfl ?_
    refine k6_get S hK (by exact cOb6) 3 (by decide) (S.2.2.2.2 _ (List.mem_of_getElem? (i := 6) rfl)) rfl dX5_contract_66 ?_
    refine g_cVr S (k_size l D ty A tE el a (j := 3) (by decide)) (cwV 0 S.2.2.2.2 gX5_contract_Jx4a65c_size_8abf5 rfl rfl rfl (by decide +kernel) ⟨Nat.le_of_ble_eq_true rfl, Nat.le_of_ble_eq_true rfl⟩) hK hE (fun H h => h) (k0_recv hK (j := 3) (by decide)) rfl (Nat.le_of_ble_eq_true rfl) dX5_contract_69 ⟨Nat.le_of_ble_eq_true rfl, Nat.le_of_ble_eq_true rfl⟩ ?_
    refine g_istore S dX5_contract_72 (by decide) rfl ?_
    refine g_iload S dX5_contract_74 rfl ?_
    refine g_bipush S (v := 30) dX5_contract_76 (by decide) ?_
    refine g_icmp_lt S (tgt := 91) dX5_contract_78 (by decide) (fun c_78 => ?_) (fun c_78 => ?_)
    · exact absurd c_78 (nI_nlt (b := 30) hc30 (by omega))
    · exact g_throwS S hl (cls := "java/lang/IllegalStateException") (text := "there are thirty contracts") (names := ["java/lang/RuntimeException", "java/lang/Exception"]) (by decide) (by decide) (S.2.2.2.2 _ (List.mem_of_getElem? (i := 3) rfl)) (S.2.2.2.2 _ (List.mem_of_getElem? (i := 4) rfl)) (by decide +kernel) (by decide +kernel) (by decide +kernel) hE (by decide +kernel) dX5_contract_81 dX5_contract_84 dX5_contract_85 dX5_contract_87 dX5_contract_90 hout rfl rfl ⟨Nat.le_of_ble_eq_true rfl, Nat.le_of_ble_eq_true rfl⟩ ⟨Nat.le_of_ble_eq_true rfl, Nat.le_of_ble_eq_true rfl⟩ hlk (fun H H1 hP hz hq => ⟨rfl, hC_grow hP hz hq⟩) (Nat.le_of_ble_eq_true rfl) (Nat.le_of_ble_eq_true rfl)
  · exact absurd c_52 hne

