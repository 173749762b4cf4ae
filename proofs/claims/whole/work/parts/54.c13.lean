/-! payments of any holder; what is taken back; a new holder -/
def kPayT (a : CS) (i j : Int32) (x : Int64) : CS := if i < 0 then a else if 6 ≤ i then a else if j < 0 then a else if 6 ≤ j then a else kPay a i j x
def kOweT (a : CS) (i x : Int32) : CS := if i < 0 then a else if 6 ≤ i then a else kOwe a i x
theorem kPayT_same (a : CS) (i j : Int32) (x : Int64) : (kPayT a i j x).1 = a.1 ∧ (kPayT a i j x).2.2.1 = a.2.2.1 ∧ (kPayT a i j x).2.2.2.2.2 = a.2.2.2.2.2 ∧ (kPayT a i j x).2.1 = a.2.1 := by
  unfold kPayT
  split <;> (try split) <;> (try split) <;> (try split) <;> exact ⟨rfl, rfl, rfl, rfl⟩
theorem kOweT_same (a : CS) (i x : Int32) : (kOweT a i x).1 = a.1 ∧ (kOweT a i x).2.2.1 = a.2.2.1 ∧ (kOweT a i x).2.2.2.2.2 = a.2.2.2.2.2 ∧ (kOweT a i x).2.1 = a.2.1 := by
  unfold kOweT
  split <;> (try split) <;> exact ⟨rfl, rfl, rfl, rfl⟩
set_option maxHeartbeats 1500000 in
set_option maxRecDepth 100000 in
theorem k_payT (l : Launch) (D : va_G) (ty : Nat → ClassId) (A : Nat → Prop) (tE : Nat) (el : Nat → Nat → Nat) (a : CS) (h6 : cOb a 6 0) (i j : Int32) (x : Int64) : Met l yX5_pay wsX5_pay rmX5_pay (gPc D ty true cstrs tE A [.ref (el 6 0), .int i, .int j, .long x] (hC D ty A tE el a)) (gQ A (gRet none (hC D ty A tE el (kPayT a i j x)))) 0 0 A := by
  refine g_Met (cc := cX5_pay) (maxL := 5) (ret := none) [some (.ref (el 6 0)), some (.int i), some (.int j), some (.long x), none] (by decide) rfl (Nat.le_of_ble_eq_true rfl) rfl ?_
  intro p e s m args below meth c S hlk hr hnm hK hE hP0
  have S : CallFix p m c cX5_pay 5 s args wsX5_pay RX5 := S
  refine g_iload_n S dX5_pay_0 rfl ?_
  refine g_if_lt S (tgt := 46) dX5_pay_1 (by decide) (fun c_1 => ?_) (fun c_1 => ?_)
  · exact g_vret S hlk hr (fun H h => ⟨rfl, by unfold kPayT; rw [if_pos c_1]; exact h⟩) (Nat.le_refl _) (Nat.le_refl _) dX5_pay_46
  · refine g_iload_n S dX5_pay_4 rfl ?_
    refine g_aload_n S dX5_pay_5 rfl ?_
    refine k6_get S hK (by exact h6) 4 (by decide) (S.2.2.2.2 _ (List.mem_of_getElem? (i := 1) rfl)) rfl dX5_pay_6 ?_
    refine k8_alen S hK dX5_pay_9 ?_
    refine g_icmp_ge S (tgt := 46) dX5_pay_10 (by decide) (fun c_10 => ?_) (fun c_10 => ?_)
    · exact g_vret S hlk hr (fun H h => ⟨rfl, by unfold kPayT; rw [if_neg c_1, if_pos c_10]; exact h⟩) (Nat.le_refl _) (Nat.le_refl _) dX5_pay_46
    · refine g_iload_n S dX5_pay_13 rfl ?_
      refine g_if_lt S (tgt := 46) dX5_pay_14 (by decide) (fun c_14 => ?_) (fun c_14 => ?_)
      · exact g_vret S hlk hr (fun H h => ⟨rfl, by unfold kPayT; rw [if_neg c_1, if_neg c_10, if_pos c_14]; exact h⟩) (Nat.le_refl _) (Nat.le_refl _) dX5_pay_46
      · refine g_iload_n S dX5_pay_17 rfl ?_
        refine g_aload_n S dX5_pay_18 rfl ?_
        refine k6_get S hK (by exact h6) 4 (by decide) (S.2.2.2.2 _ (List.mem_of_getElem? (i := 1) rfl)) rfl dX5_pay_19 ?_
        refine k8_alen S hK dX5_pay_22 ?_
        refine g_icmp_ge S (tgt := 46) dX5_pay_23 (by decide) (fun c_23 => ?_) (fun c_23 => ?_)
        · exact g_vret S hlk hr (fun H h => ⟨rfl, by unfold kPayT; rw [if_neg c_1, if_neg c_10, if_neg c_14, if_pos c_23]; exact h⟩) (Nat.le_refl _) (Nat.le_refl _) dX5_pay_46
        · refine g_aload_n S dX5_pay_26 rfl ?_
          refine k6_get S hK (by exact h6) 4 (by decide) (S.2.2.2.2 _ (List.mem_of_getElem? (i := 1) rfl)) rfl dX5_pay_27 ?_
          refine g_iload_n S dX5_pay_30 rfl ?_
          refine g_dup2_11 S dX5_pay_31 rfl rfl ?_
          refine k8_lald S hK (vin_of c_1 (Int32.not_le.mp c_10) (n := 6) (by decide)) dX5_pay_32 ?_
          refine g_lload_n S dX5_pay_33 rfl ?_
          refine g_lsub S dX5_pay_34 ?_
          refine k8_last S hK (vin_of c_1 (Int32.not_le.mp c_10) (n := 6) (by decide)) dX5_pay_35 ?_
          refine g_aload_n S dX5_pay_36 rfl ?_
          refine k6_get S hK (by exact h6) 4 (by decide) (S.2.2.2.2 _ (List.mem_of_getElem? (i := 1) rfl)) rfl dX5_pay_37 ?_
          refine g_iload_n S dX5_pay_40 rfl ?_
          refine g_dup2_11 S dX5_pay_41 rfl rfl ?_
          refine k8_lald S hK (vin_of c_14 (Int32.not_le.mp c_23) (n := 6) (by decide)) dX5_pay_42 ?_
          refine g_lload_n S dX5_pay_43 rfl ?_
          refine g_ladd S dX5_pay_44 ?_
          refine k8_last S hK (vin_of c_14 (Int32.not_le.mp c_23) (n := 6) (by decide)) dX5_pay_45 ?_
          exact g_vret S hlk hr (fun H h => ⟨rfl, by unfold kPayT; rw [if_neg c_1, if_neg c_10, if_neg c_14, if_neg c_23]; exact h⟩) (Nat.le_refl _) (Nat.le_refl _) dX5_pay_46

set_option maxHeartbeats 1500000 in
set_option maxRecDepth 100000 in
theorem k_oweT (l : Launch) (D : va_G) (ty : Nat → ClassId) (A : Nat → Prop) (tE : Nat) (el : Nat → Nat → Nat) (a : CS) (h6 : cOb a 6 0) (i x : Int32) : Met l yX5_owe wsX5_owe rmX5_owe (gPc D ty true cstrs tE A [.ref (el 6 0), .int i, .int x] (hC D ty A tE el a)) (gQ A (gRet none (hC D ty A tE el (kOweT a i x)))) 0 0 A := by
  refine g_Met (cc := cX5_owe) (maxL := 3) (ret := none) [some (.ref (el 6 0)), some (.int i), some (.int x)] (by decide) rfl (Nat.le_of_ble_eq_true rfl) rfl ?_
  intro p e s m args below meth c S hlk hr hnm hK hE hP0
  have S : CallFix p m c cX5_owe 3 s args wsX5_owe RX5 := S
  refine g_iload_n S dX5_owe_0 rfl ?_
  refine g_if_lt S (tgt := 23) dX5_owe_1 (by decide) (fun c_1 => ?_) (fun c_1 => ?_)
  · exact g_vret S hlk hr (fun H h => ⟨rfl, by unfold kOweT; rw [if_pos c_1]; exact h⟩) (Nat.le_refl _) (Nat.le_refl _) dX5_owe_23
  · refine g_iload_n S dX5_owe_4 rfl ?_
    refine g_aload_n S dX5_owe_5 rfl ?_
    refine k6_get S hK (by exact h6) 5 (by decide) (S.2.2.2.2 _ (List.mem_of_getElem? (i := 1) rfl)) rfl dX5_owe_6 ?_
    refine k9_alen S hK dX5_owe_9 ?_
    refine g_icmp_ge S (tgt := 23) dX5_owe_10 (by decide) (fun c_10 => ?_) (fun c_10 => ?_)
    · exact g_vret S hlk hr (fun H h => ⟨rfl, by unfold kOweT; rw [if_neg c_1, if_pos c_10]; exact h⟩) (Nat.le_refl _) (Nat.le_refl _) dX5_owe_23
    · refine g_aload_n S dX5_owe_13 rfl ?_
      refine k6_get S hK (by exact h6) 5 (by decide) (S.2.2.2.2 _ (List.mem_of_getElem? (i := 1) rfl)) rfl dX5_owe_14 ?_
      refine g_iload_n S dX5_owe_17 rfl ?_
      refine g_dup2_11 S dX5_owe_18 rfl rfl ?_
      refine k9_iald S hK (vin_of c_1 (Int32.not_le.mp c_10) (n := 6) (by decide)) dX5_owe_19 ?_
      refine g_iload_n S dX5_owe_20 rfl ?_
      refine g_iadd S dX5_owe_21 ?_
      refine k9_iast S hK (vin_of c_1 (Int32.not_le.mp c_10) (n := 6) (by decide)) dX5_owe_22 ?_
      exact g_vret S hlk hr (fun H h => ⟨rfl, by unfold kOweT; rw [if_neg c_1, if_neg c_10]; exact h⟩) (Nat.le_refl _) (Nat.le_refl _) dX5_owe_23

def kPftN (a : CS) (r : Nat) (dl x : Int32) : CS := kPayT a dl (cI a 5 2 (kT a r)) (x.toInt64 * (cI a 6 7 0).toInt64)
def kPftC (a : CS) (r c : Nat) (x : Int32) : CS :=
  let b := kPayT a (cI a 1 1 c) (cI a 5 2 (kT a r)) (x.toInt64 * (cI a 1 7 c).toInt64)
  let b := cSI b 1 9 c (cI b 1 9 c - x)
  cSI b 1 10 c (cI b 1 10 c + x)
def kPft (a : CS) (r : Nat) (dl x : Int32) : CS := match cR a 3 7 r with
  | none => kPftN a r dl x
  | some c => kPftC a r c x
theorem kPft_same (a : CS) (r : Nat) (dl x : Int32) : (kPft a r dl x).1 = a.1 ∧ (kPft a r dl x).2.2.1 = a.2.2.1 ∧ (kPft a r dl x).2.2.2.2.2 = a.2.2.2.2.2 := by
  unfold kPft
  split
  · obtain ⟨h1, h2, h3, -⟩ := kPayT_same a dl (cI a 5 2 (kT a r)) (x.toInt64 * (cI a 6 7 0).toInt64)
    exact ⟨h1, h2, h3⟩
  · rename_i c _
    obtain ⟨h1, h2, h3, -⟩ := kPayT_same a (cI a 1 1 c) (cI a 5 2 (kT a r)) (x.toInt64 * (cI a 1 7 c).toInt64)
    exact ⟨h1, h2, h3⟩
set_option maxHeartbeats 1500000 in
set_option maxRecDepth 100000 in
theorem k_pftN (l : Launch) (D : va_G) (ty : Nat → ClassId) (A : Nat → Prop) (tE : Nat) (el : Nat → Nat → Nat) (a : CS) (h6 : cOb a 6 0) {r : Nat} (h3 : cOb a 3 r) (ht : cR a 3 2 r = some (kT a r)) (h5 : cOb a 5 (kT a r)) (dl x : Int32) (hk : cR a 3 7 r = none) : Met l yX5_payForTaken wsX5_payForTaken rmX5_payForTaken (gPc D ty true cstrs tE A [.ref (el 6 0), .ref (el 3 r), .int dl, .int x] (hC D ty A tE el a)) (gQ A (gRet none (hC D ty A tE el (kPftN a r dl x)))) 0 0 A := by
  refine g_Met (cc := cX5_payForTaken) (maxL := 5) (ret := none) [some (.ref (el 6 0)), some (.ref (el 3 r)), some (.int dl), some (.int x), none] (by decide) rfl (Nat.le_of_ble_eq_true rfl) rfl ?_
  intro p e s m args below meth c S hlk hr hnm hK hE hP0
  have S : CallFix p m c cX5_payForTaken 5 s args wsX5_payForTaken RX5 := S
  refine g_aload_n S dX5_payForTaken_0 rfl ?_
  refine k3_getN S hK (by exact h3) 7 (by decide) (by exact hk) (S.2.2.2.2 _ (List.mem_of_getElem? (i := 1) rfl)) rfl dX5_payForTaken_1 ?_
  refine g_astoreN S dX5_payForTaken_4 (by decide) rfl ?_
  refine g_aloadN S dX5_payForTaken_6 rfl ?_
  refine g_ifnonnullN S dX5_payForTaken_8 ?_
  refine g_aload_n S dX5_payForTaken_11 rfl ?_
  refine g_iload_n S dX5_payForTaken_12 rfl ?_
  refine g_aload_n S dX5_payForTaken_13 rfl ?_
  refine g_cVr S (k_holder l D ty A tE el _ (by exact h3) (by exact ht) (by exact h5)) (cwV 0 S.2.2.2.2 gX5_payForTaken_X2_holder rfl rfl rfl (by decide +kernel) ⟨Nat.le_of_ble_eq_true rfl, Nat.le_of_ble_eq_true rfl⟩) hK hE (fun H h => h) (k3_recv hK (by exact h3)) rfl (Nat.le_of_ble_eq_true rfl) dX5_payForTaken_14 ⟨Nat.le_of_ble_eq_true rfl, Nat.le_of_ble_eq_true rfl⟩ ?_
  refine g_iload_n S dX5_payForTaken_17 rfl ?_
  refine g_i2l S dX5_payForTaken_18 ?_
  refine g_aload_n S dX5_payForTaken_19 rfl ?_
  refine k6_get S hK (by exact h6) 7 (by decide) (S.2.2.2.2 _ (List.mem_of_getElem? (i := 2) rfl)) rfl dX5_payForTaken_20 ?_
  refine g_i2l S dX5_payForTaken_23 ?_
  refine g_lmul S dX5_payForTaken_24 ?_
  refine g_cVv S (k_payT l D ty A tE el _ (by exact h6) _ _ _) (cwV 3 S.2.2.2.2 gX5_payForTaken_X5_pay rfl rfl rfl (by decide +kernel) ⟨Nat.le_of_ble_eq_true rfl, Nat.le_of_ble_eq_true rfl⟩) hK hE (fun H h => h) (k6_recv hK h6) rfl (Nat.le_of_ble_eq_true rfl) dX5_payForTaken_25 ⟨Nat.le_of_ble_eq_true rfl, Nat.le_of_ble_eq_true rfl⟩ ?_
  refine g_goto S (tgt := 75) dX5_payForTaken_28 (by decide) ?_
  exact g_vret S hlk hr (fun H h => ⟨rfl, h⟩) (Nat.le_refl _) (Nat.le_refl _) dX5_payForTaken_75

set_option maxHeartbeats 1500000 in
set_option maxRecDepth 100000 in
theorem k_pftC (l : Launch) (D : va_G) (ty : Nat → ClassId) (A : Nat → Prop) (tE : Nat) (el : Nat → Nat → Nat) (a : CS) (h6 : cOb a 6 0) {r : Nat} (h3 : cOb a 3 r) (ht : cR a 3 2 r = some (kT a r)) (h5 : cOb a 5 (kT a r)) (dl x : Int32) {c9 : Nat} (hk : cR a 3 7 r = some c9) (h1 : cOb a 1 c9) : Met l yX5_payForTaken wsX5_payForTaken rmX5_payForTaken (gPc D ty true cstrs tE A [.ref (el 6 0), .ref (el 3 r), .int dl, .int x] (hC D ty A tE el a)) (gQ A (gRet none (hC D ty A tE el (kPftC a r c9 x)))) 0 0 A := by
  refine g_Met (cc := cX5_payForTaken) (maxL := 5) (ret := none) [some (.ref (el 6 0)), some (.ref (el 3 r)), some (.int dl), some (.int x), none] (by decide) rfl (Nat.le_of_ble_eq_true rfl) rfl ?_
  intro p e s m args below meth c S hlk hr hnm hK hE hP0
  have S : CallFix p m c cX5_payForTaken 5 s args wsX5_payForTaken RX5 := S
  refine g_aload_n S dX5_payForTaken_0 rfl ?_
  refine k3_getR S hK (by exact h3) 7 (by decide) (by exact hk) (S.2.2.2.2 _ (List.mem_of_getElem? (i := 1) rfl)) rfl dX5_payForTaken_1 ?_
  refine g_astore S dX5_payForTaken_4 (by decide) rfl ?_
  refine g_aload S dX5_payForTaken_6 rfl ?_
  refine g_ifnonnull S (tgt := 31) dX5_payForTaken_8 (by decide) ?_
  refine g_aload_n S dX5_payForTaken_31 rfl ?_
  refine g_aload S dX5_payForTaken_32 rfl ?_
  refine k1_get S hK (by exact h1) 1 (by decide) (S.2.2.2.2 _ (List.mem_of_getElem? (i := 3) rfl)) rfl dX5_payForTaken_34 ?_
  refine g_aload_n S dX5_payForTaken_37 rfl ?_
  refine g_cVr S (k_holder l D ty A tE el _ (by exact h3) (by exact ht) (by exact h5)) (cwV 0 S.2.2.2.2 gX5_payForTaken_X2_holder rfl rfl rfl (by decide +kernel) ⟨Nat.le_of_ble_eq_true rfl, Nat.le_of_ble_eq_true rfl⟩) hK hE (fun H h => h) (k3_recv hK (by exact h3)) rfl (Nat.le_of_ble_eq_true rfl) dX5_payForTaken_38 ⟨Nat.le_of_ble_eq_true rfl, Nat.le_of_ble_eq_true rfl⟩ ?_
  refine g_iload_n S dX5_payForTaken_41 rfl ?_
  refine g_i2l S dX5_payForTaken_42 ?_
  refine g_aload S dX5_payForTaken_43 rfl ?_
  refine k1_get S hK (by exact h1) 7 (by decide) (S.2.2.2.2 _ (List.mem_of_getElem? (i := 4) rfl)) rfl dX5_payForTaken_45 ?_
  refine g_i2l S dX5_payForTaken_48 ?_
  refine g_lmul S dX5_payForTaken_49 ?_
  refine g_cVv S (k_payT l D ty A tE el _ (by exact h6) _ _ _) (cwV 3 S.2.2.2.2 gX5_payForTaken_X5_pay rfl rfl rfl (by decide +kernel) ⟨Nat.le_of_ble_eq_true rfl, Nat.le_of_ble_eq_true rfl⟩) hK hE (fun H h => h) (k6_recv hK h6) rfl (Nat.le_of_ble_eq_true rfl) dX5_payForTaken_50 ⟨Nat.le_of_ble_eq_true rfl, Nat.le_of_ble_eq_true rfl⟩ ?_
  refine g_aload S dX5_payForTaken_53 rfl ?_
  refine g_dup S dX5_payForTaken_55 rfl ?_
  refine k1_get S hK (by exact (by have e9 := (kPayT_same a (cI a 1 1 c9) (cI a 5 2 (kT a r)) (x.toInt64 * (cI a 1 7 c9).toInt64)).1; exact cOb_of e9 h1)) 9 (by decide) (S.2.2.2.2 _ (List.mem_of_getElem? (i := 5) rfl)) rfl dX5_payForTaken_56 ?_
  refine g_iload_n S dX5_payForTaken_59 rfl ?_
  refine g_isub S dX5_payForTaken_60 ?_
  refine k1_put S hK (by exact (by have e9 := (kPayT_same a (cI a 1 1 c9) (cI a 5 2 (kT a r)) (x.toInt64 * (cI a 1 7 c9).toInt64)).1; exact cOb_of e9 h1)) 9 (by decide) (by decide) (S.2.2.2.2 _ (List.mem_of_getElem? (i := 5) rfl)) (Or.inl rfl) rfl rfl dX5_payForTaken_61 ?_
  refine g_aload S dX5_payForTaken_64 rfl ?_
  refine g_dup S dX5_payForTaken_66 rfl ?_
  refine k1_get S hK (by exact (by have e9 := (kPayT_same a (cI a 1 1 c9) (cI a 5 2 (kT a r)) (x.toInt64 * (cI a 1 7 c9).toInt64)).1; exact cOb_of e9 h1)) 10 (by decide) (S.2.2.2.2 _ (List.mem_of_getElem? (i := 6) rfl)) rfl dX5_payForTaken_67 ?_
  refine g_iload_n S dX5_payForTaken_70 rfl ?_
  refine g_iadd S dX5_payForTaken_71 ?_
  refine k1_put S hK (by exact (by have e9 := (kPayT_same a (cI a 1 1 c9) (cI a 5 2 (kT a r)) (x.toInt64 * (cI a 1 7 c9).toInt64)).1; exact cOb_of e9 h1)) 10 (by decide) (by decide) (S.2.2.2.2 _ (List.mem_of_getElem? (i := 6) rfl)) (Or.inl rfl) rfl rfl dX5_payForTaken_72 ?_
  exact g_vret S hlk hr (fun H h => ⟨rfl, h⟩) (Nat.le_refl _) (Nat.le_refl _) dX5_payForTaken_75

theorem k_pft (l : Launch) (D : va_G) (ty : Nat → ClassId) (A : Nat → Prop) (tE : Nat) (el : Nat → Nat → Nat) (a : CS) (h6 : cOb a 6 0) {r : Nat} (h3 : cOb a 3 r) (ht : cR a 3 2 r = some (kT a r)) (h5 : cOb a 5 (kT a r)) (dl x : Int32) (hrw : cRwf a) (hr3 : r < cN a 3) : Met l yX5_payForTaken wsX5_payForTaken rmX5_payForTaken (gPc D ty true cstrs tE A [.ref (el 6 0), .ref (el 3 r), .int dl, .int x] (hC D ty A tE el a)) (gQ A (gRet none (hC D ty A tE el (kPft a r dl x)))) 0 0 A := by
  cases hk : cR a 3 7 r with
  | none =>
    rw [show kPft a r dl x = kPftN a r dl x by unfold kPft; rw [hk]]
    exact k_pftN l D ty A tE el a h6 h3 ht h5 dl x hk
  | some c9 =>
    rw [show kPft a r dl x = kPftC a r c9 x by unfold kPft; rw [hk]]
    exact k_pftC l D ty A tE el a h6 h3 ht h5 dl x hk (Or.inl ⟨by decide, hrw (3, 7) (by decide) r c9 hr3 hk⟩)
def kTb (a : CS) (r : Nat) (dl x : Int32) : CS := if cI a 5 2 (kT a r) = dl then kTakeFrom a r (kS a (kD a r)) (kMin (cI a 3 3 r) x) else kTakeFrom (kPft a r dl (kMin (cI a 3 3 r) x)) r (kS a (kD a r)) (kMin (cI a 3 3 r) x)
theorem kTb_same (a : CS) (r : Nat) (dl x : Int32) : (kTb a r dl x).1 = a.1 ∧ (kTb a r dl x).2.2.1 = a.2.2.1 ∧ (kTb a r dl x).2.2.2.2.2 = a.2.2.2.2.2 := by
  unfold kTb
  split
  · exact kTakeFrom_same a r _ _
  · obtain ⟨h1, h2, h3⟩ := kPft_same a r dl (kMin (cI a 3 3 r) x)
    obtain ⟨g1, g2, g3⟩ := kTakeFrom_same (kPft a r dl (kMin (cI a 3 3 r) x)) r (kS a (kD a r)) (kMin (cI a 3 3 r) x)
    exact ⟨g1.trans h1, g2.trans h2, g3.trans h3⟩
set_option maxHeartbeats 1500000 in
set_option maxRecDepth 100000 in
theorem k_tb (l : Launch) (D : va_G) (ty : Nat → ClassId) (A : Nat → Prop) (tE : Nat) (el : Nat → Nat → Nat) (a : CS) (h6 : cOb a 6 0) {r : Nat} (h3 : cOb a 3 r) (ht : cR a 3 2 r = some (kT a r)) (h5 : cOb a 5 (kT a r)) (hd : cR a 3 1 r = some (kD a r)) (h2 : cOb a 2 (kD a r)) (hs : cR a 2 4 (kD a r) = some (kS a (kD a r))) (h4 : cOb a 4 (kS a (kD a r))) (dl x : Int32) (hrw : cRwf a) (hr3 : r < cN a 3) : Met l yX5_takeBackFrom wsX5_takeBackFrom rmX5_takeBackFrom (gPc D ty true cstrs tE A [.ref (el 6 0), .ref (el 3 r), .int dl, .int x] (hC D ty A tE el a)) (gQ A (gRet (some (.int (kMin (cI a 3 3 r) x))) (hC D ty A tE el (kTb a r dl x)))) 0 0 A := by
  refine g_Met (cc := cX5_takeBackFrom) (maxL := 5) (ret := (some .int)) [some (.ref (el 6 0)), some (.ref (el 3 r)), some (.int dl), some (.int x), none] (by decide) rfl (Nat.le_of_ble_eq_true rfl) rfl ?_
  intro p e s m args below meth c S hlk hr hnm hK hE hP0
  have S : CallFix p m c cX5_takeBackFrom 5 s args wsX5_takeBackFrom RX5 := S
  refine g_aload_n S dX5_takeBackFrom_0 rfl ?_
  refine k3_get S hK (by exact h3) 3 (by decide) (S.2.2.2.2 _ (List.mem_of_getElem? (i := 1) rfl)) rfl dX5_takeBackFrom_1 ?_
  refine g_iload_n S dX5_takeBackFrom_4 rfl ?_
  refine g_mmin S (S.2.2.2.2 _ (List.mem_of_getElem? (i := 2) rfl)) (S.2.2.2.2 _ (List.mem_of_getElem? (i := 3) rfl)) (S.2.2.2.2 _ (List.mem_of_getElem? (i := 4) rfl)) (S.2.2.2.2 _ (List.mem_of_getElem? (i := 5) rfl)) ⟨Nat.le_of_ble_eq_true rfl, Nat.le_of_ble_eq_true rfl⟩ (Nat.le_of_ble_eq_true rfl) (Nat.zero_le _) (Nat.zero_le _) dX5_takeBackFrom_5 ?_
  refine g_istore S dX5_takeBackFrom_8 (by decide) rfl ?_
  refine g_aload_n S dX5_takeBackFrom_10 rfl ?_
  refine g_cVr S (k_holder l D ty A tE el _ (by exact h3) (by exact ht) (by exact h5)) (cwV 0 S.2.2.2.2 gX5_takeBackFrom_X2_holder rfl rfl rfl (by decide +kernel) ⟨Nat.le_of_ble_eq_true rfl, Nat.le_of_ble_eq_true rfl⟩) hK hE (fun H h => h) (k3_recv hK (by exact h3)) rfl (Nat.le_of_ble_eq_true rfl) dX5_takeBackFrom_11 ⟨Nat.le_of_ble_eq_true rfl, Nat.le_of_ble_eq_true rfl⟩ ?_
  refine g_iload_n S dX5_takeBackFrom_14 rfl ?_
  refine g_icmp_eq S (tgt := 26) dX5_takeBackFrom_15 (by decide) (fun c_15 => ?_) (fun c_15 => ?_)
  · refine g_aload_n S dX5_takeBackFrom_26 rfl ?_
    refine g_aload_n S dX5_takeBackFrom_27 rfl ?_
    refine g_iload S dX5_takeBackFrom_28 rfl ?_
    refine g_cVv S (k_takeFrom l D ty A tE el a h6 h3 hd h2 hs h4 _) (cwV 2 S.2.2.2.2 gX5_takeBackFrom_X5_takeFrom rfl rfl rfl (by decide +kernel) ⟨Nat.le_of_ble_eq_true rfl, Nat.le_of_ble_eq_true rfl⟩) hK hE (fun H h => h) (k6_recv hK h6) rfl (Nat.le_of_ble_eq_true rfl) dX5_takeBackFrom_30 ⟨Nat.le_of_ble_eq_true rfl, Nat.le_of_ble_eq_true rfl⟩ ?_
    refine g_iload S dX5_takeBackFrom_33 rfl ?_
    exact g_iret S hlk hr (fun H h => ⟨rfl, by unfold kTb; rw [if_pos c_15]; exact h⟩) (Nat.le_refl _) (Nat.le_refl _) dX5_takeBackFrom_35
  · refine g_aload_n S dX5_takeBackFrom_18 rfl ?_
    refine g_aload_n S dX5_takeBackFrom_19 rfl ?_
    refine g_iload_n S dX5_takeBackFrom_20 rfl ?_
    refine g_iload S dX5_takeBackFrom_21 rfl ?_
    refine g_cVv S (k_pft l D ty A tE el a h6 h3 ht h5 _ _ hrw hr3) (cwV 3 S.2.2.2.2 gX5_takeBackFrom_X5_payForTaken rfl rfl rfl (by decide +kernel) ⟨Nat.le_of_ble_eq_true rfl, Nat.le_of_ble_eq_true rfl⟩) hK hE (fun H h => h) (k6_recv hK h6) rfl (Nat.le_of_ble_eq_true rfl) dX5_takeBackFrom_23 ⟨Nat.le_of_ble_eq_true rfl, Nat.le_of_ble_eq_true rfl⟩ ?_
    refine g_aload_n S dX5_takeBackFrom_26 rfl ?_
    refine g_aload_n S dX5_takeBackFrom_27 rfl ?_
    refine g_iload S dX5_takeBackFrom_28 rfl ?_
    refine g_cVv S (k_takeFrom l D ty A tE el (kPft a r dl (kMin (cI a 3 3 r) x)) (cOb_of (kPft_same a r dl (kMin (cI a 3 3 r) x)).1 h6) (cOb_of (kPft_same a r dl (kMin (cI a 3 3 r) x)).1 h3) ((congrFun (congrFun (congrFun (kPft_same a r dl (kMin (cI a 3 3 r) x)).2.1 3) 1) r).trans hd) (cOb_of (kPft_same a r dl (kMin (cI a 3 3 r) x)).1 h2) ((congrFun (congrFun (congrFun (kPft_same a r dl (kMin (cI a 3 3 r) x)).2.1 2) 4) (kD a r)).trans hs) (cOb_of (kPft_same a r dl (kMin (cI a 3 3 r) x)).1 h4) _) (cwV 2 S.2.2.2.2 gX5_takeBackFrom_X5_takeFrom rfl rfl rfl (by decide +kernel) ⟨Nat.le_of_ble_eq_true rfl, Nat.le_of_ble_eq_true rfl⟩) hK hE (fun H h => h) (k6_recv hK (cOb_of (kPft_same a r dl (kMin (cI a 3 3 r) x)).1 h6)) rfl (Nat.le_of_ble_eq_true rfl) dX5_takeBackFrom_30 ⟨Nat.le_of_ble_eq_true rfl, Nat.le_of_ble_eq_true rfl⟩ ?_
    refine g_iload S dX5_takeBackFrom_33 rfl ?_
    exact g_iret S hlk hr (fun H h => ⟨rfl, by unfold kTb; rw [if_neg c_15]; exact h⟩) (Nat.le_refl _) (Nat.le_refl _) dX5_takeBackFrom_35

/-- the addresses of what was there stay -/
def elX (a : CS) (el el' : Nat → Nat → Nat) : Prop := ∀ j i, (1 ≤ j → j ≤ 5 → i < cN a j) → el' j i = el j i
def hX (D : va_G) (ty : Nat → ClassId) (A : Nat → Prop) (tE : Nat) (el : Nat → Nat → Nat) (a a' : CS) : Heap → Prop := fun H => ∃ el', elX a el el' ∧ hC D ty A tE el' a' H
theorem elX.rf {a : CS} {el : Nat → Nat → Nat} : elX a el el := fun _ _ _ => rfl
theorem elX.tr {a a1 : CS} {el el1 el2 : Nat → Nat → Nat} (h1 : elX a el el1) (h2 : elX a1 el1 el2) (hle : ∀ j, cN a j ≤ cN a1 j) : elX a el el2 := fun j i h => (h2 j i (fun p q => Nat.lt_of_lt_of_le (h p q) (hle j))).trans (h1 j i h)
theorem elX.ob {a : CS} {el el' : Nat → Nat → Nat} (h : elX a el el') {j i : Nat} (ho : cOb a j i) : el' j i = el j i := h j i (fun p q => by
  rcases ho with ⟨-, h⟩ | ⟨h, -⟩
  · exact h
  · omega)
theorem elX.new {a : CS} {el : Nat → Nat → Nat} {j q : Nat} (hj : 1 ≤ j ∧ j ≤ 5) : elX a el (elU el j (cN a j) q) := fun j' i' h => if_neg (by
  rintro ⟨rfl, rfl⟩
  exact Nat.lt_irrefl _ (h hj.1 hj.2))
theorem cRwf_of {a a' : CS} (h1 : a'.1 = a.1) (h2 : a'.2.2.1 = a.2.2.1) (h : cRwf a) : cRwf a' := by
  unfold cRwf cN cR at *
  rw [h1, h2]
  exact h
theorem cRwf_new {a : CS} (j : Nat) (h : cRwf a) : cRwf (cNew a j) := by
  intro q hq i x hi hx
  have hx2 : (if q.1 = j ∧ i = a.1 j then none else cR a q.1 q.2 i) = some x := hx
  have hi2 : i < (if q.1 = j then cN a j + 1 else cN a q.1) := hi
  have hle : ∀ t, cN a t ≤ cN (cNew a j) t := fun t => by
    show _ ≤ (if t = j then a.1 j + 1 else a.1 t)
    split
    · rename_i z; rw [z]; exact Nat.le_succ _
    · exact Nat.le_refl _
  by_cases hn : q.1 = j ∧ i = a.1 j
  · rw [if_pos hn] at hx2
    cases hx2
  · rw [if_neg hn] at hx2
    refine Nat.lt_of_lt_of_le (h q hq i x ?_ hx2) (hle _)
    by_cases hj : q.1 = j
    · rw [if_pos hj] at hi2
      have : i ≠ a.1 j := fun z => hn ⟨hj, z⟩
      rw [hj]
      show i < a.1 j
      have hi3 : i < a.1 j + 1 := hi2
      omega
    · rwa [if_neg hj] at hi2
theorem cRwf_SR {a : CS} (j k i : Nat) (x : Option Nat) (hx : ∀ y, x = some y → y < cN a (ctg j k)) (h : cRwf a) : cRwf (cSR a j k i x) := by
  intro q hq i' y hi hy
  have hy2 : (if q.1 = j ∧ q.2 = k ∧ i' = i then x else cR a q.1 q.2 i') = some y := hy
  by_cases hn : q.1 = j ∧ q.2 = k ∧ i' = i
  · rw [if_pos hn] at hy2
    show y < cN a (ctg q.1 q.2)
    rw [hn.1, hn.2.1]
    exact hx y hy2
  · rw [if_neg hn] at hy2
    exact h q hq i' y hi hy2
theorem kT_SR {a : CS} {r x r' : Nat} : kT (cSR a 3 2 r (some x)) r' = if r' = r then x else kT a r' := by
  show ((if 3 = 3 ∧ 2 = 2 ∧ r' = r then some x else a.2.2.1 3 2 r').getD 0) = _
  by_cases h : r' = r
  · rw [if_pos ⟨rfl, rfl, h⟩, if_pos h]; rfl
  · rw [if_neg (fun z => h z.2.2), if_neg h]; rfl
theorem cWf_SR7 {a : CS} {r : Nat} {x : Option Nat} (h : cWf a) : cWf (cSR a 3 7 r x) := by
  obtain ⟨h1, h2, h3⟩ := h
  have e1 : ∀ r', cR (cSR a 3 7 r x) 3 1 r' = cR a 3 1 r' := fun r' => rfl
  have e2 : ∀ r', cR (cSR a 3 7 r x) 3 2 r' = cR a 3 2 r' := fun r' => rfl
  have e3 : ∀ r', cR (cSR a 3 7 r x) 2 4 r' = cR a 2 4 r' := fun r' => rfl
  refine ⟨fun r' hr => ?_, fun d hd => ?_, h3⟩
  · unfold kD kT
    rw [e1, e2]
    exact h1 r' hr
  · unfold kS
    rw [e3]
    exact h2 d hd
theorem cWf_SR2 {a : CS} {r x : Nat} (hx : x < cN a 5) (h : cWf a) : cWf (cSR a 3 2 r (some x)) := by
  obtain ⟨h1, h2, h3⟩ := h
  have e1 : ∀ r', cR (cSR a 3 2 r (some x)) 3 1 r' = cR a 3 1 r' := fun r' => rfl
  have e3 : ∀ r', cR (cSR a 3 2 r (some x)) 2 4 r' = cR a 2 4 r' := fun r' => rfl
  refine ⟨fun r' hr => ?_, fun d hd => ?_, h3⟩
  · obtain ⟨g1, g2, g3, g4⟩ := h1 r' hr
    rw [kT_SR]
    unfold kD
    rw [e1]
    refine ⟨g1, g2, ?_, ?_⟩
    · show (if 3 = 3 ∧ 2 = 2 ∧ r' = r then some x else cR a 3 2 r') = _
      by_cases h : r' = r
      · rw [if_pos ⟨rfl, rfl, h⟩, if_pos h]
      · rw [if_neg (fun z => h z.2.2), if_neg h]; exact g3
    · show (if r' = r then x else kT a r') < cN a 5
      split
      · exact hx
      · exact g4
  · unfold kS
    rw [e3]
    exact h2 d hd
theorem cWf_SR51 {a : CS} {t : Nat} {x : Option Nat} (h : cWf a) : cWf (cSR a 5 1 t x) := by
  obtain ⟨h1, h2, h3⟩ := h
  have e1 : ∀ r', cR (cSR a 5 1 t x) 3 1 r' = cR a 3 1 r' := fun r' => rfl
  have e2 : ∀ r', cR (cSR a 5 1 t x) 3 2 r' = cR a 3 2 r' := fun r' => rfl
  have e3 : ∀ r', cR (cSR a 5 1 t x) 2 4 r' = cR a 2 4 r' := fun r' => rfl
  refine ⟨fun r' hr => ?_, fun d hd => ?_, h3⟩
  · unfold kD kT
    rw [e1, e2]
    exact h1 r' hr
  · unfold kS
    rw [e3]
    exact h2 d hd
theorem cWf_new5 {a : CS} (h : cWf a) : cWf (cNew a 5) := by
  obtain ⟨h1, h2, h3⟩ := h
  have e1 : ∀ r', cR (cNew a 5) 3 1 r' = cR a 3 1 r' := fun r' => rfl
  have e2 : ∀ r', cR (cNew a 5) 3 2 r' = cR a 3 2 r' := fun r' => rfl
  have e3 : ∀ r', cR (cNew a 5) 2 4 r' = cR a 2 4 r' := fun r' => rfl
  refine ⟨fun r' hr => ?_, fun d hd => ?_, h3⟩
  · unfold kD kT
    rw [e1, e2]
    obtain ⟨g1, g2, g3, g4⟩ := h1 r' hr
    exact ⟨g1, g2, g3, Nat.lt_succ_of_lt g4⟩
  · unfold kS
    rw [e3]
    exact h2 d hd
def kCh (a : CS) (r : Nat) (h : Int32) : CS := if cI a 5 0 (kT a r) = cI a 6 9 0 then kChSame a r (kT a r) h else if cI a 6 10 0 < 4096 then kChNew a r (kT a r) h else kChSame a r (kT a r) h
/-- what the rows of references owe -/
def cOk (a : CS) : Prop := cWf a ∧ cRwf a
theorem cOk.of {a a' : CS} (h1 : a'.1 = a.1) (h2 : a'.2.2.1 = a.2.2.1) (h3 : a'.2.2.2.2.2 = a.2.2.2.2.2) (h : cOk a) : cOk a' := ⟨cWf_of h1 h2 h3 h.1, cRwf_of h1 h2 h.2⟩
theorem kCh_ok {a : CS} {r : Nat} (h : Int32) (hr : r < cN a 3) (ok : cOk a) : cOk (kCh a r h) := by
  have k0 : cOk (kCh0 a r) := ⟨cWf_SR7 ok.1, cRwf_SR 3 7 r none (fun y h => by cases h) ok.2⟩
  have k1 : cOk (kChSame a r (kT a r) h) := k0.of rfl rfl rfl
  have ht := (ok.1.1 r hr).2.2.2
  unfold kCh
  split
  · exact k1
  · split
    · have w1 : cWf (cNew (kCh0 a r) 5) := cWf_new5 k0.1
      have w2 : cRwf (cNew (kCh0 a r) 5) := cRwf_new 5 k0.2
      have hlt : cN a 5 < cN (cNew (kCh0 a r) 5) 5 := Nat.lt_succ_self _
      exact ⟨cWf_of rfl rfl rfl (cWf_SR2 hlt (cWf_SR51 (t := cN a 5) (x := some (kT a r)) w1)), cRwf_of rfl rfl (cRwf_SR 3 2 r (some (cN a 5)) (fun y h => by cases h; exact hlt) (cRwf_SR 5 1 (cN a 5) (some (kT a r)) (fun y h => by cases h; exact Nat.lt_succ_of_lt ht) w2))⟩
    · exact k1
theorem kCh_le {a : CS} {r : Nat} (h : Int32) : (∀ j, cN a j ≤ cN (kCh a r h) j) ∧ (∀ j, j ≠ 5 → cN (kCh a r h) j = cN a j) ∧ (kCh a r h).2.2.2.2.2 = a.2.2.2.2.2 := by
  unfold kCh
  split
  · exact ⟨fun _ => Nat.le_refl _, fun _ _ => rfl, rfl⟩
  · split
    · refine ⟨fun j => ?_, fun j hj => if_neg hj, rfl⟩
      show _ ≤ (if j = 5 then cN a 5 + 1 else cN a j)
      split
      · rename_i z; rw [z]; exact Nat.le_succ _
      · exact Nat.le_refl _
    · exact ⟨fun _ => Nat.le_refl _, fun _ _ => rfl, rfl⟩
/-- what was made, in cells and in slots, with a list's growth counted to its element -/
def pc (a : CS) : Nat := 2 * (cN a 1 + cN a 2 + cN a 3 + cN a 4) + cN a 5
def ps (a : CS) : Nat := 161 * (cN a 1 + cN a 2 + cN a 3 + cN a 4) + 3 * cN a 5
theorem kChNew_pc (a : CS) (r t : Nat) (h : Int32) : pc (kChNew a r t h) = pc a + 1 ∧ ps (kChNew a r t h) = ps a + 3 := by
  have e5 : cN (kChNew a r t h) 5 = cN a 5 + 1 := rfl
  have e1 : cN (kChNew a r t h) 1 = cN a 1 := rfl
  have e2 : cN (kChNew a r t h) 2 = cN a 2 := rfl
  have e3 : cN (kChNew a r t h) 3 = cN a 3 := rfl
  have e4 : cN (kChNew a r t h) 4 = cN a 4 := rfl
  unfold pc ps
  rw [e1, e2, e3, e4, e5]
  omega
theorem kCh_pc (a : CS) (r : Nat) (h : Int32) : pc a ≤ pc (kCh a r h) ∧ pc (kCh a r h) ≤ pc a + 1 ∧ ps a ≤ ps (kCh a r h) ∧ ps (kCh a r h) ≤ ps a + 3 := by
  unfold kCh
  split
  · exact ⟨Nat.le_refl _, Nat.le_succ _, Nat.le_refl _, Nat.le_add_right _ _⟩
  · split
    · obtain ⟨h1, h2⟩ := kChNew_pc a r (kT a r) h
      omega
    · exact ⟨Nat.le_refl _, Nat.le_succ _, Nat.le_refl _, Nat.le_add_right _ _⟩
abbrev rpX5_changeHolder (mc ms : Nat) : Room := { frames := 2, cells := mc, slots := ms, locals := 43 }
set_option maxHeartbeats 1500000 in
set_option maxRecDepth 100000 in
theorem k_ch (l : Launch) (D : va_G) (ty : Nat → ClassId) (A : Nat → Prop) (tE : Nat) (el : Nat → Nat → Nat) (a : CS) (h6 : cOb a 6 0) {r : Nat} (h3 : cOb a 3 r) (h : Int32) (ok : cOk a) (hr3 : r < cN a 3) : Met l yX5_changeHolder wsX5_changeHolder (rpX5_changeHolder (pc (kCh a r h) - pc a) (ps (kCh a r h) - ps a)) (gPc D ty true cstrs tE A [.ref (el 6 0), .ref (el 3 r), .int h] (hC D ty A tE el a)) (gQ A (gRet none (hX D ty A tE el a (kCh a r h)))) (pc (kCh a r h) - pc a) (ps (kCh a r h) - ps a) A := by
  refine g_Met (cc := cX5_changeHolder) (maxL := 4) (ret := none) [some (.ref (el 6 0)), some (.ref (el 3 r)), some (.int h), none] (by decide) rfl (Nat.le_of_ble_eq_true rfl) rfl ?_
  intro p e s m args below meth c S hlk hr hnm hK hE hP0
  have S : CallFix p m c cX5_changeHolder 4 s args wsX5_changeHolder RX5 := S
  have hr9 := ok.1.1 r hr3
  have ht := hr9.2.2.1
  have h5 : cOb a 5 (kT a r) := Or.inl ⟨by decide, hr9.2.2.2⟩
  have htn := hr9.2.2.2
  have hw0 : cRwf (kCh0 a r) := cRwf_SR 3 7 r none (fun y h => by cases h) ok.2
  refine g_aload_n S dX5_changeHolder_0 rfl ?_
  refine g_null S dX5_changeHolder_1 ?_
  refine k3_putR S hK none (by exact h3) 7 (by decide) (by decide) (S.2.2.2.2 _ (List.mem_of_getElem? (i := 1) rfl)) (Or.inl rfl) rfl rfl rfl dX5_changeHolder_2 ?_
  refine g_aload_n S dX5_changeHolder_5 rfl ?_
  refine k3_getR S hK (by exact h3) 2 (by decide) (by exact ht) (S.2.2.2.2 _ (List.mem_of_getElem? (i := 2) rfl)) rfl dX5_changeHolder_6 ?_
  refine g_astore_n S dX5_changeHolder_9 (by decide) rfl ?_
  refine g_aload_n S dX5_changeHolder_10 rfl ?_
  refine k5_get S hK (by exact h5) 0 (by decide) (S.2.2.2.2 _ (List.mem_of_getElem? (i := 3) rfl)) rfl dX5_changeHolder_11 ?_
  refine g_aload_n S dX5_changeHolder_14 rfl ?_
  refine k6_get S hK (by exact h6) 9 (by decide) (S.2.2.2.2 _ (List.mem_of_getElem? (i := 4) rfl)) rfl dX5_changeHolder_15 ?_
  refine g_icmp_eq S (tgt := 31) dX5_changeHolder_18 (by decide) (fun c_18 => ?_) (fun c_18 => ?_)
  · refine g_aload_n S dX5_changeHolder_31 rfl ?_
    refine g_iload_n S dX5_changeHolder_32 rfl ?_
    refine k5_put S hK (by exact h5) 2 (by decide) (by decide) (S.2.2.2.2 _ (List.mem_of_getElem? (i := 6) rfl)) (Or.inl rfl) rfl rfl dX5_changeHolder_33 ?_
    refine g_goto S (tgt := 66) dX5_changeHolder_36 (by decide) ?_
    exact g_vret S hlk hr (fun H h => ⟨rfl, el, elX.rf, by unfold kCh; rw [if_pos (show cI a 5 0 (kT a r) = cI a 6 9 0 from c_18)]; exact h⟩) (Nat.zero_le _) (Nat.zero_le _) dX5_changeHolder_66
  · refine g_aload_n S dX5_changeHolder_21 rfl ?_
    refine k6_get S hK (by exact h6) 10 (by decide) (S.2.2.2.2 _ (List.mem_of_getElem? (i := 5) rfl)) rfl dX5_changeHolder_22 ?_
    refine g_sipush S (v := 4096) dX5_changeHolder_25 (by decide) ?_
    refine g_icmp_lt S (tgt := 39) dX5_changeHolder_28 (by decide) (fun c_28 => ?_) (fun c_28 => ?_)
    · refine g_aload_n S dX5_changeHolder_39 rfl ?_
      refine k5_new S hK (by exact hw0) (S.2.2.2.2 _ (List.mem_of_getElem? (i := 7) rfl)) (S.2.2.2.2 _ (List.mem_of_getElem? (i := 8) rfl)) (S.2.2.2.2 _ (List.mem_of_getElem? (i := 9) rfl)) (hE rfl).2.2.2.1 (by have z := kChNew_pc a r (kT a r) h; show 0 + 1 ≤ pc (kCh a r h) - pc a; unfold kCh; rw [if_neg (show ¬ cI a 5 0 (kT a r) = cI a 6 9 0 from c_18), if_pos (show cI a 6 10 0 < 4096 from c_28)]; omega) (by have z := kChNew_pc a r (kT a r) h; show 0 + 3 ≤ ps (kCh a r h) - ps a; unfold kCh; rw [if_neg (show ¬ cI a 5 0 (kT a r) = cI a 6 9 0 from c_18), if_pos (show cI a 6 10 0 < 4096 from c_28)]; omega) dX5_changeHolder_40 (fun q => ?_)
      refine g_dup S dX5_changeHolder_43 rfl ?_
      refine g_aload_n S dX5_changeHolder_44 rfl ?_
      refine k6_get S hK (by exact h6) 9 (by decide) (S.2.2.2.2 _ (List.mem_of_getElem? (i := 4) rfl)) rfl dX5_changeHolder_45 ?_
      refine g_iload_n S dX5_changeHolder_48 rfl ?_
      refine g_aload_n S dX5_changeHolder_49 rfl ?_
      refine g_cIv S (k_newTenure l D ty A tE (elU el 5 (cN a 5) q) (cNew (kCh0 a r) 5) (i := cN a 5) (Or.inl ⟨by decide, by show cN a 5 < (if 5 = 5 then cN a 5 + 1 else cN a 5); rw [if_pos rfl]; exact Nat.lt_succ_self _⟩) _ _ _ (kT a r) (elU_ne (by omega)).symm) (cwI 3 S.2.2.2.2 gX5_changeHolder_X4_init rfl rfl rfl (S.2.2.2.2 _ (List.mem_of_getElem? (i := 9) rfl)) (S.2.2.2.2 _ (List.mem_of_getElem? (i := 10) rfl)) (S.2.2.2.2 _ (List.mem_of_getElem? (i := 11) rfl)) rfl (by decide +kernel) ⟨Nat.le_of_ble_eq_true rfl, Nat.le_of_ble_eq_true rfl⟩) hK hE (fun H h => h) rfl (Nat.le_of_ble_eq_true rfl) dX5_changeHolder_50 ⟨(by have z := kChNew_pc a r (kT a r) h; show 0 + 1 ≤ pc (kCh a r h) - pc a; unfold kCh; rw [if_neg (show ¬ cI a 5 0 (kT a r) = cI a 6 9 0 from c_18), if_pos (show cI a 6 10 0 < 4096 from c_28)]; omega), (by have z := kChNew_pc a r (kT a r) h; show 0 + 3 ≤ ps (kCh a r h) - ps a; unfold kCh; rw [if_neg (show ¬ cI a 5 0 (kT a r) = cI a 6 9 0 from c_18), if_pos (show cI a 6 10 0 < 4096 from c_28)]; omega)⟩ ?_
      refine k3_putR S hK (some (cN a 5)) (by exact h3) 2 (by decide) (by decide) (S.2.2.2.2 _ (List.mem_of_getElem? (i := 2) rfl)) (Or.inl rfl) rfl rfl rfl dX5_changeHolder_53 ?_
      refine g_aload_n S dX5_changeHolder_56 rfl ?_
      refine g_dup S dX5_changeHolder_57 rfl ?_
      refine k6_get S hK (by exact h6) 10 (by decide) (S.2.2.2.2 _ (List.mem_of_getElem? (i := 5) rfl)) rfl dX5_changeHolder_58 ?_
      refine g_iconst S (v := 1) dX5_changeHolder_61 (by decide) ?_
      refine g_iadd S dX5_changeHolder_62 ?_
      refine k6_put S hK (by exact h6) 10 (by decide) (by decide) (S.2.2.2.2 _ (List.mem_of_getElem? (i := 5) rfl)) (Or.inl rfl) rfl rfl dX5_changeHolder_63 ?_
      exact g_vret S hlk hr (fun H h => ⟨rfl, _, elX.new (q := q) (j := 5) (by decide), by unfold kCh; rw [if_neg (show ¬ cI a 5 0 (kT a r) = cI a 6 9 0 from c_18), if_pos (show cI a 6 10 0 < 4096 from c_28)]; exact h⟩) (by have z := kChNew_pc a r (kT a r) h; unfold kCh; rw [if_neg (show ¬ cI a 5 0 (kT a r) = cI a 6 9 0 from c_18), if_pos (show cI a 6 10 0 < 4096 from c_28)]; omega) (by have z := kChNew_pc a r (kT a r) h; unfold kCh; rw [if_neg (show ¬ cI a 5 0 (kT a r) = cI a 6 9 0 from c_18), if_pos (show cI a 6 10 0 < 4096 from c_28)]; omega) dX5_changeHolder_66
    · refine g_aload_n S dX5_changeHolder_31 rfl ?_
      refine g_iload_n S dX5_changeHolder_32 rfl ?_
      refine k5_put S hK (by exact h5) 2 (by decide) (by decide) (S.2.2.2.2 _ (List.mem_of_getElem? (i := 6) rfl)) (Or.inl rfl) rfl rfl dX5_changeHolder_33 ?_
      refine g_goto S (tgt := 66) dX5_changeHolder_36 (by decide) ?_
      exact g_vret S hlk hr (fun H h => ⟨rfl, el, elX.rf, by unfold kCh; rw [if_neg (show ¬ cI a 5 0 (kT a r) = cI a 6 9 0 from c_18), if_neg (show ¬ cI a 6 10 0 < 4096 from c_28)]; exact h⟩) (Nat.zero_le _) (Nat.zero_le _) dX5_changeHolder_66

def kForfeit (a : CS) (r : Nat) : CS := if decide (¬ cI a 3 4 r = -1) = false then a else if cI a 6 9 0 ≤ cI a 3 6 r then a else kCh (kEndPledge a r) r (cI a 3 4 r)
theorem kForfeit_ok {a : CS} {r : Nat} (hr : r < cN a 3) (ok : cOk a) : cOk (kForfeit a r) := by
  unfold kForfeit
  split
  · exact ok
  · split
    · exact ok
    · exact kCh_ok _ hr (ok.of rfl rfl rfl)
theorem kForfeit_le {a : CS} {r : Nat} : (∀ j, cN a j ≤ cN (kForfeit a r) j) ∧ (∀ j, j ≠ 5 → cN (kForfeit a r) j = cN a j) ∧ (kForfeit a r).2.2.2.2.2 = a.2.2.2.2.2 := by
  unfold kForfeit
  split
  · exact ⟨fun _ => Nat.le_refl _, fun _ _ => rfl, rfl⟩
  · split
    · exact ⟨fun _ => Nat.le_refl _, fun _ _ => rfl, rfl⟩
    · exact kCh_le (a := kEndPledge a r) (r := r) (cI a 3 4 r)
theorem kForfeit_pc (a : CS) (r : Nat) : pc a ≤ pc (kForfeit a r) ∧ pc (kForfeit a r) ≤ pc a + 1 ∧ ps a ≤ ps (kForfeit a r) ∧ ps (kForfeit a r) ≤ ps a + 3 := by
  unfold kForfeit
  split
  · exact ⟨Nat.le_refl _, Nat.le_succ _, Nat.le_refl _, Nat.le_add_right _ _⟩
  · split
    · exact ⟨Nat.le_refl _, Nat.le_succ _, Nat.le_refl _, Nat.le_add_right _ _⟩
    · exact kCh_pc (kEndPledge a r) r (cI a 3 4 r)
abbrev rpX5_forfeitIfDue (mc ms : Nat) : Room := { frames := 3, cells := mc, slots := ms, locals := 66 }
set_option maxHeartbeats 1500000 in
set_option maxRecDepth 100000 in
theorem k_forfeit (l : Launch) (D : va_G) (ty : Nat → ClassId) (A : Nat → Prop) (tE : Nat) (el : Nat → Nat → Nat) (a : CS) (h6 : cOb a 6 0) {r : Nat} (h3 : cOb a 3 r) (ok : cOk a) (hr3 : r < cN a 3) : Met l yX5_forfeitIfDue wsX5_forfeitIfDue (rpX5_forfeitIfDue (pc (kForfeit a r) - pc a) (ps (kForfeit a r) - ps a)) (gPc D ty true cstrs tE A [.ref (el 6 0), .ref (el 3 r)] (hC D ty A tE el a)) (gQ A (gRet none (hX D ty A tE el a (kForfeit a r)))) (pc (kForfeit a r) - pc a) (ps (kForfeit a r) - ps a) A := by
  refine g_Met (cc := cX5_forfeitIfDue) (maxL := 3) (ret := none) [some (.ref (el 6 0)), some (.ref (el 3 r)), none] (by decide) rfl (Nat.le_of_ble_eq_true rfl) rfl ?_
  intro p e s m args below meth c S hlk hr hnm hK hE hP0
  have S : CallFix p m c cX5_forfeitIfDue 3 s args wsX5_forfeitIfDue RX5 := S
  refine g_aload_n S dX5_forfeitIfDue_0 rfl ?_
  refine g_cVr S (k_isPledged l D ty A tE el _ (by exact h3)) (cwV 0 S.2.2.2.2 gX5_forfeitIfDue_X2_isPledged rfl rfl rfl (by decide +kernel) ⟨Nat.le_of_ble_eq_true rfl, Nat.le_of_ble_eq_true rfl⟩) hK hE (fun H h => h) (k3_recv hK (by exact h3)) rfl (Nat.le_of_ble_eq_true rfl) dX5_forfeitIfDue_1 ⟨Nat.le_of_ble_eq_true rfl, Nat.le_of_ble_eq_true rfl⟩ ?_
  refine g_ifb_eq S (tgt := 33) dX5_forfeitIfDue_4 (by decide) (fun c_4 => ?_) (fun c_4 => ?_)
  · exact g_vret S hlk hr (fun H h => ⟨rfl, el, elX.rf, by unfold kForfeit; rw [if_pos c_4]; exact h⟩) (Nat.zero_le _) (Nat.zero_le _) dX5_forfeitIfDue_33
  · refine g_aload_n S dX5_forfeitIfDue_7 rfl ?_
    refine k3_get S hK (by exact h3) 6 (by decide) (S.2.2.2.2 _ (List.mem_of_getElem? (i := 1) rfl)) rfl dX5_forfeitIfDue_8 ?_
    refine g_aload_n S dX5_forfeitIfDue_11 rfl ?_
    refine k6_get S hK (by exact h6) 9 (by decide) (S.2.2.2.2 _ (List.mem_of_getElem? (i := 2) rfl)) rfl dX5_forfeitIfDue_12 ?_
    refine g_icmp_ge S (tgt := 33) dX5_forfeitIfDue_15 (by decide) (fun c_15 => ?_) (fun c_15 => ?_)
    · exact g_vret S hlk hr (fun H h => ⟨rfl, el, elX.rf, by unfold kForfeit; rw [if_neg (by rw [c_4]; decide), if_pos c_15]; exact h⟩) (Nat.zero_le _) (Nat.zero_le _) dX5_forfeitIfDue_33
    · refine g_aload_n S dX5_forfeitIfDue_18 rfl ?_
      refine k3_get S hK (by exact h3) 4 (by decide) (S.2.2.2.2 _ (List.mem_of_getElem? (i := 3) rfl)) rfl dX5_forfeitIfDue_19 ?_
      refine g_istore_n S dX5_forfeitIfDue_22 (by decide) rfl ?_
      refine g_aload_n S dX5_forfeitIfDue_23 rfl ?_
      refine g_cVv S (k_endPledge l D ty A tE el _ (by exact h3)) (cwV 0 S.2.2.2.2 gX5_forfeitIfDue_X2_endPledge rfl rfl rfl (by decide +kernel) ⟨Nat.le_of_ble_eq_true rfl, Nat.le_of_ble_eq_true rfl⟩) hK hE (fun H h => h) (k3_recv hK (by exact h3)) rfl (Nat.le_of_ble_eq_true rfl) dX5_forfeitIfDue_24 ⟨Nat.le_of_ble_eq_true rfl, Nat.le_of_ble_eq_true rfl⟩ ?_
      refine g_aload_n S dX5_forfeitIfDue_27 rfl ?_
      refine g_aload_n S dX5_forfeitIfDue_28 rfl ?_
      refine g_iload_n S dX5_forfeitIfDue_29 rfl ?_
      refine g_cVv S (k_ch l D ty A tE el (kEndPledge a r) (by exact h6) (by exact h3) _ (ok.of rfl rfl rfl) (by exact hr3)) (cwV 2 S.2.2.2.2 gX5_forfeitIfDue_X5_changeHolder rfl rfl rfl (by decide +kernel) ⟨Nat.le_of_ble_eq_true rfl, Nat.le_of_ble_eq_true rfl⟩) hK hE (fun H h => h) (k6_recv hK (by exact h6)) rfl (Nat.le_of_ble_eq_true rfl) dX5_forfeitIfDue_30 ⟨by show 0 + _ ≤ pc (kForfeit a r) - pc a; unfold kForfeit; rw [if_neg (by rw [c_4]; decide), if_neg c_15, Nat.zero_add]; exact Nat.le_refl _, by show 0 + _ ≤ ps (kForfeit a r) - ps a; unfold kForfeit; rw [if_neg (by rw [c_4]; decide), if_neg c_15, Nat.zero_add]; exact Nat.le_refl _⟩ ?_
      exact g_vret S hlk hr (fun H h => ⟨rfl, by unfold kForfeit; rw [if_neg (by rw [c_4]; decide), if_neg c_15]; exact h⟩) (by unfold kForfeit; rw [if_neg (by rw [c_4]; decide), if_neg c_15, Nat.zero_add]; exact Nat.le_refl _) (by unfold kForfeit; rw [if_neg (by rw [c_4]; decide), if_neg c_15, Nat.zero_add]; exact Nat.le_refl _) dX5_forfeitIfDue_33

