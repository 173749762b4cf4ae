abbrev rmX0_init : Room := { frames := 1, cells := 0, slots := 0, locals := 20 }
set_option maxHeartbeats 1500000 in
set_option maxRecDepth 100000 in
theorem k_newContract (l : Launch) (D : va_G) (ty : Nat → ClassId) (A : Nat → Prop) (tE : Nat) (el : Nat → Nat → Nat) (a : CS) {i : Nat} (ho : cOb a 1 i) (x1 x2 x3 x4 x5 : Int32) : Met l yX0_init wsX0_init rmX0_init (gPc D ty true cstrs tE A [.ref (el 1 i), .int x1, .int x2, .int x3, .int x4, .int x5] (hC D ty A tE el a)) (gQ A (gRet none (hC D ty A tE el (cSI (cSI (cSI (cSI (cSI a 1 0 i x1) 1 1 i x2) 1 2 i x3) 1 3 i x4) 1 4 i x5)))) 0 0 A := by
  refine g_Met (cc := cX0_init) (maxL := 6) (ret := none) [some (.ref (el 1 i)), some (.int x1), some (.int x2), some (.int x3), some (.int x4), some (.int x5)] (by decide) rfl (Nat.le_of_ble_eq_true rfl) rfl ?_
  intro p e s m args below meth c S hlk hr hnm hK hE hP0
  have S : CallFix p m c cX0_init 6 s args wsX0_init RX0 := S
  refine g_aload_n S dX0_init_0 rfl ?_
  refine g_objInit S (S.2.2.2.2 _ (List.mem_of_getElem? (i := 1) rfl)) (S.2.2.2.2 _ (List.mem_of_getElem? (i := 2) rfl)) (S.2.2.2.2 _ (List.mem_of_getElem? (i := 3) rfl)) dX0_init_1 (Nat.le_of_ble_eq_true rfl) ⟨Nat.le_of_ble_eq_true rfl, Nat.le_of_ble_eq_true rfl⟩ ?_
  refine g_aload_n S dX0_init_4 rfl ?_
  refine g_iload_n S dX0_init_5 rfl ?_
  refine k1_put S hK (by exact ho) 0 (by decide) (by decide) (S.2.2.2.2 _ (List.mem_of_getElem? (i := 4) rfl)) (Or.inr ⟨rfl, hnm, rfl⟩) rfl rfl dX0_init_6 ?_
  refine g_aload_n S dX0_init_9 rfl ?_
  refine g_iload_n S dX0_init_10 rfl ?_
  refine k1_put S hK (by exact ho) 1 (by decide) (by decide) (S.2.2.2.2 _ (List.mem_of_getElem? (i := 5) rfl)) (Or.inr ⟨rfl, hnm, rfl⟩) rfl rfl dX0_init_11 ?_
  refine g_aload_n S dX0_init_14 rfl ?_
  refine g_iload_n S dX0_init_15 rfl ?_
  refine k1_put S hK (by exact ho) 2 (by decide) (by decide) (S.2.2.2.2 _ (List.mem_of_getElem? (i := 6) rfl)) (Or.inr ⟨rfl, hnm, rfl⟩) rfl rfl dX0_init_16 ?_
  refine g_aload_n S dX0_init_19 rfl ?_
  refine g_iload S dX0_init_20 rfl ?_
  refine k1_put S hK (by exact ho) 3 (by decide) (by decide) (S.2.2.2.2 _ (List.mem_of_getElem? (i := 7) rfl)) (Or.inr ⟨rfl, hnm, rfl⟩) rfl rfl dX0_init_22 ?_
  refine g_aload_n S dX0_init_25 rfl ?_
  refine g_iload S dX0_init_26 rfl ?_
  refine k1_put S hK (by exact ho) 4 (by decide) (by decide) (S.2.2.2.2 _ (List.mem_of_getElem? (i := 8) rfl)) (Or.inr ⟨rfl, hnm, rfl⟩) rfl rfl dX0_init_28 ?_
  exact g_vret S hlk hr (fun H h => ⟨rfl, h⟩) (Nat.le_refl _) (Nat.le_refl _) dX0_init_31

abbrev rmX1_init : Room := { frames := 1, cells := 0, slots := 0, locals := 20 }
set_option maxHeartbeats 1500000 in
set_option maxRecDepth 100000 in
theorem k_newDelivery (l : Launch) (D : va_G) (ty : Nat → ClassId) (A : Nat → Prop) (tE : Nat) (el : Nat → Nat → Nat) (a : CS) {i : Nat} (ho : cOb a 2 i) (x1 x2 x3 x4 : Int32) (b9 x : Nat) (hb9 : b9 = el 4 x) : Met l yX1_init wsX1_init rmX1_init (gPc D ty true cstrs tE A [.ref (el 2 i), .int x1, .int x2, .int x3, .int x4, .ref b9] (hC D ty A tE el a)) (gQ A (gRet none (hC D ty A tE el (cSR (cSI (cSI (cSI (cSI a 2 0 i x1) 2 1 i x2) 2 2 i x3) 2 3 i x4) 2 4 i (some x))))) 0 0 A := by
  refine g_Met (cc := cX1_init) (maxL := 6) (ret := none) [some (.ref (el 2 i)), some (.int x1), some (.int x2), some (.int x3), some (.int x4), some (.ref b9)] (by decide) rfl (Nat.le_of_ble_eq_true rfl) rfl ?_
  intro p e s m args below meth c S hlk hr hnm hK hE hP0
  have S : CallFix p m c cX1_init 6 s args wsX1_init RX1 := S
  refine g_aload_n S dX1_init_0 rfl ?_
  refine g_objInit S (S.2.2.2.2 _ (List.mem_of_getElem? (i := 1) rfl)) (S.2.2.2.2 _ (List.mem_of_getElem? (i := 2) rfl)) (S.2.2.2.2 _ (List.mem_of_getElem? (i := 3) rfl)) dX1_init_1 (Nat.le_of_ble_eq_true rfl) ⟨Nat.le_of_ble_eq_true rfl, Nat.le_of_ble_eq_true rfl⟩ ?_
  refine g_aload_n S dX1_init_4 rfl ?_
  refine g_iload_n S dX1_init_5 rfl ?_
  refine k2_put S hK (by exact ho) 0 (by decide) (by decide) (S.2.2.2.2 _ (List.mem_of_getElem? (i := 4) rfl)) (Or.inr ⟨rfl, hnm, rfl⟩) rfl rfl dX1_init_6 ?_
  refine g_aload_n S dX1_init_9 rfl ?_
  refine g_iload_n S dX1_init_10 rfl ?_
  refine k2_put S hK (by exact ho) 1 (by decide) (by decide) (S.2.2.2.2 _ (List.mem_of_getElem? (i := 5) rfl)) (Or.inr ⟨rfl, hnm, rfl⟩) rfl rfl dX1_init_11 ?_
  refine g_aload_n S dX1_init_14 rfl ?_
  refine g_iload_n S dX1_init_15 rfl ?_
  refine k2_put S hK (by exact ho) 2 (by decide) (by decide) (S.2.2.2.2 _ (List.mem_of_getElem? (i := 6) rfl)) (Or.inr ⟨rfl, hnm, rfl⟩) rfl rfl dX1_init_16 ?_
  refine g_aload_n S dX1_init_19 rfl ?_
  refine g_iload S dX1_init_20 rfl ?_
  refine k2_put S hK (by exact ho) 3 (by decide) (by decide) (S.2.2.2.2 _ (List.mem_of_getElem? (i := 7) rfl)) (Or.inr ⟨rfl, hnm, rfl⟩) rfl rfl dX1_init_22 ?_
  refine g_aload_n S dX1_init_25 rfl ?_
  refine g_aload S dX1_init_26 rfl ?_
  refine k2_putR S hK (some x) (by exact ho) 4 (by decide) (by decide) (S.2.2.2.2 _ (List.mem_of_getElem? (i := 8) rfl)) (Or.inr ⟨rfl, hnm, rfl⟩) (by rw [hb9]; rfl) rfl rfl dX1_init_28 ?_
  exact g_vret S hlk hr (fun H h => ⟨rfl, h⟩) (Nat.le_refl _) (Nat.le_refl _) dX1_init_31

abbrev rmX2_init : Room := { frames := 1, cells := 0, slots := 0, locals := 20 }
set_option maxHeartbeats 1500000 in
set_option maxRecDepth 100000 in
theorem k_newReceipt (l : Launch) (D : va_G) (ty : Nat → ClassId) (A : Nat → Prop) (tE : Nat) (el : Nat → Nat → Nat) (a : CS) {i : Nat} (ho : cOb a 3 i) (x1 : Int32) (b8 x8 : Nat) (hb8 : b8 = el 2 x8) (b9 x9 : Nat) (hb9 : b9 = el 5 x9) : Met l yX2_init wsX2_init rmX2_init (gPc D ty true cstrs tE A [.ref (el 3 i), .int x1, .ref b8, .ref b9] (hC D ty A tE el a)) (gQ A (gRet none (hC D ty A tE el (cSI (cSI (cSI (cSI (cSR (cSR (cSI a 3 0 i x1) 3 1 i (some x8)) 3 2 i (some x9)) 3 4 i (-1)) 3 5 i (-1)) 3 6 i (-1)) 3 8 i (-1))))) 0 0 A := by
  refine g_Met (cc := cX2_init) (maxL := 4) (ret := none) [some (.ref (el 3 i)), some (.int x1), some (.ref b8), some (.ref b9)] (by decide) rfl (Nat.le_of_ble_eq_true rfl) rfl ?_
  intro p e s m args below meth c S hlk hr hnm hK hE hP0
  have S : CallFix p m c cX2_init 4 s args wsX2_init RX2 := S
  refine g_aload_n S dX2_init_0 rfl ?_
  refine g_objInit S (S.2.2.2.2 _ (List.mem_of_getElem? (i := 1) rfl)) (S.2.2.2.2 _ (List.mem_of_getElem? (i := 2) rfl)) (S.2.2.2.2 _ (List.mem_of_getElem? (i := 3) rfl)) dX2_init_1 (Nat.le_of_ble_eq_true rfl) ⟨Nat.le_of_ble_eq_true rfl, Nat.le_of_ble_eq_true rfl⟩ ?_
  refine g_aload_n S dX2_init_4 rfl ?_
  refine g_iload_n S dX2_init_5 rfl ?_
  refine k3_put S hK (by exact ho) 0 (by decide) (by decide) (S.2.2.2.2 _ (List.mem_of_getElem? (i := 4) rfl)) (Or.inr ⟨rfl, hnm, rfl⟩) rfl rfl dX2_init_6 ?_
  refine g_aload_n S dX2_init_9 rfl ?_
  refine g_aload_n S dX2_init_10 rfl ?_
  refine k3_putR S hK (some x8) (by exact ho) 1 (by decide) (by decide) (S.2.2.2.2 _ (List.mem_of_getElem? (i := 5) rfl)) (Or.inr ⟨rfl, hnm, rfl⟩) (by rw [hb8]; rfl) rfl rfl dX2_init_11 ?_
  refine g_aload_n S dX2_init_14 rfl ?_
  refine g_aload_n S dX2_init_15 rfl ?_
  refine k3_putR S hK (some x9) (by exact ho) 2 (by decide) (by decide) (S.2.2.2.2 _ (List.mem_of_getElem? (i := 6) rfl)) (Or.inl rfl) (by rw [hb9]; rfl) rfl rfl dX2_init_16 ?_
  refine g_aload_n S dX2_init_19 rfl ?_
  refine g_iconst S (v := (-1)) dX2_init_20 (by decide) ?_
  refine k3_put S hK (by exact ho) 4 (by decide) (by decide) (S.2.2.2.2 _ (List.mem_of_getElem? (i := 7) rfl)) (Or.inl rfl) rfl rfl dX2_init_21 ?_
  refine g_aload_n S dX2_init_24 rfl ?_
  refine g_iconst S (v := (-1)) dX2_init_25 (by decide) ?_
  refine k3_put S hK (by exact ho) 5 (by decide) (by decide) (S.2.2.2.2 _ (List.mem_of_getElem? (i := 8) rfl)) (Or.inl rfl) rfl rfl dX2_init_26 ?_
  refine g_aload_n S dX2_init_29 rfl ?_
  refine g_iconst S (v := (-1)) dX2_init_30 (by decide) ?_
  refine k3_put S hK (by exact ho) 6 (by decide) (by decide) (S.2.2.2.2 _ (List.mem_of_getElem? (i := 9) rfl)) (Or.inl rfl) rfl rfl dX2_init_31 ?_
  refine g_aload_n S dX2_init_34 rfl ?_
  refine g_iconst S (v := (-1)) dX2_init_35 (by decide) ?_
  refine k3_put S hK (by exact ho) 8 (by decide) (by decide) (S.2.2.2.2 _ (List.mem_of_getElem? (i := 10) rfl)) (Or.inl rfl) rfl rfl dX2_init_36 ?_
  exact g_vret S hlk hr (fun H h => ⟨rfl, h⟩) (Nat.le_refl _) (Nat.le_refl _) dX2_init_39

abbrev rmX3_init : Room := { frames := 1, cells := 0, slots := 0, locals := 20 }
set_option maxHeartbeats 1500000 in
set_option maxRecDepth 100000 in
theorem k_newSilo (l : Launch) (D : va_G) (ty : Nat → ClassId) (A : Nat → Prop) (tE : Nat) (el : Nat → Nat → Nat) (a : CS) {i : Nat} (ho : cOb a 4 i) (x1 x2 : Int32) : Met l yX3_init wsX3_init rmX3_init (gPc D ty true cstrs tE A [.ref (el 4 i), .int x1, .int x2] (hC D ty A tE el a)) (gQ A (gRet none (hC D ty A tE el (cSI (cSI (cSI (cSI a 4 0 i x1) 4 1 i x2) 4 2 i (-1)) 4 3 i (-1))))) 0 0 A := by
  refine g_Met (cc := cX3_init) (maxL := 3) (ret := none) [some (.ref (el 4 i)), some (.int x1), some (.int x2)] (by decide) rfl (Nat.le_of_ble_eq_true rfl) rfl ?_
  intro p e s m args below meth c S hlk hr hnm hK hE hP0
  have S : CallFix p m c cX3_init 3 s args wsX3_init RX3 := S
  refine g_aload_n S dX3_init_0 rfl ?_
  refine g_objInit S (S.2.2.2.2 _ (List.mem_of_getElem? (i := 1) rfl)) (S.2.2.2.2 _ (List.mem_of_getElem? (i := 2) rfl)) (S.2.2.2.2 _ (List.mem_of_getElem? (i := 3) rfl)) dX3_init_1 (Nat.le_of_ble_eq_true rfl) ⟨Nat.le_of_ble_eq_true rfl, Nat.le_of_ble_eq_true rfl⟩ ?_
  refine g_aload_n S dX3_init_4 rfl ?_
  refine g_iload_n S dX3_init_5 rfl ?_
  refine k4_put S hK (by exact ho) 0 (by decide) (by decide) (S.2.2.2.2 _ (List.mem_of_getElem? (i := 4) rfl)) (Or.inr ⟨rfl, hnm, rfl⟩) rfl rfl dX3_init_6 ?_
  refine g_aload_n S dX3_init_9 rfl ?_
  refine g_iload_n S dX3_init_10 rfl ?_
  refine k4_put S hK (by exact ho) 1 (by decide) (by decide) (S.2.2.2.2 _ (List.mem_of_getElem? (i := 5) rfl)) (Or.inr ⟨rfl, hnm, rfl⟩) rfl rfl dX3_init_11 ?_
  refine g_aload_n S dX3_init_14 rfl ?_
  refine g_iconst S (v := (-1)) dX3_init_15 (by decide) ?_
  refine k4_put S hK (by exact ho) 2 (by decide) (by decide) (S.2.2.2.2 _ (List.mem_of_getElem? (i := 6) rfl)) (Or.inl rfl) rfl rfl dX3_init_16 ?_
  refine g_aload_n S dX3_init_19 rfl ?_
  refine g_iconst S (v := (-1)) dX3_init_20 (by decide) ?_
  refine k4_put S hK (by exact ho) 3 (by decide) (by decide) (S.2.2.2.2 _ (List.mem_of_getElem? (i := 7) rfl)) (Or.inl rfl) rfl rfl dX3_init_21 ?_
  exact g_vret S hlk hr (fun H h => ⟨rfl, h⟩) (Nat.le_refl _) (Nat.le_refl _) dX3_init_24

abbrev rmX4_init : Room := { frames := 1, cells := 0, slots := 0, locals := 20 }
set_option maxHeartbeats 1500000 in
set_option maxRecDepth 100000 in
theorem k_newTenure (l : Launch) (D : va_G) (ty : Nat → ClassId) (A : Nat → Prop) (tE : Nat) (el : Nat → Nat → Nat) (a : CS) {i : Nat} (ho : cOb a 5 i) (x1 x2 : Int32) (b9 x : Nat) (hb9 : b9 = el 5 x) : Met l yX4_init wsX4_init rmX4_init (gPc D ty true cstrs tE A [.ref (el 5 i), .int x1, .int x2, .ref b9] (hC D ty A tE el a)) (gQ A (gRet none (hC D ty A tE el (cSR (cSI (cSI a 5 0 i x1) 5 2 i x2) 5 1 i (some x))))) 0 0 A := by
  refine g_Met (cc := cX4_init) (maxL := 4) (ret := none) [some (.ref (el 5 i)), some (.int x1), some (.int x2), some (.ref b9)] (by decide) rfl (Nat.le_of_ble_eq_true rfl) rfl ?_
  intro p e s m args below meth c S hlk hr hnm hK hE hP0
  have S : CallFix p m c cX4_init 4 s args wsX4_init RX4 := S
  refine g_aload_n S dX4_init_0 rfl ?_
  refine g_objInit S (S.2.2.2.2 _ (List.mem_of_getElem? (i := 1) rfl)) (S.2.2.2.2 _ (List.mem_of_getElem? (i := 2) rfl)) (S.2.2.2.2 _ (List.mem_of_getElem? (i := 3) rfl)) dX4_init_1 (Nat.le_of_ble_eq_true rfl) ⟨Nat.le_of_ble_eq_true rfl, Nat.le_of_ble_eq_true rfl⟩ ?_
  refine g_aload_n S dX4_init_4 rfl ?_
  refine g_iload_n S dX4_init_5 rfl ?_
  refine k5_put S hK (by exact ho) 0 (by decide) (by decide) (S.2.2.2.2 _ (List.mem_of_getElem? (i := 4) rfl)) (Or.inr ⟨rfl, hnm, rfl⟩) rfl rfl dX4_init_6 ?_
  refine g_aload_n S dX4_init_9 rfl ?_
  refine g_iload_n S dX4_init_10 rfl ?_
  refine k5_put S hK (by exact ho) 2 (by decide) (by decide) (S.2.2.2.2 _ (List.mem_of_getElem? (i := 5) rfl)) (Or.inl rfl) rfl rfl dX4_init_11 ?_
  refine g_aload_n S dX4_init_14 rfl ?_
  refine g_aload_n S dX4_init_15 rfl ?_
  refine k5_putR S hK (some x) (by exact ho) 1 (by decide) (by decide) (S.2.2.2.2 _ (List.mem_of_getElem? (i := 6) rfl)) (Or.inr ⟨rfl, hnm, rfl⟩) (by rw [hb9]; rfl) rfl rfl dX4_init_16 ?_
  exact g_vret S hlk hr (fun H h => ⟨rfl, h⟩) (Nat.le_refl _) (Nat.le_refl _) dX4_init_19

def kCh0 (a : CS) (r : Nat) : CS := cSR a 3 7 r none
def kChSame (a : CS) (r t : Nat) (h : Int32) : CS := cSI (kCh0 a r) 5 2 t h
def kChNew (a : CS) (r t : Nat) (h : Int32) : CS :=
  let b := cNew (kCh0 a r) 5
  let b := cSI b 5 0 (cN a 5) (cI a 6 9 0)
  let b := cSI b 5 2 (cN a 5) h
  let b := cSR b 5 1 (cN a 5) (some t)
  let b := cSR b 3 2 r (some (cN a 5))
  cSI b 6 10 0 (cI a 6 10 0 + 1)
abbrev rmX5_changeHolder : Room := { frames := 0, cells := 0, slots := 0, locals := 0 }
set_option maxHeartbeats 1500000 in
set_option maxRecDepth 100000 in
theorem k_chSame (l : Launch) (D : va_G) (ty : Nat → ClassId) (A : Nat → Prop) (tE : Nat) (el : Nat → Nat → Nat) (a : CS) (h6 : cOb a 6 0) {r : Nat} (h3 : cOb a 3 r) {t : Nat} (ht : cR a 3 2 r = some t) (h5 : cOb a 5 t) (h : Int32) (hsame : cI a 5 0 t = cI a 6 9 0) : Met l yX5_changeHolder wsX5_changeHolder rmX5_changeHolder (gPc D ty true cstrs tE A [.ref (el 6 0), .ref (el 3 r), .int h] (hC D ty A tE el a)) (gQ A (gRet none (hC D ty A tE el (kChSame a r t h)))) 0 0 A := by
  refine g_Met (cc := cX5_changeHolder) (maxL := 4) (ret := none) [some (.ref (el 6 0)), some (.ref (el 3 r)), some (.int h), none] (by decide) rfl (Nat.le_of_ble_eq_true rfl) rfl ?_
  intro p e s m args below meth c S hlk hr hnm hK hE hP0
  have S : CallFix p m c cX5_changeHolder 4 s args wsX5_changeHolder RX5 := S
  refine g_aload_n S dX5_changeHolder_0 rfl ?_
  refine g_null S dX5_changeHolder_1 ?_
  refine k3_putR S hK none (by exact h3) 7 (by decide) (by decide) (S.2.2.2.2 _ (List.mem_of_getElem? (i := 1) rfl)) (Or.inl rfl) rfl rfl rfl dX5_changeHolder_2 ?_
  refine g_aload_n S dX5_changeHolder_5 rfl ?_
  refine k3_getR S hK (by exact h3) 2 (by decide) (by exact ht) (S.2.2.2.2 _ (List.mem_of_getElem? (i := 2) rfl)) rfl dX5_changeHolder_6 ?_
  refine g_astore_n S dX5_changeHolder_9 (by decide) rfl ?_
  refine g_aload_n S dX5_changeHolder_10 rfl ?_
  refine k5_get S hK (by exact h5) 0 (by decide) (S.2.2.2.2 _ (List.mem_of_getElem? (i := 3) rfl)) rfl dX5_changeHolder_11 ?_
  refine g_aload_n S dX5_changeHolder_14 rfl ?_
  refine k6_get S hK (by exact h6) 9 (by decide) (S.2.2.2.2 _ (List.mem_of_getElem? (i := 4) rfl)) rfl dX5_changeHolder_15 ?_
  refine g_icmp_eq S (tgt := 31) dX5_changeHolder_18 (by decide) (fun c_18 => ?_) (fun c_18 => ?_)
  · refine g_aload_n S dX5_changeHolder_31 rfl ?_
    refine g_iload_n S dX5_changeHolder_32 rfl ?_
    refine k5_put S hK (by exact h5) 2 (by decide) (by decide) (S.2.2.2.2 _ (List.mem_of_getElem? (i := 6) rfl)) (Or.inl rfl) rfl rfl dX5_changeHolder_33 ?_
    refine g_goto S (tgt := 66) dX5_changeHolder_36 (by decide) ?_
    exact g_vret S hlk hr (fun H h => ⟨rfl, h⟩) (Nat.le_refl _) (Nat.le_refl _) dX5_changeHolder_66
  · exact absurd hsame c_18

abbrev rnX5_changeHolder : Room := { frames := 2, cells := 1, slots := 3, locals := 43 }
set_option maxHeartbeats 1500000 in
set_option maxRecDepth 100000 in
theorem k_chNew (l : Launch) (D : va_G) (ty : Nat → ClassId) (A : Nat → Prop) (tE : Nat) (el : Nat → Nat → Nat) (a : CS) (h6 : cOb a 6 0) {r : Nat} (h3 : cOb a 3 r) {t : Nat} (ht : cR a 3 2 r = some t) (h5 : cOb a 5 t) (h : Int32) (hday : ¬ cI a 5 0 t = cI a 6 9 0) (hten : cI a 6 10 0 < 4096) (hw0 : cRwf (kCh0 a r)) (htn : t < cN a 5) : Met l yX5_changeHolder wsX5_changeHolder rnX5_changeHolder (gPc D ty true cstrs tE A [.ref (el 6 0), .ref (el 3 r), .int h] (hC D ty A tE el a)) (gQ A (gRet none (fun H => ∃ q : Nat, hC D ty A tE (elU el 5 (cN a 5) q) (kChNew a r t h) H))) 1 3 A := by
  refine g_Met (cc := cX5_changeHolder) (maxL := 4) (ret := none) [some (.ref (el 6 0)), some (.ref (el 3 r)), some (.int h), none] (by decide) rfl (Nat.le_of_ble_eq_true rfl) rfl ?_
  intro p e s m args below meth c S hlk hr hnm hK hE hP0
  have S : CallFix p m c cX5_changeHolder 4 s args wsX5_changeHolder RX5 := S
  refine g_aload_n S dX5_changeHolder_0 rfl ?_
  refine g_null S dX5_changeHolder_1 ?_
  refine k3_putR S hK none (by exact h3) 7 (by decide) (by decide) (S.2.2.2.2 _ (List.mem_of_getElem? (i := 1) rfl)) (Or.inl rfl) rfl rfl rfl dX5_changeHolder_2 ?_
  refine g_aload_n S dX5_changeHolder_5 rfl ?_
  refine k3_getR S hK (by exact h3) 2 (by decide) (by exact ht) (S.2.2.2.2 _ (List.mem_of_getElem? (i := 2) rfl)) rfl dX5_changeHolder_6 ?_
  refine g_astore_n S dX5_changeHolder_9 (by decide) rfl ?_
  refine g_aload_n S dX5_changeHolder_10 rfl ?_
  refine k5_get S hK (by exact h5) 0 (by decide) (S.2.2.2.2 _ (List.mem_of_getElem? (i := 3) rfl)) rfl dX5_changeHolder_11 ?_
  refine g_aload_n S dX5_changeHolder_14 rfl ?_
  refine k6_get S hK (by exact h6) 9 (by decide) (S.2.2.2.2 _ (List.mem_of_getElem? (i := 4) rfl)) rfl dX5_changeHolder_15 ?_
  refine g_icmp_eq S (tgt := 31) dX5_changeHolder_18 (by decide) (fun c_18 => ?_) (fun c_18 => ?_)
  · exact absurd c_18 hday
  · refine g_aload_n S dX5_changeHolder_21 rfl ?_
    refine k6_get S hK (by exact h6) 10 (by decide) (S.2.2.2.2 _ (List.mem_of_getElem? (i := 5) rfl)) rfl dX5_changeHolder_22 ?_
    refine g_sipush S (v := 4096) dX5_changeHolder_25 (by decide) ?_
    refine g_icmp_lt S (tgt := 39) dX5_changeHolder_28 (by decide) (fun c_28 => ?_) (fun c_28 => ?_)
    · refine g_aload_n S dX5_changeHolder_39 rfl ?_
      refine k5_new S hK (by exact hw0) (S.2.2.2.2 _ (List.mem_of_getElem? (i := 7) rfl)) (S.2.2.2.2 _ (List.mem_of_getElem? (i := 8) rfl)) (S.2.2.2.2 _ (List.mem_of_getElem? (i := 9) rfl)) (hE rfl).2.2.2.1 (Nat.le_of_ble_eq_true rfl) (Nat.le_of_ble_eq_true rfl) dX5_changeHolder_40 (fun q => ?_)
      refine g_dup S dX5_changeHolder_43 rfl ?_
      refine g_aload_n S dX5_changeHolder_44 rfl ?_
      refine k6_get S hK (by exact h6) 9 (by decide) (S.2.2.2.2 _ (List.mem_of_getElem? (i := 4) rfl)) rfl dX5_changeHolder_45 ?_
      refine g_iload_n S dX5_changeHolder_48 rfl ?_
      refine g_aload_n S dX5_changeHolder_49 rfl ?_
      refine g_cIv S (k_newTenure l D ty A tE (elU el 5 (cN a 5) q) (cNew (kCh0 a r) 5) (i := cN a 5) (Or.inl ⟨by decide, by show cN a 5 < (if 5 = 5 then cN a 5 + 1 else cN a 5); rw [if_pos rfl]; exact Nat.lt_succ_self _⟩) _ _ _ t (elU_ne (by omega)).symm) (cwI 3 S.2.2.2.2 gX5_changeHolder_X4_init rfl rfl rfl (S.2.2.2.2 _ (List.mem_of_getElem? (i := 9) rfl)) (S.2.2.2.2 _ (List.mem_of_getElem? (i := 10) rfl)) (S.2.2.2.2 _ (List.mem_of_getElem? (i := 11) rfl)) rfl (by decide +kernel) ⟨Nat.le_of_ble_eq_true rfl, Nat.le_of_ble_eq_true rfl⟩) hK hE (fun H h => h) rfl (Nat.le_of_ble_eq_true rfl) dX5_changeHolder_50 ⟨Nat.le_of_ble_eq_true rfl, Nat.le_of_ble_eq_true rfl⟩ ?_
      refine k3_putR S hK (some (cN a 5)) (by exact h3) 2 (by decide) (by decide) (S.2.2.2.2 _ (List.mem_of_getElem? (i := 2) rfl)) (Or.inl rfl) rfl rfl rfl dX5_changeHolder_53 ?_
      refine g_aload_n S dX5_changeHolder_56 rfl ?_
      refine g_dup S dX5_changeHolder_57 rfl ?_
      refine k6_get S hK (by exact h6) 10 (by decide) (S.2.2.2.2 _ (List.mem_of_getElem? (i := 5) rfl)) rfl dX5_changeHolder_58 ?_
      refine g_iconst S (v := 1) dX5_changeHolder_61 (by decide) ?_
      refine g_iadd S dX5_changeHolder_62 ?_
      refine k6_put S hK (by exact h6) 10 (by decide) (by decide) (S.2.2.2.2 _ (List.mem_of_getElem? (i := 5) rfl)) (Or.inl rfl) rfl rfl dX5_changeHolder_63 ?_
      exact g_vret S hlk hr (fun H h => ⟨rfl, q, h⟩) (Nat.le_of_ble_eq_true rfl) (Nat.le_of_ble_eq_true rfl) dX5_changeHolder_66
    · exact absurd hten c_28

