section CL11
variable {p : Program} {l : Launch} {e : Env} {R : Room} {s : State} {m : MethodId} {args : Array Value} {below : List Frame} {meth : Method} {c : Code} {A : Nat → Prop} {Q : State → Prop} {nL : Nat} {k n : Nat} {pc : Nat} {lv : List (Option Value)} {st : List Value} {P : Heap → Prop}
variable {cc : ByteArray} {Ts : List Cond} {own : String}
theorem g_mmin (S : CallFix p m c cc nL s args Ts own) {index : Nat} (hlink : (Cond.methodLink own index Lib.Math.min.name).before args s = true) (hstat : (Cond.static Lib.Math.min.name).before args s = true) (hini : (Cond.initialized "java/lang/Math").before args s = true) (hcode : (Cond.code Lib.Math.min.name Lib.Math.min.code 2 (some .int)).before args s = true)
    (hR : 1 ≤ R.frames ∧ 21 ≤ R.locals) (hst : (st.map fun v => v.category).sum ≤ 8) (hc : k ≤ R.cells) (hs : n ≤ R.slots) {x y : Int32} (hdg : decode cc pc = .ok (.invokestatic index, 3))
    (kk : gW p l e R s m args below meth c A Q nL P k n (pc + 3) lv (.int (if y < x then y else x) :: st)) : gW p l e R s m args below meth c A Q nL P k n pc lv (.int y :: .int x :: st) := fun H locs ls hP hS hl =>
  va_mmin S.1 S.2.1 (by rw [S.2.2.1]; exact (gl_size hl).symm) S.2.2.2.1 hlink hstat hini hcode hR.1 (by omega) hc hs hdg (kk H locs ls hP hS hl)
end CL11
def kPayN (a : CS) (t : Nat) (dl x : Int32) : CS := kPay a dl (cI a 5 2 t) (x.toInt64 * (cI a 6 7 0).toInt64)
def kPayC (a : CS) (t c : Nat) (x : Int32) : CS :=
  let b := kPay a (cI a 1 1 c) (cI a 5 2 t) (x.toInt64 * (cI a 1 7 c).toInt64)
  let b := cSI b 1 9 c (cI b 1 9 c - x)
  cSI b 1 10 c (cI b 1 10 c + x)
def kMin (x y : Int32) : Int32 := if y < x then y else x
abbrev rmX5_payForTaken : Room := { frames := 1, cells := 0, slots := 0, locals := 24 }
set_option maxHeartbeats 1500000 in
set_option maxRecDepth 100000 in
theorem k_payForTakenN (l : Launch) (D : va_G) (ty : Nat → ClassId) (A : Nat → Prop) (tE : Nat) (el : Nat → Nat → Nat) (a : CS) (h6 : cOb a 6 0) {r : Nat} (h3 : cOb a 3 r) {t : Nat} (ht : cR a 3 2 r = some t) (h5 : cOb a 5 t) (dl x : Int32) (hj : vp_in (cI a 5 2 t) 6) (hi : vp_in dl 6) (hk : cR a 3 7 r = none) : Met l yX5_payForTaken wsX5_payForTaken rmX5_payForTaken (gPc D ty true cstrs tE A [.ref (el 6 0), .ref (el 3 r), .int dl, .int x] (hC D ty A tE el a)) (gQ A (gRet none (hC D ty A tE el (kPayN a t dl x)))) 0 0 A := by
  refine g_Met (cc := cX5_payForTaken) (maxL := 5) (ret := none) [some (.ref (el 6 0)), some (.ref (el 3 r)), some (.int dl), some (.int x), none] (by decide) rfl (Nat.le_of_ble_eq_true rfl) rfl ?_
  intro p e s m args below meth c S hlk hr hnm hK hE hP0
  have S : CallFix p m c cX5_payForTaken 5 s args wsX5_payForTaken RX5 := S
  refine g_aload_n S dX5_payForTaken_0 rfl ?_
  refine k3_getN S hK (by exact h3) 7 (by decide) (by exact hk) (S.2.2.2.2 _ (List.mem_of_getElem? (i := 1) rfl)) rfl dX5_payForTaken_1 ?_
  refine g_astoreN S dX5_payForTaken_4 (by decide) rfl ?_
  refine g_aloadN S dX5_payForTaken_6 rfl ?_
  refine g_ifnonnullN S dX5_payForTaken_8 ?_
  refine g_aload_n S dX5_payForTaken_11 rfl ?_
  refine g_iload_n S dX5_payForTaken_12 rfl ?_
  refine g_aload_n S dX5_payForTaken_13 rfl ?_
  refine g_cVr S (k_holder l D ty A tE el _ (by exact h3) (by exact ht) (by exact h5)) (cwV 0 S.2.2.2.2 gX5_payForTaken_X2_holder rfl rfl rfl (by decide +kernel) ⟨Nat.le_of_ble_eq_true rfl, Nat.le_of_ble_eq_true rfl⟩) hK hE (fun H h => h) (k3_recv hK (by exact h3)) rfl (Nat.le_of_ble_eq_true rfl) dX5_payForTaken_14 ⟨Nat.le_of_ble_eq_true rfl, Nat.le_of_ble_eq_true rfl⟩ ?_
  refine g_iload_n S dX5_payForTaken_17 rfl ?_
  refine g_i2l S dX5_payForTaken_18 ?_
  refine g_aload_n S dX5_payForTaken_19 rfl ?_
  refine k6_get S hK (by exact h6) 7 (by decide) (S.2.2.2.2 _ (List.mem_of_getElem? (i := 2) rfl)) rfl dX5_payForTaken_20 ?_
  refine g_i2l S dX5_payForTaken_23 ?_
  refine g_lmul S dX5_payForTaken_24 ?_
  refine g_cVv S (k_pay l D ty A tE el _ (by exact h6) _ _ _ (by exact hi) (by exact hj)) (cwV 3 S.2.2.2.2 gX5_payForTaken_X5_pay rfl rfl rfl (by decide +kernel) ⟨Nat.le_of_ble_eq_true rfl, Nat.le_of_ble_eq_true rfl⟩) hK hE (fun H h => h) (k6_recv hK h6) rfl (Nat.le_of_ble_eq_true rfl) dX5_payForTaken_25 ⟨Nat.le_of_ble_eq_true rfl, Nat.le_of_ble_eq_true rfl⟩ ?_
  refine g_goto S (tgt := 75) dX5_payForTaken_28 (by decide) ?_
  exact g_vret S hlk hr (fun H h => ⟨rfl, h⟩) (Nat.le_refl _) (Nat.le_refl _) dX5_payForTaken_75

set_option maxHeartbeats 1500000 in
set_option maxRecDepth 100000 in
theorem k_payForTakenC (l : Launch) (D : va_G) (ty : Nat → ClassId) (A : Nat → Prop) (tE : Nat) (el : Nat → Nat → Nat) (a : CS) (h6 : cOb a 6 0) {r : Nat} (h3 : cOb a 3 r) {t : Nat} (ht : cR a 3 2 r = some t) (h5 : cOb a 5 t) (dl x : Int32) (hj : vp_in (cI a 5 2 t) 6) {c9 : Nat} (hk : cR a 3 7 r = some c9) (h1 : cOb a 1 c9) (hi : vp_in (cI a 1 1 c9) 6) : Met l yX5_payForTaken wsX5_payForTaken rmX5_payForTaken (gPc D ty true cstrs tE A [.ref (el 6 0), .ref (el 3 r), .int dl, .int x] (hC D ty A tE el a)) (gQ A (gRet none (hC D ty A tE el (kPayC a t c9 x)))) 0 0 A := by
  refine g_Met (cc := cX5_payForTaken) (maxL := 5) (ret := none) [some (.ref (el 6 0)), some (.ref (el 3 r)), some (.int dl), some (.int x), none] (by decide) rfl (Nat.le_of_ble_eq_true rfl) rfl ?_
  intro p e s m args below meth c S hlk hr hnm hK hE hP0
  have S : CallFix p m c cX5_payForTaken 5 s args wsX5_payForTaken RX5 := S
  refine g_aload_n S dX5_payForTaken_0 rfl ?_
  refine k3_getR S hK (by exact h3) 7 (by decide) (by exact hk) (S.2.2.2.2 _ (List.mem_of_getElem? (i := 1) rfl)) rfl dX5_payForTaken_1 ?_
  refine g_astore S dX5_payForTaken_4 (by decide) rfl ?_
  refine g_aload S dX5_payForTaken_6 rfl ?_
  refine g_ifnonnull S (tgt := 31) dX5_payForTaken_8 (by decide) ?_
  refine g_aload_n S dX5_payForTaken_31 rfl ?_
  refine g_aload S dX5_payForTaken_32 rfl ?_
  refine k1_get S hK (by exact h1) 1 (by decide) (S.2.2.2.2 _ (List.mem_of_getElem? (i := 3) rfl)) rfl dX5_payForTaken_34 ?_
  refine g_aload_n S dX5_payForTaken_37 rfl ?_
  refine g_cVr S (k_holder l D ty A tE el _ (by exact h3) (by exact ht) (by exact h5)) (cwV 0 S.2.2.2.2 gX5_payForTaken_X2_holder rfl rfl rfl (by decide +kernel) ⟨Nat.le_of_ble_eq_true rfl, Nat.le_of_ble_eq_true rfl⟩) hK hE (fun H h => h) (k3_recv hK (by exact h3)) rfl (Nat.le_of_ble_eq_true rfl) dX5_payForTaken_38 ⟨Nat.le_of_ble_eq_true rfl, Nat.le_of_ble_eq_true rfl⟩ ?_
  refine g_iload_n S dX5_payForTaken_41 rfl ?_
  refine g_i2l S dX5_payForTaken_42 ?_
  refine g_aload S dX5_payForTaken_43 rfl ?_
  refine k1_get S hK (by exact h1) 7 (by decide) (S.2.2.2.2 _ (List.mem_of_getElem? (i := 4) rfl)) rfl dX5_payForTaken_45 ?_
  refine g_i2l S dX5_payForTaken_48 ?_
  refine g_lmul S dX5_payForTaken_49 ?_
  refine g_cVv S (k_pay l D ty A tE el _ (by exact h6) _ _ _ (by exact hi) (by exact hj)) (cwV 3 S.2.2.2.2 gX5_payForTaken_X5_pay rfl rfl rfl (by decide +kernel) ⟨Nat.le_of_ble_eq_true rfl, Nat.le_of_ble_eq_true rfl⟩) hK hE (fun H h => h) (k6_recv hK h6) rfl (Nat.le_of_ble_eq_true rfl) dX5_payForTaken_50 ⟨Nat.le_of_ble_eq_true rfl, Nat.le_of_ble_eq_true rfl⟩ ?_
  refine g_aload S dX5_payForTaken_53 rfl ?_
  refine g_dup S dX5_payForTaken_55 rfl ?_
  refine k1_get S hK (by exact h1) 9 (by decide) (S.2.2.2.2 _ (List.mem_of_getElem? (i := 5) rfl)) rfl dX5_payForTaken_56 ?_
  refine g_iload_n S dX5_payForTaken_59 rfl ?_
  refine g_isub S dX5_payForTaken_60 ?_
  refine k1_put S hK (by exact h1) 9 (by decide) (by decide) (S.2.2.2.2 _ (List.mem_of_getElem? (i := 5) rfl)) (Or.inl rfl) rfl rfl dX5_payForTaken_61 ?_
  refine g_aload S dX5_payForTaken_64 rfl ?_
  refine g_dup S dX5_payForTaken_66 rfl ?_
  refine k1_get S hK (by exact h1) 10 (by decide) (S.2.2.2.2 _ (List.mem_of_getElem? (i := 6) rfl)) rfl dX5_payForTaken_67 ?_
  refine g_iload_n S dX5_payForTaken_70 rfl ?_
  refine g_iadd S dX5_payForTaken_71 ?_
  refine k1_put S hK (by exact h1) 10 (by decide) (by decide) (S.2.2.2.2 _ (List.mem_of_getElem? (i := 6) rfl)) (Or.inl rfl) rfl rfl dX5_payForTaken_72 ?_
  exact g_vret S hlk hr (fun H h => ⟨rfl, h⟩) (Nat.le_refl _) (Nat.le_refl _) dX5_payForTaken_75

abbrev rmX5_takeBackFrom : Room := { frames := 2, cells := 0, slots := 0, locals := 48 }
set_option maxHeartbeats 1500000 in
set_option maxRecDepth 100000 in
theorem k_tbSame (l : Launch) (D : va_G) (ty : Nat → ClassId) (A : Nat → Prop) (tE : Nat) (el : Nat → Nat → Nat) (a : CS) (h6 : cOb a 6 0) {r : Nat} (h3 : cOb a 3 r) {t : Nat} (ht : cR a 3 2 r = some t) (h5 : cOb a 5 t) {d : Nat} (hd : cR a 3 1 r = some d) (h2 : cOb a 2 d) {i : Nat} (hs : cR a 2 4 d = some i) (h4 : cOb a 4 i) (dl x : Int32) (he : cI a 5 2 t = dl) : Met l yX5_takeBackFrom wsX5_takeBackFrom rmX5_takeBackFrom (gPc D ty true cstrs tE A [.ref (el 6 0), .ref (el 3 r), .int dl, .int x] (hC D ty A tE el a)) (gQ A (gRet (some (.int (kMin (cI a 3 3 r) x))) (hC D ty A tE el (kTakeFrom a r i (kMin (cI a 3 3 r) x))))) 0 0 A := by
  refine g_Met (cc := cX5_takeBackFrom) (maxL := 5) (ret := (some .int)) [some (.ref (el 6 0)), some (.ref (el 3 r)), some (.int dl), some (.int x), none] (by decide) rfl (Nat.le_of_ble_eq_true rfl) rfl ?_
  intro p e s m args below meth c S hlk hr hnm hK hE hP0
  have S : CallFix p m c cX5_takeBackFrom 5 s args wsX5_takeBackFrom RX5 := S
  refine g_aload_n S dX5_takeBackFrom_0 rfl ?_
  refine k3_get S hK (by exact h3) 3 (by decide) (S.2.2.2.2 _ (List.mem_of_getElem? (i := 1) rfl)) rfl dX5_takeBackFrom_1 ?_
  refine g_iload_n S dX5_takeBackFrom_4 rfl ?_
  refine g_mmin S (S.2.2.2.2 _ (List.mem_of_getElem? (i := 2) rfl)) (S.2.2.2.2 _ (List.mem_of_getElem? (i := 3) rfl)) (S.2.2.2.2 _ (List.mem_of_getElem? (i := 4) rfl)) (S.2.2.2.2 _ (List.mem_of_getElem? (i := 5) rfl)) ⟨Nat.le_of_ble_eq_true rfl, Nat.le_of_ble_eq_true rfl⟩ (Nat.le_of_ble_eq_true rfl) (Nat.zero_le _) (Nat.zero_le _) dX5_takeBackFrom_5 ?_
  refine g_istore S dX5_takeBackFrom_8 (by decide) rfl ?_
  refine g_aload_n S dX5_takeBackFrom_10 rfl ?_
  refine g_cVr S (k_holder l D ty A tE el _ (by exact h3) (by exact ht) (by exact h5)) (cwV 0 S.2.2.2.2 gX5_takeBackFrom_X2_holder rfl rfl rfl (by decide +kernel) ⟨Nat.le_of_ble_eq_true rfl, Nat.le_of_ble_eq_true rfl⟩) hK hE (fun H h => h) (k3_recv hK (by exact h3)) rfl (Nat.le_of_ble_eq_true rfl) dX5_takeBackFrom_11 ⟨Nat.le_of_ble_eq_true rfl, Nat.le_of_ble_eq_true rfl⟩ ?_
  refine g_iload_n S dX5_takeBackFrom_14 rfl ?_
  refine g_icmp_eq S (tgt := 26) dX5_takeBackFrom_15 (by decide) (fun c_15 => ?_) (fun c_15 => ?_)
  · refine g_aload_n S dX5_takeBackFrom_26 rfl ?_
    refine g_aload_n S dX5_takeBackFrom_27 rfl ?_
    refine g_iload S dX5_takeBackFrom_28 rfl ?_
    refine g_cVv S (k_takeFrom l D ty A tE el _ (by exact h6) (by exact h3) (by exact hd) (by exact h2) (by exact hs) (by exact h4) _) (cwV 2 S.2.2.2.2 gX5_takeBackFrom_X5_takeFrom rfl rfl rfl (by decide +kernel) ⟨Nat.le_of_ble_eq_true rfl, Nat.le_of_ble_eq_true rfl⟩) hK hE (fun H h => h) (k6_recv hK h6) rfl (Nat.le_of_ble_eq_true rfl) dX5_takeBackFrom_30 ⟨Nat.le_of_ble_eq_true rfl, Nat.le_of_ble_eq_true rfl⟩ ?_
    refine g_iload S dX5_takeBackFrom_33 rfl ?_
    exact g_iret S hlk hr (fun H h => ⟨rfl, h⟩) (Nat.le_refl _) (Nat.le_refl _) dX5_takeBackFrom_35
  · exact absurd he c_15

set_option maxHeartbeats 1500000 in
set_option maxRecDepth 100000 in
theorem k_tbNone (l : Launch) (D : va_G) (ty : Nat → ClassId) (A : Nat → Prop) (tE : Nat) (el : Nat → Nat → Nat) (a : CS) (h6 : cOb a 6 0) {r : Nat} (h3 : cOb a 3 r) {t : Nat} (ht : cR a 3 2 r = some t) (h5 : cOb a 5 t) {d : Nat} (hd : cR a 3 1 r = some d) (h2 : cOb a 2 d) {i : Nat} (hs : cR a 2 4 d = some i) (h4 : cOb a 4 i) (dl x : Int32) (he : ¬ cI a 5 2 t = dl) (hj : vp_in (cI a 5 2 t) 6) (hi : vp_in dl 6) (hk : cR a 3 7 r = none) : Met l yX5_takeBackFrom wsX5_takeBackFrom rmX5_takeBackFrom (gPc D ty true cstrs tE A [.ref (el 6 0), .ref (el 3 r), .int dl, .int x] (hC D ty A tE el a)) (gQ A (gRet (some (.int (kMin (cI a 3 3 r) x))) (hC D ty A tE el (kTakeFrom (kPayN a t dl (kMin (cI a 3 3 r) x)) r i (kMin (cI a 3 3 r) x))))) 0 0 A := by
  refine g_Met (cc := cX5_takeBackFrom) (maxL := 5) (ret := (some .int)) [some (.ref (el 6 0)), some (.ref (el 3 r)), some (.int dl), some (.int x), none] (by decide) rfl (Nat.le_of_ble_eq_true rfl) rfl ?_
  intro p e s m args below meth c S hlk hr hnm hK hE hP0
  have S : CallFix p m c cX5_takeBackFrom 5 s args wsX5_takeBackFrom RX5 := S
  refine g_aload_n S dX5_takeBackFrom_0 rfl ?_
  refine k3_get S hK (by exact h3) 3 (by decide) (S.2.2.2.2 _ (List.mem_of_getElem? (i := 1) rfl)) rfl dX5_takeBackFrom_1 ?_
  refine g_iload_n S dX5_takeBackFrom_4 rfl ?_
  refine g_mmin S (S.2.2.2.2 _ (List.mem_of_getElem? (i := 2) rfl)) (S.2.2.2.2 _ (List.mem_of_getElem? (i := 3) rfl)) (S.2.2.2.2 _ (List.mem_of_getElem? (i := 4) rfl)) (S.2.2.2.2 _ (List.mem_of_getElem? (i := 5) rfl)) ⟨Nat.le_of_ble_eq_true rfl, Nat.le_of_ble_eq_true rfl⟩ (Nat.le_of_ble_eq_true rfl) (Nat.zero_le _) (Nat.zero_le _) dX5_takeBackFrom_5 ?_
  refine g_istore S dX5_takeBackFrom_8 (by decide) rfl ?_
  refine g_aload_n S dX5_takeBackFrom_10 rfl ?_
  refine g_cVr S (k_holder l D ty A tE el _ (by exact h3) (by exact ht) (by exact h5)) (cwV 0 S.2.2.2.2 gX5_takeBackFrom_X2_holder rfl rfl rfl (by decide +kernel) ⟨Nat.le_of_ble_eq_true rfl, Nat.le_of_ble_eq_true rfl⟩) hK hE (fun H h => h) (k3_recv hK (by exact h3)) rfl (Nat.le_of_ble_eq_true rfl) dX5_takeBackFrom_11 ⟨Nat.le_of_ble_eq_true rfl, Nat.le_of_ble_eq_true rfl⟩ ?_
  refine g_iload_n S dX5_takeBackFrom_14 rfl ?_
  refine g_icmp_eq S (tgt := 26) dX5_takeBackFrom_15 (by decide) (fun c_15 => ?_) (fun c_15 => ?_)
  · exact absurd c_15 he
  · refine g_aload_n S dX5_takeBackFrom_18 rfl ?_
    refine g_aload_n S dX5_takeBackFrom_19 rfl ?_
    refine g_iload_n S dX5_takeBackFrom_20 rfl ?_
    refine g_iload S dX5_takeBackFrom_21 rfl ?_
    refine g_cVv S (k_payForTakenN l D ty A tE el a h6 h3 ht h5 _ _ hj hi hk) (cwV 3 S.2.2.2.2 gX5_takeBackFrom_X5_payForTaken rfl rfl rfl (by decide +kernel) ⟨Nat.le_of_ble_eq_true rfl, Nat.le_of_ble_eq_true rfl⟩) hK hE (fun H h => h) (k6_recv hK h6) rfl (Nat.le_of_ble_eq_true rfl) dX5_takeBackFrom_23 ⟨Nat.le_of_ble_eq_true rfl, Nat.le_of_ble_eq_true rfl⟩ ?_
    refine g_aload_n S dX5_takeBackFrom_26 rfl ?_
    refine g_aload_n S dX5_takeBackFrom_27 rfl ?_
    refine g_iload S dX5_takeBackFrom_28 rfl ?_
    refine g_cVv S (k_takeFrom l D ty A tE el _ (by exact h6) (by exact h3) (by exact hd) (by exact h2) (by exact hs) (by exact h4) _) (cwV 2 S.2.2.2.2 gX5_takeBackFrom_X5_takeFrom rfl rfl rfl (by decide +kernel) ⟨Nat.le_of_ble_eq_true rfl, Nat.le_of_ble_eq_true rfl⟩) hK hE (fun H h => h) (k6_recv hK h6) rfl (Nat.le_of_ble_eq_true rfl) dX5_takeBackFrom_30 ⟨Nat.le_of_ble_eq_true rfl, Nat.le_of_ble_eq_true rfl⟩ ?_
    refine g_iload S dX5_takeBackFrom_33 rfl ?_
    exact g_iret S hlk hr (fun H h => ⟨rfl, h⟩) (Nat.le_refl _) (Nat.le_refl _) dX5_takeBackFrom_35

set_option maxHeartbeats 1500000 in
set_option maxRecDepth 100000 in
theorem k_tbSome (l : Launch) (D : va_G) (ty : Nat → ClassId) (A : Nat → Prop) (tE : Nat) (el : Nat → Nat → Nat) (a : CS) (h6 : cOb a 6 0) {r : Nat} (h3 : cOb a 3 r) {t : Nat} (ht : cR a 3 2 r = some t) (h5 : cOb a 5 t) {d : Nat} (hd : cR a 3 1 r = some d) (h2 : cOb a 2 d) {i : Nat} (hs : cR a 2 4 d = some i) (h4 : cOb a 4 i) (dl x : Int32) (he : ¬ cI a 5 2 t = dl) (hj : vp_in (cI a 5 2 t) 6) {c9 : Nat} (hk : cR a 3 7 r = some c9) (h1 : cOb a 1 c9) (hi : vp_in (cI a 1 1 c9) 6) : Met l yX5_takeBackFrom wsX5_takeBackFrom rmX5_takeBackFrom (gPc D ty true cstrs tE A [.ref (el 6 0), .ref (el 3 r), .int dl, .int x] (hC D ty A tE el a)) (gQ A (gRet (some (.int (kMin (cI a 3 3 r) x))) (hC D ty A tE el (kTakeFrom (kPayC a t c9 (kMin (cI a 3 3 r) x)) r i (kMin (cI a 3 3 r) x))))) 0 0 A := by
  refine g_Met (cc := cX5_takeBackFrom) (maxL := 5) (ret := (some .int)) [some (.ref (el 6 0)), some (.ref (el 3 r)), some (.int dl), some (.int x), none] (by decide) rfl (Nat.le_of_ble_eq_true rfl) rfl ?_
  intro p e s m args below meth c S hlk hr hnm hK hE hP0
  have S : CallFix p m c cX5_takeBackFrom 5 s args wsX5_takeBackFrom RX5 := S
  refine g_aload_n S dX5_takeBackFrom_0 rfl ?_
  refine k3_get S hK (by exact h3) 3 (by decide) (S.2.2.2.2 _ (List.mem_of_getElem? (i := 1) rfl)) rfl dX5_takeBackFrom_1 ?_
  refine g_iload_n S dX5_takeBackFrom_4 rfl ?_
  refine g_mmin S (S.2.2.2.2 _ (List.mem_of_getElem? (i := 2) rfl)) (S.2.2.2.2 _ (List.mem_of_getElem? (i := 3) rfl)) (S.2.2.2.2 _ (List.mem_of_getElem? (i := 4) rfl)) (S.2.2.2.2 _ (List.mem_of_getElem? (i := 5) rfl)) ⟨Nat.le_of_ble_eq_true rfl, Nat.le_of_ble_eq_true rfl⟩ (Nat.le_of_ble_eq_true rfl) (Nat.zero_le _) (Nat.zero_le _) dX5_takeBackFrom_5 ?_
  refine g_istore S dX5_takeBackFrom_8 (by decide) rfl ?_
  refine g_aload_n S dX5_takeBackFrom_10 rfl ?_
  refine g_cVr S (k_holder l D ty A tE el _ (by exact h3) (by exact ht) (by exact h5)) (cwV 0 S.2.2.2.2 gX5_takeBackFrom_X2_holder rfl rfl rfl (by decide +kernel) ⟨Nat.le_of_ble_eq_true rfl, Nat.le_of_ble_eq_true rfl⟩) hK hE (fun H h => h) (k3_recv hK (by exact h3)) rfl (Nat.le_of_ble_eq_true rfl) dX5_takeBackFrom_11 ⟨Nat.le_of_ble_eq_true rfl, Nat.le_of_ble_eq_true rfl⟩ ?_
  refine g_iload_n S dX5_takeBackFrom_14 rfl ?_
  refine g_icmp_eq S (tgt := 26) dX5_takeBackFrom_15 (by decide) (fun c_15 => ?_) (fun c_15 => ?_)
  · exact absurd c_15 he
  · refine g_aload_n S dX5_takeBackFrom_18 rfl ?_
    refine g_aload_n S dX5_takeBackFrom_19 rfl ?_
    refine g_iload_n S dX5_takeBackFrom_20 rfl ?_
    refine g_iload S dX5_takeBackFrom_21 rfl ?_
    refine g_cVv S (k_payForTakenC l D ty A tE el a h6 h3 ht h5 _ _ hj hk h1 hi) (cwV 3 S.2.2.2.2 gX5_takeBackFrom_X5_payForTaken rfl rfl rfl (by decide +kernel) ⟨Nat.le_of_ble_eq_true rfl, Nat.le_of_ble_eq_true rfl⟩) hK hE (fun H h => h) (k6_recv hK h6) rfl (Nat.le_of_ble_eq_true rfl) dX5_takeBackFrom_23 ⟨Nat.le_of_ble_eq_true rfl, Nat.le_of_ble_eq_true rfl⟩ ?_
    refine g_aload_n S dX5_takeBackFrom_26 rfl ?_
    refine g_aload_n S dX5_takeBackFrom_27 rfl ?_
    refine g_iload S dX5_takeBackFrom_28 rfl ?_
    refine g_cVv S (k_takeFrom l D ty A tE el _ (by exact h6) (by exact h3) (by exact hd) (by exact h2) (by exact hs) (by exact h4) _) (cwV 2 S.2.2.2.2 gX5_takeBackFrom_X5_takeFrom rfl rfl rfl (by decide +kernel) ⟨Nat.le_of_ble_eq_true rfl, Nat.le_of_ble_eq_true rfl⟩) hK hE (fun H h => h) (k6_recv hK h6) rfl (Nat.le_of_ble_eq_true rfl) dX5_takeBackFrom_30 ⟨Nat.le_of_ble_eq_true rfl, Nat.le_of_ble_eq_true rfl⟩ ?_
    refine g_iload S dX5_takeBackFrom_33 rfl ?_
    exact g_iret S hlk hr (fun H h => ⟨rfl, h⟩) (Nat.le_refl _) (Nat.le_refl _) dX5_takeBackFrom_35

abbrev rmX5_siloFor : Room := { frames := 3, cells := 0, slots := 0, locals := 64 }
set_option maxHeartbeats 1500000 in
set_option maxRecDepth 100000 in
theorem k_siloFor (l : Launch) (D : va_G) (ty : Nat → ClassId) (A : Nat → Prop) (tE : Nat) (el : Nat → Nat → Nat) (a : CS) (h6 : cOb a 6 0) (hwf : cWf a) (hb : cL a 0 < 2 ^ 31) (g q x : Int32) : Met l yX5_siloFor wsX5_siloFor rmX5_siloFor (gPc D ty true cstrs tE A [.ref (el 6 0), .int g, .int q, .int x] (hC D ty A tE el a)) (gQ A (gRet (some (va_rf ((kSiloFor a g q x).map (el 4)))) (hC D ty A tE el a))) 0 0 A := by
  refine g_Met (cc := cX5_siloFor) (maxL := 6) (ret := (some (.object "Grainledger$Silo"))) [some (.ref (el 6 0)), some (.int g), some (.int q), some (.int x), none, none] (by decide) rfl (Nat.le_of_ble_eq_true rfl) rfl ?_
  intro p e s m args below meth c S hlk hr hnm hK hE hP0
  have S : CallFix p m c cX5_siloFor 6 s args wsX5_siloFor RX5 := S
  have hj : 0 < 4 := by decide
  have L2 : ∀ (kk i : Nat) , i + kk = cL a 0 → mFst (kSF2 a x) i kk = mFst (kSF2 a x) 0 (cL a 0) → mFst (kSF1 a g q x) 0 (cL a 0) = none → gW p l e (headSpec wsX5_siloFor rmX5_siloFor).room s m args below meth c A (gR below A args s 0 0 (gRet (some (va_rf ((kSiloFor a g q x).map (el 4)))) (hC D ty A tE el a))) 6 (hC D ty A tE el a) 0 0 60 [some (.ref (el 6 0)), some (.int g), some (.int q), some (.int x), some (.int (nI i)), none] [] := by
    intro kk
    induction kk with
    | zero =>
      intro i  ei e1 e0
      refine g_iload S dX5_siloFor_60 rfl ?_
      refine g_aload_n S dX5_siloFor_62 rfl ?_
      refine k6_get S hK (by exact h6) 0 (by decide) (S.2.2.2.2 _ (List.mem_of_getElem? (i := 1) rfl)) rfl dX5_siloFor_63 ?_
      refine g_cVr S (k_size l D ty A tE el a hj) (cwV 0 S.2.2.2.2 gX5_siloFor_Jx4a65c_size_8abf5 rfl rfl rfl (by decide +kernel) ⟨Nat.le_of_ble_eq_true rfl, Nat.le_of_ble_eq_true rfl⟩) hK hE (fun H h => h) (k0_recv hK hj) rfl (Nat.le_of_ble_eq_true rfl) dX5_siloFor_66 ⟨Nat.le_of_ble_eq_true rfl, Nat.le_of_ble_eq_true rfl⟩ ?_
      refine g_icmp_ge S (tgt := 112) dX5_siloFor_69 (by decide) (fun c_69 => ?_) (fun c_69 => ?_)
      · refine g_null S dX5_siloFor_112 ?_
        exact g_aret S hlk hr (Or.inl ⟨_, rfl⟩) (by first | exact Or.inr ⟨_, rfl⟩ | exact Or.inl rfl) (fun H h => ⟨by unfold kSiloFor; rw [e0, ← e1]; rfl, h⟩) (Nat.le_refl _) (Nat.le_refl _) dX5_siloFor_113
      · exact absurd (lp_exit (nr := cL a 0) rfl (by omega) (by omega)) c_69
    | succ kk ih =>
      intro i  ei e1 e0
      have hq : i < cL a 0 := by omega
      have h4 : cOb a 4 i := Or.inl ⟨by decide, by have := hwf.2.2.1; omega⟩
      refine g_iload S dX5_siloFor_60 rfl ?_
      refine g_aload_n S dX5_siloFor_62 rfl ?_
      refine k6_get S hK (by exact h6) 0 (by decide) (S.2.2.2.2 _ (List.mem_of_getElem? (i := 1) rfl)) rfl dX5_siloFor_63 ?_
      refine g_cVr S (k_size l D ty A tE el a hj) (cwV 0 S.2.2.2.2 gX5_siloFor_Jx4a65c_size_8abf5 rfl rfl rfl (by decide +kernel) ⟨Nat.le_of_ble_eq_true rfl, Nat.le_of_ble_eq_true rfl⟩) hK hE (fun H h => h) (k0_recv hK hj) rfl (Nat.le_of_ble_eq_true rfl) dX5_siloFor_66 ⟨Nat.le_of_ble_eq_true rfl, Nat.le_of_ble_eq_true rfl⟩ ?_
      refine g_icmp_ge S (tgt := 112) dX5_siloFor_69 (by decide) (fun c_69 => ?_) (fun c_69 => ?_)
      · exact absurd c_69 (lp_stay (nr := cL a 0) rfl (by omega) (by omega))
      · refine g_aload_n S dX5_siloFor_72 rfl ?_
        refine k6_get S hK (by exact h6) 0 (by decide) (S.2.2.2.2 _ (List.mem_of_getElem? (i := 1) rfl)) rfl dX5_siloFor_73 ?_
        refine g_iload S dX5_siloFor_76 rfl ?_
        refine g_cVr S (k_get l D ty A tE el a hj hq hb) (cwV 1 S.2.2.2.2 gX5_siloFor_Jx4a65c_get_915e3 rfl rfl rfl (by decide +kernel) ⟨Nat.le_of_ble_eq_true rfl, Nat.le_of_ble_eq_true rfl⟩) hK hE (fun H h => h) (k0_recv hK hj) rfl (Nat.le_of_ble_eq_true rfl) dX5_siloFor_78 ⟨Nat.le_of_ble_eq_true rfl, Nat.le_of_ble_eq_true rfl⟩ ?_
        refine g_cast S hK (q := (RX3, TX3, 6)) (S.2.2.2.2 _ (List.mem_of_getElem? (i := 2) rfl)) (ci := 4) rfl (k4_recv hK h4) dX5_siloFor_81 ?_
        refine g_astore S dX5_siloFor_84 (by decide) rfl ?_
        refine g_aload S dX5_siloFor_86 rfl ?_
        refine g_cVr S (k_isEmpty l D ty A tE el _ (by exact h4)) (cwV 0 S.2.2.2.2 gX5_siloFor_X3_isEmpty rfl rfl rfl (by decide +kernel) ⟨Nat.le_of_ble_eq_true rfl, Nat.le_of_ble_eq_true rfl⟩) hK hE (fun H h => h) (k4_recv hK (by exact h4)) rfl (Nat.le_of_ble_eq_true rfl) dX5_siloFor_88 ⟨Nat.le_of_ble_eq_true rfl, Nat.le_of_ble_eq_true rfl⟩ ?_
        refine g_ifb_eq S (tgt := 106) dX5_siloFor_91 (by decide) (fun c_91 => ?_) (fun c_91 => ?_)
        · refine g_iinc S (v := nI (i + 1)) dX5_siloFor_106 rfl (nI_inc i) (by decide) rfl ?_
          refine g_goto S (tgt := 60) dX5_siloFor_109 (by decide) ?_
          refine g_drop 5 ?_
          exact ih (i + 1) (by omega) (by rw [← e1]; simp only [mFst, kSF2, c_91, Bool.and_true, Bool.true_and, Bool.and_false, Bool.false_and, Bool.and_self, if_true, if_false, reduceIte, Bool.false_eq_true]) e0
        · refine g_aload S dX5_siloFor_94 rfl ?_
          refine g_iload_n S dX5_siloFor_96 rfl ?_
          refine g_cVr S (k_hasRoomFor l D ty A tE el a h4 _) (cwV 1 S.2.2.2.2 gX5_siloFor_X3_hasRoomFor rfl rfl rfl (by decide +kernel) ⟨Nat.le_of_ble_eq_true rfl, Nat.le_of_ble_eq_true rfl⟩) hK hE (fun H h => h) (k4_recv hK (by exact h4)) rfl (Nat.le_of_ble_eq_true rfl) dX5_siloFor_97 ⟨Nat.le_of_ble_eq_true rfl, Nat.le_of_ble_eq_true rfl⟩ ?_
          refine g_ifb_eq S (tgt := 106) dX5_siloFor_100 (by decide) (fun c_100 => ?_) (fun c_100 => ?_)
          · refine g_iinc S (v := nI (i + 1)) dX5_siloFor_106 rfl (nI_inc i) (by decide) rfl ?_
            refine g_goto S (tgt := 60) dX5_siloFor_109 (by decide) ?_
            refine g_drop 5 ?_
            exact ih (i + 1) (by omega) (by rw [← e1]; simp only [mFst, kSF2, c_91, c_100, Bool.and_true, Bool.true_and, Bool.and_false, Bool.false_and, Bool.and_self, if_true, if_false, reduceIte, Bool.false_eq_true]) e0
          · refine g_aload S dX5_siloFor_103 rfl ?_
            exact g_aret S hlk hr (Or.inl ⟨_, rfl⟩) (by first | exact Or.inr ⟨_, rfl⟩ | exact Or.inl rfl) (fun H h => ⟨by unfold kSiloFor; rw [e0, ← e1]; simp only [mFst, kSF2, c_91, c_100, Bool.and_true, Bool.true_and, Bool.and_false, Bool.false_and, Bool.and_self, if_true, if_false, reduceIte, Bool.false_eq_true]; rfl, h⟩) (Nat.le_refl _) (Nat.le_refl _) dX5_siloFor_105
  have L1 : ∀ (kk i : Nat) , i + kk = cL a 0 → mFst (kSF1 a g q x) i kk = mFst (kSF1 a g q x) 0 (cL a 0) → gW p l e (headSpec wsX5_siloFor rmX5_siloFor).room s m args below meth c A (gR below A args s 0 0 (gRet (some (va_rf ((kSiloFor a g q x).map (el 4)))) (hC D ty A tE el a))) 6 (hC D ty A tE el a) 0 0 3 [some (.ref (el 6 0)), some (.int g), some (.int q), some (.int x), some (.int (nI i)), none] [] := by
    intro kk
    induction kk with
    | zero =>
      intro i  ei e1
      refine g_iload S dX5_siloFor_3 rfl ?_
      refine g_aload_n S dX5_siloFor_5 rfl ?_
      refine k6_get S hK (by exact h6) 0 (by decide) (S.2.2.2.2 _ (List.mem_of_getElem? (i := 1) rfl)) rfl dX5_siloFor_6 ?_
      refine g_cVr S (k_size l D ty A tE el a hj) (cwV 0 S.2.2.2.2 gX5_siloFor_Jx4a65c_size_8abf5 rfl rfl rfl (by decide +kernel) ⟨Nat.le_of_ble_eq_true rfl, Nat.le_of_ble_eq_true rfl⟩) hK hE (fun H h => h) (k0_recv hK hj) rfl (Nat.le_of_ble_eq_true rfl) dX5_siloFor_9 ⟨Nat.le_of_ble_eq_true rfl, Nat.le_of_ble_eq_true rfl⟩ ?_
      refine g_icmp_ge S (tgt := 57) dX5_siloFor_12 (by decide) (fun c_12 => ?_) (fun c_12 => ?_)
      · refine g_iconst S (v := 0) dX5_siloFor_57 (by decide) ?_
        refine g_istore S dX5_siloFor_58 (by decide) rfl ?_
        exact L2 (cL a 0) 0 (Nat.zero_add _) rfl (by rw [← e1]; rfl)
      · exact absurd (lp_exit (nr := cL a 0) rfl (by omega) (by omega)) c_12
    | succ kk ih =>
      intro i  ei e1
      have hq : i < cL a 0 := by omega
      have h4 : cOb a 4 i := Or.inl ⟨by decide, by have := hwf.2.2.1; omega⟩
      refine g_iload S dX5_siloFor_3 rfl ?_
      refine g_aload_n S dX5_siloFor_5 rfl ?_
      refine k6_get S hK (by exact h6) 0 (by decide) (S.2.2.2.2 _ (List.mem_of_getElem? (i := 1) rfl)) rfl dX5_siloFor_6 ?_
      refine g_cVr S (k_size l D ty A tE el a hj) (cwV 0 S.2.2.2.2 gX5_siloFor_Jx4a65c_size_8abf5 rfl rfl rfl (by decide +kernel) ⟨Nat.le_of_ble_eq_true rfl, Nat.le_of_ble_eq_true rfl⟩) hK hE (fun H h => h) (k0_recv hK hj) rfl (Nat.le_of_ble_eq_true rfl) dX5_siloFor_9 ⟨Nat.le_of_ble_eq_true rfl, Nat.le_of_ble_eq_true rfl⟩ ?_
      refine g_icmp_ge S (tgt := 57) dX5_siloFor_12 (by decide) (fun c_12 => ?_) (fun c_12 => ?_)
      · exact absurd c_12 (lp_stay (nr := cL a 0) rfl (by omega) (by omega))
      · refine g_aload_n S dX5_siloFor_15 rfl ?_
        refine k6_get S hK (by exact h6) 0 (by decide) (S.2.2.2.2 _ (List.mem_of_getElem? (i := 1) rfl)) rfl dX5_siloFor_16 ?_
        refine g_iload S dX5_siloFor_19 rfl ?_
        refine g_cVr S (k_get l D ty A tE el a hj hq hb) (cwV 1 S.2.2.2.2 gX5_siloFor_Jx4a65c_get_915e3 rfl rfl rfl (by decide +kernel) ⟨Nat.le_of_ble_eq_true rfl, Nat.le_of_ble_eq_true rfl⟩) hK hE (fun H h => h) (k0_recv hK hj) rfl (Nat.le_of_ble_eq_true rfl) dX5_siloFor_21 ⟨Nat.le_of_ble_eq_true rfl, Nat.le_of_ble_eq_true rfl⟩ ?_
        refine g_cast S hK (q := (RX3, TX3, 6)) (S.2.2.2.2 _ (List.mem_of_getElem? (i := 2) rfl)) (ci := 4) rfl (k4_recv hK h4) dX5_siloFor_24 ?_
        refine g_astore S dX5_siloFor_27 (by decide) rfl ?_
        refine g_aload S dX5_siloFor_29 rfl ?_
        refine g_iload_n S dX5_siloFor_31 rfl ?_
        refine g_iload_n S dX5_siloFor_32 rfl ?_
        refine g_cVr S (k_isOf l D ty A tE el a h4 _ _) (cwV 2 S.2.2.2.2 gX5_siloFor_X3_isOf rfl rfl rfl (by decide +kernel) ⟨Nat.le_of_ble_eq_true rfl, Nat.le_of_ble_eq_true rfl⟩) hK hE (fun H h => h) (k4_recv hK (by exact h4)) rfl (Nat.le_of_ble_eq_true rfl) dX5_siloFor_33 ⟨Nat.le_of_ble_eq_true rfl, Nat.le_of_ble_eq_true rfl⟩ ?_
        refine g_ifb_eq S (tgt := 51) dX5_siloFor_36 (by decide) (fun c_36 => ?_) (fun c_36 => ?_)
        · refine g_iinc S (v := nI (i + 1)) dX5_siloFor_51 rfl (nI_inc i) (by decide) rfl ?_
          refine g_goto S (tgt := 3) dX5_siloFor_54 (by decide) ?_
          refine g_drop 5 ?_
          exact ih (i + 1) (by omega) (by rw [← e1]; simp only [mFst, kSF1, c_36, Bool.and_true, Bool.true_and, Bool.and_false, Bool.false_and, Bool.and_self, if_true, if_false, reduceIte, Bool.false_eq_true])
        · refine g_aload S dX5_siloFor_39 rfl ?_
          refine g_iload_n S dX5_siloFor_41 rfl ?_
          refine g_cVr S (k_hasRoomFor l D ty A tE el a h4 _) (cwV 1 S.2.2.2.2 gX5_siloFor_X3_hasRoomFor rfl rfl rfl (by decide +kernel) ⟨Nat.le_of_ble_eq_true rfl, Nat.le_of_ble_eq_true rfl⟩) hK hE (fun H h => h) (k4_recv hK (by exact h4)) rfl (Nat.le_of_ble_eq_true rfl) dX5_siloFor_42 ⟨Nat.le_of_ble_eq_true rfl, Nat.le_of_ble_eq_true rfl⟩ ?_
          refine g_ifb_eq S (tgt := 51) dX5_siloFor_45 (by decide) (fun c_45 => ?_) (fun c_45 => ?_)
          · refine g_iinc S (v := nI (i + 1)) dX5_siloFor_51 rfl (nI_inc i) (by decide) rfl ?_
            refine g_goto S (tgt := 3) dX5_siloFor_54 (by decide) ?_
            refine g_drop 5 ?_
            exact ih (i + 1) (by omega) (by rw [← e1]; simp only [mFst, kSF1, c_36, c_45, Bool.and_true, Bool.true_and, Bool.and_false, Bool.false_and, Bool.and_self, if_true, if_false, reduceIte, Bool.false_eq_true])
          · refine g_aload S dX5_siloFor_48 rfl ?_
            exact g_aret S hlk hr (Or.inl ⟨_, rfl⟩) (by first | exact Or.inr ⟨_, rfl⟩ | exact Or.inl rfl) (fun H h => ⟨by unfold kSiloFor; rw [← e1]; simp only [mFst, kSF1, c_36, c_45, Bool.and_true, Bool.true_and, Bool.and_false, Bool.false_and, Bool.and_self, if_true, if_false, reduceIte, Bool.false_eq_true]; rfl, h⟩) (Nat.le_refl _) (Nat.le_refl _) dX5_siloFor_50
  refine g_iconst S (v := 0) dX5_siloFor_0 (by decide) ?_
  refine g_istore S dX5_siloFor_1 (by decide) rfl ?_
  exact L1 (cL a 0) 0 (Nat.zero_add _) rfl

