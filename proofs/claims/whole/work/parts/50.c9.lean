theorem hC_inj {D : va_G} {ty : Nat → ClassId} {A : Nat → Prop} {tE : Nat} {el : Nat → Nat → Nat} {a : CS} {H : Heap} (h : hC D ty A tE el a H) {j i i' : Nat} (hi : cOb a j i) (hi' : cOb a j i') : el j i = el j i' ↔ i = i' := by
  obtain ⟨md, cp, ea, g1, g2, g3⟩ := h
  have h10 : j ≠ 10 := by have := hi.j; omega
  refine ⟨fun z => (g2 j i j i' hi.own hi'.own (by rw [cadr_ne h10, cadr_ne h10]; exact z)).2, fun z => by rw [z]⟩
def kD (a : CS) (r : Nat) : Nat := (cR a 3 1 r).getD 0
def kS (a : CS) (d : Nat) : Nat := (cR a 2 4 d).getD 0
def kT (a : CS) (r : Nat) : Nat := (cR a 3 2 r).getD 0
def cWf (a : CS) : Prop := (∀ r, r < cN a 3 → cR a 3 1 r = some (kD a r) ∧ kD a r < cN a 2 ∧ cR a 3 2 r = some (kT a r) ∧ kT a r < cN a 5) ∧ (∀ d, d < cN a 2 → cR a 2 4 d = some (kS a d) ∧ kS a d < cN a 4) ∧ (cL a 0 ≤ cN a 4 ∧ cL a 1 ≤ cN a 2 ∧ cL a 2 ≤ cN a 3 ∧ cL a 3 ≤ cN a 1)
def kLiveIn (a : CS) (s i : Nat) : Bool := decide (0 < cI a 3 3 i) && decide (kS a (kD a i) = s)
def kLiveOf (a : CS) (w g q : Int32) (i : Nat) : Bool := decide (0 < cI a 3 3 i) && (decide (cI a 5 2 (kT a i) = w) && kIsOf a (kS a (kD a i)) g q)
def kContentAnew (a : CS) (s : Nat) : Int32 := mLastF (fun i acc => if kLiveIn a s i = true then acc + cI a 3 3 i else acc) 0 (cL a 2) 0
def kHolds (a : CS) (w g q : Int32) : Int32 := mLastF (fun i acc => if kLiveOf a w g q i = true then acc + cI a 3 3 i else acc) 0 (cL a 2) 0
def kSF1 (a : CS) (g q x : Int32) (s : Nat) : Bool := kIsOf a s g q && decide (x ≤ cI a 4 1 s - cI a 4 4 s)
def kSF2 (a : CS) (x : Int32) (s : Nat) : Bool := decide (cI a 4 4 s ≤ 0) && decide (x ≤ cI a 4 1 s - cI a 4 4 s)
def kSiloFor (a : CS) (g q x : Int32) : Option Nat := match mFst (kSF1 a g q x) 0 (cL a 0) with
  | some s => some s
  | none => mFst (kSF2 a x) 0 (cL a 0)
abbrev rmX5_contentAnew : Room := { frames := 4, cells := 0, slots := 0, locals := 85 }
set_option maxHeartbeats 1500000 in
set_option maxRecDepth 100000 in
theorem k_contentAnew (l : Launch) (D : va_G) (ty : Nat → ClassId) (A : Nat → Prop) (tE : Nat) (el : Nat → Nat → Nat) (a : CS) (h6 : cOb a 6 0) (hwf : cWf a) (hb : cL a 2 < 2 ^ 31) (hb0 : cL a 0 < 2 ^ 31) {s9 : Nat} (hq0 : s9 < cL a 0) (hs4 : cOb a 4 s9) : Met l yX5_contentAnew wsX5_contentAnew rmX5_contentAnew (gPc D ty true cstrs tE A [.ref (el 6 0), .int (nI s9)] (hC D ty A tE el a)) (gQ A (gRet (some (.int (kContentAnew a s9))) (hC D ty A tE el a))) 0 0 A := by
  refine g_Met (cc := cX5_contentAnew) (maxL := 6) (ret := (some .int)) [some (.ref (el 6 0)), some (.int (nI s9)), none, none, none, none] (by decide) rfl (Nat.le_of_ble_eq_true rfl) rfl ?_
  intro p e s m args below meth c S hlk hr hnm hK hE hP0
  have S : CallFix p m c cX5_contentAnew 6 s args wsX5_contentAnew RX5 := S
  have hj : 2 < 4 := by decide
  have L : ∀ (kk i : Nat) (acc : Int32), i + kk = cL a 2 → mLastF (fun i acc => if kLiveIn a s9 i = true then acc + cI a 3 3 i else acc) i kk acc = mLastF (fun i acc => if kLiveIn a s9 i = true then acc + cI a 3 3 i else acc) 0 (cL a 2) 0 → gW p l e (headSpec wsX5_contentAnew rmX5_contentAnew).room s m args below meth c A (gR below A args s 0 0 (gRet (some (.int (kContentAnew a s9))) (hC D ty A tE el a))) 6 (hC D ty A tE el a) 0 0 11 [some (.ref (el 6 0)), some (.int (nI s9)), some (.ref (el 4 s9)), some (.int acc), some (.int (nI i)), none] [] := by
    intro kk
    induction kk with
    | zero =>
      intro i acc ei e1
      refine g_iload S dX5_contentAnew_11 rfl ?_
      refine g_aload_n S dX5_contentAnew_13 rfl ?_
      refine k6_get S hK (by exact h6) 2 (by decide) (S.2.2.2.2 _ (List.mem_of_getElem? (i := 1) rfl)) rfl dX5_contentAnew_14 ?_
      refine g_cVr S (k_size l D ty A tE el a hj) (cwV 0 S.2.2.2.2 gX5_contentAnew_Jx4a65c_size_8abf5 rfl rfl rfl (by decide +kernel) ⟨Nat.le_of_ble_eq_true rfl, Nat.le_of_ble_eq_true rfl⟩) hK hE (fun H h => h) (k0_recv hK hj) rfl (Nat.le_of_ble_eq_true rfl) dX5_contentAnew_17 ⟨Nat.le_of_ble_eq_true rfl, Nat.le_of_ble_eq_true rfl⟩ ?_
      refine g_icmp_ge S (tgt := 60) dX5_contentAnew_20 (by decide) (fun c_20 => ?_) (fun c_20 => ?_)
      · refine g_iload_n S dX5_contentAnew_60 rfl ?_
        exact g_iret S hlk hr (fun H h => ⟨by rw [show kContentAnew a s9 = mLastF (fun i acc => if kLiveIn a s9 i = true then acc + cI a 3 3 i else acc) 0 (cL a 2) 0 from rfl, ← e1]; rfl, h⟩) (Nat.le_refl _) (Nat.le_refl _) dX5_contentAnew_61
      · exact absurd (lp_exit (nr := cL a 2) rfl (by omega) (by omega)) c_20
    | succ kk ih =>
      intro i acc ei e1
      have hq : i < cL a 2 := by omega
      have hr9 := hwf.1 i (by have := hwf.2.2.2.2.1; omega)
      have h3 : cOb a 3 i := Or.inl ⟨by decide, by have := hwf.2.2.2.2.1; omega⟩
      have hd := hr9.1
      have h2 : cOb a 2 (kD a i) := Or.inl ⟨by decide, hr9.2.1⟩
      have ht := hr9.2.2.1
      have h5 : cOb a 5 (kT a i) := Or.inl ⟨by decide, hr9.2.2.2⟩
      have hs9 := hwf.2.1 _ hr9.2.1
      have hs := hs9.1
      have h4 : cOb a 4 (kS a (kD a i)) := Or.inl ⟨by decide, hs9.2⟩
      refine g_iload S dX5_contentAnew_11 rfl ?_
      refine g_aload_n S dX5_contentAnew_13 rfl ?_
      refine k6_get S hK (by exact h6) 2 (by decide) (S.2.2.2.2 _ (List.mem_of_getElem? (i := 1) rfl)) rfl dX5_contentAnew_14 ?_
      refine g_cVr S (k_size l D ty A tE el a hj) (cwV 0 S.2.2.2.2 gX5_contentAnew_Jx4a65c_size_8abf5 rfl rfl rfl (by decide +kernel) ⟨Nat.le_of_ble_eq_true rfl, Nat.le_of_ble_eq_true rfl⟩) hK hE (fun H h => h) (k0_recv hK hj) rfl (Nat.le_of_ble_eq_true rfl) dX5_contentAnew_17 ⟨Nat.le_of_ble_eq_true rfl, Nat.le_of_ble_eq_true rfl⟩ ?_
      refine g_icmp_ge S (tgt := 60) dX5_contentAnew_20 (by decide) (fun c_20 => ?_) (fun c_20 => ?_)
      · exact absurd c_20 (lp_stay (nr := cL a 2) rfl (by omega) (by omega))
      · refine g_aload_n S dX5_contentAnew_23 rfl ?_
        refine k6_get S hK (by exact h6) 2 (by decide) (S.2.2.2.2 _ (List.mem_of_getElem? (i := 1) rfl)) rfl dX5_contentAnew_24 ?_
        refine g_iload S dX5_contentAnew_27 rfl ?_
        refine g_cVr S (k_get l D ty A tE el a hj hq hb) (cwV 1 S.2.2.2.2 gX5_contentAnew_Jx4a65c_get_915e3 rfl rfl rfl (by decide +kernel) ⟨Nat.le_of_ble_eq_true rfl, Nat.le_of_ble_eq_true rfl⟩) hK hE (fun H h => h) (k0_recv hK hj) rfl (Nat.le_of_ble_eq_true rfl) dX5_contentAnew_29 ⟨Nat.le_of_ble_eq_true rfl, Nat.le_of_ble_eq_true rfl⟩ ?_
        refine g_cast S hK (q := (RX2, TX2, 9)) (S.2.2.2.2 _ (List.mem_of_getElem? (i := 2) rfl)) (ci := 3) rfl (k3_recv hK h3) dX5_contentAnew_32 ?_
        refine g_astore S dX5_contentAnew_35 (by decide) rfl ?_
        refine g_aload S dX5_contentAnew_37 rfl ?_
        refine g_aload_n S dX5_contentAnew_39 rfl ?_
        refine g_cVr S (k_isLiveIn l D ty A tE el a h3 hd h2 hs h4 (j := s9) hs4 (hC_inj hP0 h4 hs4)) (cwV 1 S.2.2.2.2 gX5_contentAnew_X2_isLiveIn rfl rfl rfl (by decide +kernel) ⟨Nat.le_of_ble_eq_true rfl, Nat.le_of_ble_eq_true rfl⟩) hK hE (fun H h => h) (k3_recv hK (by exact h3)) rfl (Nat.le_of_ble_eq_true rfl) dX5_contentAnew_40 ⟨Nat.le_of_ble_eq_true rfl, Nat.le_of_ble_eq_true rfl⟩ ?_
        refine g_ifb_eq S (tgt := 54) dX5_contentAnew_43 (by decide) (fun c_43 => ?_) (fun c_43 => ?_)
        · refine g_iinc S (v := nI (i + 1)) dX5_contentAnew_54 rfl (nI_inc i) (by decide) rfl ?_
          refine g_goto S (tgt := 11) dX5_contentAnew_57 (by decide) ?_
          refine g_drop 5 ?_
          exact ih (i + 1) _ (by omega) (by rw [← e1]; show _ = mLastF (fun i acc => if kLiveIn a s9 i = true then acc + cI a 3 3 i else acc) (i + 1) kk ((fun i acc => if kLiveIn a s9 i = true then acc + cI a 3 3 i else acc) i acc); rw [show (fun i acc => if kLiveIn a s9 i = true then acc + cI a 3 3 i else acc) i acc = _ from if_neg (fun z => absurd (Eq.trans (Eq.symm c_43) z) (by decide))])
        · refine g_iload_n S dX5_contentAnew_46 rfl ?_
          refine g_aload S dX5_contentAnew_47 rfl ?_
          refine k3_get S hK (by exact h3) 3 (by decide) (S.2.2.2.2 _ (List.mem_of_getElem? (i := 3) rfl)) rfl dX5_contentAnew_49 ?_
          refine g_iadd S dX5_contentAnew_52 ?_
          refine g_istore_n S dX5_contentAnew_53 (by decide) rfl ?_
          refine g_iinc S (v := nI (i + 1)) dX5_contentAnew_54 rfl (nI_inc i) (by decide) rfl ?_
          refine g_goto S (tgt := 11) dX5_contentAnew_57 (by decide) ?_
          refine g_drop 5 ?_
          exact ih (i + 1) _ (by omega) (by rw [← e1]; show _ = mLastF (fun i acc => if kLiveIn a s9 i = true then acc + cI a 3 3 i else acc) (i + 1) kk ((fun i acc => if kLiveIn a s9 i = true then acc + cI a 3 3 i else acc) i acc); rw [show (fun i acc => if kLiveIn a s9 i = true then acc + cI a 3 3 i else acc) i acc = _ from if_pos c_43])
  refine g_aload_n S dX5_contentAnew_0 rfl ?_
  refine g_iload_n S dX5_contentAnew_1 rfl ?_
  refine g_cVr S (k_findSilo l D ty A tE el a h6 hb0 hq0 hs4) (cwV 1 S.2.2.2.2 gX5_contentAnew_X5_findSilo rfl rfl rfl (by decide +kernel) ⟨Nat.le_of_ble_eq_true rfl, Nat.le_of_ble_eq_true rfl⟩) hK hE (fun H h => h) (k6_recv hK h6) rfl (Nat.le_of_ble_eq_true rfl) dX5_contentAnew_2 ⟨Nat.le_of_ble_eq_true rfl, Nat.le_of_ble_eq_true rfl⟩ ?_
  refine g_astore_n S dX5_contentAnew_5 (by decide) rfl ?_
  refine g_iconst S (v := 0) dX5_contentAnew_6 (by decide) ?_
  refine g_istore_n S dX5_contentAnew_7 (by decide) rfl ?_
  refine g_iconst S (v := 0) dX5_contentAnew_8 (by decide) ?_
  refine g_istore S dX5_contentAnew_9 (by decide) rfl ?_
  exact L (cL a 2) 0 0 (Nat.zero_add _) rfl

abbrev rmX5_holds : Room := { frames := 3, cells := 0, slots := 0, locals := 64 }
set_option maxHeartbeats 1500000 in
set_option maxRecDepth 100000 in
theorem k_holds (l : Launch) (D : va_G) (ty : Nat → ClassId) (A : Nat → Prop) (tE : Nat) (el : Nat → Nat → Nat) (a : CS) (h6 : cOb a 6 0) (hwf : cWf a) (hb : cL a 2 < 2 ^ 31) (w g q : Int32) (hv : vp_in w 6) (hv1 : mIn g 0 2 = true) (hv2 : mIn q 0 2 = true) : Met l yX5_holds wsX5_holds rmX5_holds (gPc D ty true cstrs tE A [.ref (el 6 0), .int w, .int g, .int q] (hC D ty A tE el a)) (gQ A (gRet (some (.int (kHolds a w g q))) (hC D ty A tE el a))) 0 0 A := by
  refine g_Met (cc := cX5_holds) (maxL := 7) (ret := (some .int)) [some (.ref (el 6 0)), some (.int w), some (.int g), some (.int q), none, none, none] (by decide) rfl (Nat.le_of_ble_eq_true rfl) rfl ?_
  intro p e s m args below meth c S hlk hr hnm hK hE hP0
  have S : CallFix p m c cX5_holds 7 s args wsX5_holds RX5 := S
  have hj : 2 < 4 := by decide
  have L : ∀ (kk i : Nat) (acc : Int32), i + kk = cL a 2 → mLastF (fun i acc => if kLiveOf a w g q i = true then acc + cI a 3 3 i else acc) i kk acc = mLastF (fun i acc => if kLiveOf a w g q i = true then acc + cI a 3 3 i else acc) 0 (cL a 2) 0 → gW p l e (headSpec wsX5_holds rmX5_holds).room s m args below meth c A (gR below A args s 0 0 (gRet (some (.int (kHolds a w g q))) (hC D ty A tE el a))) 7 (hC D ty A tE el a) 0 0 39 [some (.ref (el 6 0)), some (.int w), some (.int g), some (.int q), some (.int acc), some (.int (nI i)), none] [] := by
    intro kk
    induction kk with
    | zero =>
      intro i acc ei e1
      refine g_iload S dX5_holds_39 rfl ?_
      refine g_aload_n S dX5_holds_41 rfl ?_
      refine k6_get S hK (by exact h6) 2 (by decide) (S.2.2.2.2 _ (List.mem_of_getElem? (i := 3) rfl)) rfl dX5_holds_42 ?_
      refine g_cVr S (k_size l D ty A tE el a hj) (cwV 0 S.2.2.2.2 gX5_holds_Jx4a65c_size_8abf5 rfl rfl rfl (by decide +kernel) ⟨Nat.le_of_ble_eq_true rfl, Nat.le_of_ble_eq_true rfl⟩) hK hE (fun H h => h) (k0_recv hK hj) rfl (Nat.le_of_ble_eq_true rfl) dX5_holds_45 ⟨Nat.le_of_ble_eq_true rfl, Nat.le_of_ble_eq_true rfl⟩ ?_
      refine g_icmp_ge S (tgt := 92) dX5_holds_48 (by decide) (fun c_48 => ?_) (fun c_48 => ?_)
      · refine g_iload S dX5_holds_92 rfl ?_
        exact g_iret S hlk hr (fun H h => ⟨by rw [show kHolds a w g q = mLastF (fun i acc => if kLiveOf a w g q i = true then acc + cI a 3 3 i else acc) 0 (cL a 2) 0 from rfl, ← e1]; rfl, h⟩) (Nat.le_refl _) (Nat.le_refl _) dX5_holds_94
      · exact absurd (lp_exit (nr := cL a 2) rfl (by omega) (by omega)) c_48
    | succ kk ih =>
      intro i acc ei e1
      have hq : i < cL a 2 := by omega
      have hr9 := hwf.1 i (by have := hwf.2.2.2.2.1; omega)
      have h3 : cOb a 3 i := Or.inl ⟨by decide, by have := hwf.2.2.2.2.1; omega⟩
      have hd := hr9.1
      have h2 : cOb a 2 (kD a i) := Or.inl ⟨by decide, hr9.2.1⟩
      have ht := hr9.2.2.1
      have h5 : cOb a 5 (kT a i) := Or.inl ⟨by decide, hr9.2.2.2⟩
      have hs9 := hwf.2.1 _ hr9.2.1
      have hs := hs9.1
      have h4 : cOb a 4 (kS a (kD a i)) := Or.inl ⟨by decide, hs9.2⟩
      refine g_iload S dX5_holds_39 rfl ?_
      refine g_aload_n S dX5_holds_41 rfl ?_
      refine k6_get S hK (by exact h6) 2 (by decide) (S.2.2.2.2 _ (List.mem_of_getElem? (i := 3) rfl)) rfl dX5_holds_42 ?_
      refine g_cVr S (k_size l D ty A tE el a hj) (cwV 0 S.2.2.2.2 gX5_holds_Jx4a65c_size_8abf5 rfl rfl rfl (by decide +kernel) ⟨Nat.le_of_ble_eq_true rfl, Nat.le_of_ble_eq_true rfl⟩) hK hE (fun H h => h) (k0_recv hK hj) rfl (Nat.le_of_ble_eq_true rfl) dX5_holds_45 ⟨Nat.le_of_ble_eq_true rfl, Nat.le_of_ble_eq_true rfl⟩ ?_
      refine g_icmp_ge S (tgt := 92) dX5_holds_48 (by decide) (fun c_48 => ?_) (fun c_48 => ?_)
      · exact absurd c_48 (lp_stay (nr := cL a 2) rfl (by omega) (by omega))
      · refine g_aload_n S dX5_holds_51 rfl ?_
        refine k6_get S hK (by exact h6) 2 (by decide) (S.2.2.2.2 _ (List.mem_of_getElem? (i := 3) rfl)) rfl dX5_holds_52 ?_
        refine g_iload S dX5_holds_55 rfl ?_
        refine g_cVr S (k_get l D ty A tE el a hj hq hb) (cwV 1 S.2.2.2.2 gX5_holds_Jx4a65c_get_915e3 rfl rfl rfl (by decide +kernel) ⟨Nat.le_of_ble_eq_true rfl, Nat.le_of_ble_eq_true rfl⟩) hK hE (fun H h => h) (k0_recv hK hj) rfl (Nat.le_of_ble_eq_true rfl) dX5_holds_57 ⟨Nat.le_of_ble_eq_true rfl, Nat.le_of_ble_eq_true rfl⟩ ?_
        refine g_cast S hK (q := (RX2, TX2, 9)) (S.2.2.2.2 _ (List.mem_of_getElem? (i := 4) rfl)) (ci := 3) rfl (k3_recv hK h3) dX5_holds_60 ?_
        refine g_astore S dX5_holds_63 (by decide) rfl ?_
        refine g_aload S dX5_holds_65 rfl ?_
        refine g_iload_n S dX5_holds_67 rfl ?_
        refine g_iload_n S dX5_holds_68 rfl ?_
        refine g_iload_n S dX5_holds_69 rfl ?_
        refine g_cVr S (k_isLiveOf l D ty A tE el a h3 ht h5 hd h2 hs h4 _ _ _) (cwV 3 S.2.2.2.2 gX5_holds_X2_isLiveOf rfl rfl rfl (by decide +kernel) ⟨Nat.le_of_ble_eq_true rfl, Nat.le_of_ble_eq_true rfl⟩) hK hE (fun H h => h) (k3_recv hK (by exact h3)) rfl (Nat.le_of_ble_eq_true rfl) dX5_holds_70 ⟨Nat.le_of_ble_eq_true rfl, Nat.le_of_ble_eq_true rfl⟩ ?_
        refine g_ifb_eq S (tgt := 86) dX5_holds_73 (by decide) (fun c_73 => ?_) (fun c_73 => ?_)
        · refine g_iinc S (v := nI (i + 1)) dX5_holds_86 rfl (nI_inc i) (by decide) rfl ?_
          refine g_goto S (tgt := 39) dX5_holds_89 (by decide) ?_
          refine g_drop 6 ?_
          exact ih (i + 1) _ (by omega) (by rw [← e1]; show _ = mLastF (fun i acc => if kLiveOf a w g q i = true then acc + cI a 3 3 i else acc) (i + 1) kk ((fun i acc => if kLiveOf a w g q i = true then acc + cI a 3 3 i else acc) i acc); rw [show (fun i acc => if kLiveOf a w g q i = true then acc + cI a 3 3 i else acc) i acc = _ from if_neg (fun z => absurd (Eq.trans (Eq.symm c_73) z) (by decide))])
        · refine g_iload S dX5_holds_76 rfl ?_
          refine g_aload S dX5_holds_78 rfl ?_
          refine k3_get S hK (by exact h3) 3 (by decide) (S.2.2.2.2 _ (List.mem_of_getElem? (i := 5) rfl)) rfl dX5_holds_80 ?_
          refine g_iadd S dX5_holds_83 ?_
          refine g_istore S dX5_holds_84 (by decide) rfl ?_
          refine g_iinc S (v := nI (i + 1)) dX5_holds_86 rfl (nI_inc i) (by decide) rfl ?_
          refine g_goto S (tgt := 39) dX5_holds_89 (by decide) ?_
          refine g_drop 6 ?_
          exact ih (i + 1) _ (by omega) (by rw [← e1]; show _ = mLastF (fun i acc => if kLiveOf a w g q i = true then acc + cI a 3 3 i else acc) (i + 1) kk ((fun i acc => if kLiveOf a w g q i = true then acc + cI a 3 3 i else acc) i acc); rw [show (fun i acc => if kLiveOf a w g q i = true then acc + cI a 3 3 i else acc) i acc = _ from if_pos c_73])
  refine g_iload_n S dX5_holds_0 rfl ?_
  refine g_if_lt S (tgt := 10) dX5_holds_1 (by decide) (fun c_1 => ?_) (fun c_1 => ?_)
  · exact absurd c_1 (vin_nlt hv)
  · refine g_iload_n S dX5_holds_4 rfl ?_
    refine g_bipush S (v := 6) dX5_holds_5 (by decide) ?_
    refine g_icmp_lt S (tgt := 21) dX5_holds_7 (by decide) (fun c_7 => ?_) (fun c_7 => ?_)
    · refine g_iload_n S dX5_holds_21 rfl ?_
      refine g_iconst S (v := 0) dX5_holds_22 (by decide) ?_
      refine g_iconst S (v := 2) dX5_holds_23 (by decide) ?_
      refine g_cSv S (k_needRange l D ty A tE el a _ _ _ _ (by exact hv1)) (va_cwS 3 S.2.2.2.2 gX5_holds_X5_needRange rfl rfl rfl (by decide +kernel) ⟨Nat.le_of_ble_eq_true rfl, Nat.le_of_ble_eq_true rfl⟩) hK hE (fun H h => h) rfl (Nat.le_of_ble_eq_true rfl) dX5_holds_24 ⟨Nat.le_of_ble_eq_true rfl, Nat.le_of_ble_eq_true rfl⟩ ?_
      refine g_iload_n S dX5_holds_27 rfl ?_
      refine g_iconst S (v := 0) dX5_holds_28 (by decide) ?_
      refine g_iconst S (v := 2) dX5_holds_29 (by decide) ?_
      refine g_cSv S (k_needRange l D ty A tE el a _ _ _ _ (by exact hv2)) (va_cwS 3 S.2.2.2.2 gX5_holds_X5_needRange rfl rfl rfl (by decide +kernel) ⟨Nat.le_of_ble_eq_true rfl, Nat.le_of_ble_eq_true rfl⟩) hK hE (fun H h => h) rfl (Nat.le_of_ble_eq_true rfl) dX5_holds_30 ⟨Nat.le_of_ble_eq_true rfl, Nat.le_of_ble_eq_true rfl⟩ ?_
      refine g_iconst S (v := 0) dX5_holds_33 (by decide) ?_
      refine g_istore S dX5_holds_34 (by decide) rfl ?_
      refine g_iconst S (v := 0) dX5_holds_36 (by decide) ?_
      refine g_istore S dX5_holds_37 (by decide) rfl ?_
      exact L (cL a 2) 0 0 (Nat.zero_add _) rfl
    · exact absurd (Int32.not_lt.mp c_7) (vin_nle hv (by decide))

