/-! takeBack -/
def kTB1 (d : Nat) : Nat → Nat → CS → Int32 → CS × Int32
  | _, 0, a, left => (a, left)
  | i, k + 1, a, left => if left ≤ 0 then (a, left) else if kD a i = d then kTB1 d (i + 1) k (kTb a i (cI a 2 1 d) left) (left - kMin (cI a 3 3 i) left) else kTB1 d (i + 1) k a left
def kTB2 (d : Nat) : Nat → Nat → CS → Int32 → CS × Int32
  | _, 0, a, left => (a, left)
  | i, k + 1, a, left => if left ≤ 0 then (a, left) else if kS a (kD a i) = kS a d then (if cI a 5 2 (kT a i) = cI a 2 1 d then kTB2 d (i + 1) k (kTb a i (cI a 2 1 d) left) (left - kMin (cI a 3 3 i) left) else kTB2 d (i + 1) k a left) else kTB2 d (i + 1) k a left
def kTakeBack (a : CS) (d : Nat) (x : Int32) : CS :=
  let t := kTB1 d 0 (cL a 2) a x
  let u := kTB2 d 0 (cL a 2) t.1 t.2
  kOweT u.1 (cI u.1 2 1 d) u.2
abbrev rmX5_takeBack : Room := { frames := 3, cells := 0, slots := 0, locals := 72 }
set_option maxHeartbeats 1500000 in
set_option maxRecDepth 100000 in
theorem k_takeBack (l : Launch) (D : va_G) (ty : Nat → ClassId) (A : Nat → Prop) (tE : Nat) (el : Nat → Nat → Nat) (a : CS) (h6 : cOb a 6 0) (ok : cOk a) (hb : cL a 2 < 2 ^ 31) {d9 : Nat} (hd0 : cOb a 2 d9) (x : Int32) : Met l yX5_takeBack wsX5_takeBack rmX5_takeBack (gPc D ty true cstrs tE A [.ref (el 6 0), .ref (el 2 d9), .int x] (hC D ty A tE el a)) (gQ A (gRet none (hC D ty A tE el (kTakeBack a d9 x)))) 0 0 A := by
  refine g_Met (cc := cX5_takeBack) (maxL := 6) (ret := none) [some (.ref (el 6 0)), some (.ref (el 2 d9)), some (.int x), none, none, none] (by decide) rfl (Nat.le_of_ble_eq_true rfl) rfl ?_
  intro p e s m args below meth c S hlk hr hnm hK hE hP0
  have S : CallFix p m c cX5_takeBack 6 s args wsX5_takeBack RX5 := S
  have hj : 2 < 4 := by decide
  have L2 : ∀ (kk i : Nat) (a9 : CS) (left : Int32), i + kk = cL a 2 → a9.1 = a.1 → a9.2.2.1 = a.2.2.1 → a9.2.2.2.2.2 = a.2.2.2.2.2 → kTB2 d9 i kk a9 left = (kTB2 d9 0 (cL a 2) (kTB1 d9 0 (cL a 2) a x).1 (kTB1 d9 0 (cL a 2) a x).2) → gW p l e (headSpec wsX5_takeBack rmX5_takeBack).room s m args below meth c A (gR below A args s 0 0 (gRet none (hC D ty A tE el (kTakeBack a d9 x)))) 6 (hC D ty A tE el a9) 0 0 67 [some (.ref (el 6 0)), some (.ref (el 2 d9)), some (.int x), some (.int left), some (.int (nI i)), none] [] := by
    intro kk
    induction kk with
    | zero =>
      intro i a9 left ei e0 e2 e3 e1
      have eL : cL a9 2 = cL a 2 := congrFun e3 2
      have eN : cN a9 3 = cN a 3 := congrFun e0 3
      have ok9 : cOk a9 := ok.of e0 e2 e3
      have hwf9 := ok9.1
      have hLN := ok.1.2.2.2.2.1
      have h69 : cOb a9 6 0 := cOb_of e0 h6
      have hd9 : cOb a9 2 d9 := cOb_of e0 hd0
      have hb9 : cL a9 2 < 2 ^ 31 := by rw [eL]; exact hb
      have hsd9 := (hwf9.2.1 d9 (by rcases hd9 with ⟨-, z⟩ | ⟨z, -⟩ <;> omega)).1
      have h4d : cOb a9 4 (kS a9 d9) := Or.inl ⟨by decide, (hwf9.2.1 d9 (by rcases hd9 with ⟨-, z⟩ | ⟨z, -⟩ <;> omega)).2⟩
      refine g_iload S dX5_takeBack_67 rfl ?_
      refine g_aload_n S dX5_takeBack_69 rfl ?_
      refine k6_get S hK (by exact h69) 2 (by decide) (S.2.2.2.2 _ (List.mem_of_getElem? (i := 1) rfl)) rfl dX5_takeBack_70 ?_
      refine g_cVr S (k_size l D ty A tE el a9 hj) (cwV 0 S.2.2.2.2 gX5_takeBack_Jx4a65c_size_8abf5 rfl rfl rfl (by decide +kernel) ⟨Nat.le_of_ble_eq_true rfl, Nat.le_of_ble_eq_true rfl⟩) hK hE (fun H h => h) (k0_recv hK hj) rfl (Nat.le_of_ble_eq_true rfl) dX5_takeBack_73 ⟨Nat.le_of_ble_eq_true rfl, Nat.le_of_ble_eq_true rfl⟩ ?_
      refine g_icmp_ge S (tgt := 144) dX5_takeBack_76 (by decide) (fun c_76 => ?_) (fun c_76 => ?_)
      · have eT : (a9, left) = (kTB2 d9 0 (cL a 2) (kTB1 d9 0 (cL a 2) a x).1 (kTB1 d9 0 (cL a 2) a x).2) := e1
        refine g_aload_n S dX5_takeBack_144 rfl ?_
        refine g_aload_n S dX5_takeBack_145 rfl ?_
        refine k2_get S hK (by exact hd9) 1 (by decide) (S.2.2.2.2 _ (List.mem_of_getElem? (i := 4) rfl)) rfl dX5_takeBack_146 ?_
        refine g_iload_n S dX5_takeBack_149 rfl ?_
        refine g_cVv S (k_oweT l D ty A tE el a9 h69 _ _) (cwV 2 S.2.2.2.2 gX5_takeBack_X5_owe rfl rfl rfl (by decide +kernel) ⟨Nat.le_of_ble_eq_true rfl, Nat.le_of_ble_eq_true rfl⟩) hK hE (fun H h => h) (k6_recv hK h69) rfl (Nat.le_of_ble_eq_true rfl) dX5_takeBack_150 ⟨Nat.le_of_ble_eq_true rfl, Nat.le_of_ble_eq_true rfl⟩ ?_
        exact g_vret S hlk hr (fun H h => ⟨rfl, by unfold kTakeBack; simp only; rw [← eT]; exact h⟩) (Nat.le_refl _) (Nat.le_refl _) dX5_takeBack_153
      · exact absurd (lp_exit (nr := cL a9 2) rfl (by omega) (by omega)) c_76
    | succ kk ih =>
      intro i a9 left ei e0 e2 e3 e1
      have eL : cL a9 2 = cL a 2 := congrFun e3 2
      have eN : cN a9 3 = cN a 3 := congrFun e0 3
      have ok9 : cOk a9 := ok.of e0 e2 e3
      have hwf9 := ok9.1
      have hLN := ok.1.2.2.2.2.1
      have h69 : cOb a9 6 0 := cOb_of e0 h6
      have hd9 : cOb a9 2 d9 := cOb_of e0 hd0
      have hb9 : cL a9 2 < 2 ^ 31 := by rw [eL]; exact hb
      have hsd9 := (hwf9.2.1 d9 (by rcases hd9 with ⟨-, z⟩ | ⟨z, -⟩ <;> omega)).1
      have h4d : cOb a9 4 (kS a9 d9) := Or.inl ⟨by decide, (hwf9.2.1 d9 (by rcases hd9 with ⟨-, z⟩ | ⟨z, -⟩ <;> omega)).2⟩
      have hq : i < cL a9 2 := by omega
      have hr3 : i < cN a9 3 := by omega
      have hr9 := hwf9.1 i hr3
      have h3 : cOb a9 3 i := Or.inl ⟨by decide, hr3⟩
      have hd := hr9.1
      have h2 : cOb a9 2 (kD a9 i) := Or.inl ⟨by decide, hr9.2.1⟩
      have ht := hr9.2.2.1
      have h5 : cOb a9 5 (kT a9 i) := Or.inl ⟨by decide, hr9.2.2.2⟩
      have hs9 := hwf9.2.1 _ hr9.2.1
      have hs := hs9.1
      have h4 : cOb a9 4 (kS a9 (kD a9 i)) := Or.inl ⟨by decide, hs9.2⟩
      have hi2 : el 2 (kD a9 i) = el 2 d9 ↔ kD a9 i = d9 := hC_inj hP0 (cOb_of e0.symm h2) hd0
      have hi4 : el 4 (kS a9 (kD a9 i)) = el 4 (kS a9 d9) ↔ kS a9 (kD a9 i) = kS a9 d9 := hC_inj hP0 (cOb_of e0.symm h4) (cOb_of e0.symm h4d)
      refine g_iload S dX5_takeBack_67 rfl ?_
      refine g_aload_n S dX5_takeBack_69 rfl ?_
      refine k6_get S hK (by exact h69) 2 (by decide) (S.2.2.2.2 _ (List.mem_of_getElem? (i := 1) rfl)) rfl dX5_takeBack_70 ?_
      refine g_cVr S (k_size l D ty A tE el a9 hj) (cwV 0 S.2.2.2.2 gX5_takeBack_Jx4a65c_size_8abf5 rfl rfl rfl (by decide +kernel) ⟨Nat.le_of_ble_eq_true rfl, Nat.le_of_ble_eq_true rfl⟩) hK hE (fun H h => h) (k0_recv hK hj) rfl (Nat.le_of_ble_eq_true rfl) dX5_takeBack_73 ⟨Nat.le_of_ble_eq_true rfl, Nat.le_of_ble_eq_true rfl⟩ ?_
      refine g_icmp_ge S (tgt := 144) dX5_takeBack_76 (by decide) (fun c_76 => ?_) (fun c_76 => ?_)
      · exact absurd c_76 (lp_stay (nr := cL a9 2) rfl (by omega) (by omega))
      · refine g_iload_n S dX5_takeBack_79 rfl ?_
        refine g_if_le S (tgt := 144) dX5_takeBack_80 (by decide) (fun c_80 => ?_) (fun c_80 => ?_)
        · have eT : (a9, left) = (kTB2 d9 0 (cL a 2) (kTB1 d9 0 (cL a 2) a x).1 (kTB1 d9 0 (cL a 2) a x).2) := by rw [← e1]; simp only [kTB2]; rw [if_pos c_80]
          refine g_aload_n S dX5_takeBack_144 rfl ?_
          refine g_aload_n S dX5_takeBack_145 rfl ?_
          refine k2_get S hK (by exact hd9) 1 (by decide) (S.2.2.2.2 _ (List.mem_of_getElem? (i := 4) rfl)) rfl dX5_takeBack_146 ?_
          refine g_iload_n S dX5_takeBack_149 rfl ?_
          refine g_cVv S (k_oweT l D ty A tE el a9 h69 _ _) (cwV 2 S.2.2.2.2 gX5_takeBack_X5_owe rfl rfl rfl (by decide +kernel) ⟨Nat.le_of_ble_eq_true rfl, Nat.le_of_ble_eq_true rfl⟩) hK hE (fun H h => h) (k6_recv hK h69) rfl (Nat.le_of_ble_eq_true rfl) dX5_takeBack_150 ⟨Nat.le_of_ble_eq_true rfl, Nat.le_of_ble_eq_true rfl⟩ ?_
          exact g_vret S hlk hr (fun H h => ⟨rfl, by unfold kTakeBack; simp only; rw [← eT]; exact h⟩) (Nat.le_refl _) (Nat.le_refl _) dX5_takeBack_153
        · refine g_aload_n S dX5_takeBack_83 rfl ?_
          refine k6_get S hK (by exact h69) 2 (by decide) (S.2.2.2.2 _ (List.mem_of_getElem? (i := 1) rfl)) rfl dX5_takeBack_84 ?_
          refine g_iload S dX5_takeBack_87 rfl ?_
          refine g_cVr S (k_get l D ty A tE el a9 hj hq hb9) (cwV 1 S.2.2.2.2 gX5_takeBack_Jx4a65c_get_915e3 rfl rfl rfl (by decide +kernel) ⟨Nat.le_of_ble_eq_true rfl, Nat.le_of_ble_eq_true rfl⟩) hK hE (fun H h => h) (k0_recv hK hj) rfl (Nat.le_of_ble_eq_true rfl) dX5_takeBack_89 ⟨Nat.le_of_ble_eq_true rfl, Nat.le_of_ble_eq_true rfl⟩ ?_
          refine g_cast S hK (q := (RX2, TX2, 9)) (S.2.2.2.2 _ (List.mem_of_getElem? (i := 2) rfl)) (ci := 3) rfl (k3_recv hK h3) dX5_takeBack_92 ?_
          refine g_astore S dX5_takeBack_95 (by decide) rfl ?_
          refine g_aload S dX5_takeBack_97 rfl ?_
          refine k3_getR S hK (by exact h3) 1 (by decide) (by exact hd) (S.2.2.2.2 _ (List.mem_of_getElem? (i := 3) rfl)) rfl dX5_takeBack_99 ?_
          refine k2_getR S hK (by exact h2) 4 (by decide) (by exact hs) (S.2.2.2.2 _ (List.mem_of_getElem? (i := 5) rfl)) rfl dX5_takeBack_102 ?_
          refine g_aload_n S dX5_takeBack_105 rfl ?_
          refine k2_getR S hK (by exact hd9) 4 (by decide) (by exact hsd9) (S.2.2.2.2 _ (List.mem_of_getElem? (i := 5) rfl)) rfl dX5_takeBack_106 ?_
          refine g_acmp_ne S (tgt := 138) dX5_takeBack_109 (by decide) (fun c_109 => ?_) (fun c_109 => ?_)
          · refine g_iinc S (v := nI (i + 1)) dX5_takeBack_138 rfl (nI_inc i) (by decide) rfl ?_
            refine g_goto S (tgt := 67) dX5_takeBack_141 (by decide) ?_
            refine g_drop 5 ?_
            exact ih (i + 1) a9 _ (by omega) e0 e2 e3 (by rw [← e1]; simp only [kTB2]; rw [if_neg c_80, if_neg (fun z => c_109 (hi4.mpr z))])
          · refine g_aload S dX5_takeBack_112 rfl ?_
            refine g_cVr S (k_holder l D ty A tE el a9 h3 ht h5) (cwV 0 S.2.2.2.2 gX5_takeBack_X2_holder rfl rfl rfl (by decide +kernel) ⟨Nat.le_of_ble_eq_true rfl, Nat.le_of_ble_eq_true rfl⟩) hK hE (fun H h => h) (k3_recv hK h3) rfl (Nat.le_of_ble_eq_true rfl) dX5_takeBack_114 ⟨Nat.le_of_ble_eq_true rfl, Nat.le_of_ble_eq_true rfl⟩ ?_
            refine g_aload_n S dX5_takeBack_117 rfl ?_
            refine k2_get S hK (by exact hd9) 1 (by decide) (S.2.2.2.2 _ (List.mem_of_getElem? (i := 4) rfl)) rfl dX5_takeBack_118 ?_
            refine g_icmp_ne S (tgt := 138) dX5_takeBack_121 (by decide) (fun c_121 => ?_) (fun c_121 => ?_)
            · refine g_iinc S (v := nI (i + 1)) dX5_takeBack_138 rfl (nI_inc i) (by decide) rfl ?_
              refine g_goto S (tgt := 67) dX5_takeBack_141 (by decide) ?_
              refine g_drop 5 ?_
              exact ih (i + 1) a9 _ (by omega) e0 e2 e3 (by rw [← e1]; simp only [kTB2]; rw [if_neg c_80, if_pos (hi4.mp c_109), if_neg c_121])
            · refine g_iload_n S dX5_takeBack_124 rfl ?_
              refine g_aload_n S dX5_takeBack_125 rfl ?_
              refine g_aload S dX5_takeBack_126 rfl ?_
              refine g_aload_n S dX5_takeBack_128 rfl ?_
              refine k2_get S hK (by exact hd9) 1 (by decide) (S.2.2.2.2 _ (List.mem_of_getElem? (i := 4) rfl)) rfl dX5_takeBack_129 ?_
              refine g_iload_n S dX5_takeBack_132 rfl ?_
              refine g_cVr S (k_tb l D ty A tE el a9 h69 h3 ht h5 hd h2 hs h4 _ _ ok9.2 hr3) (cwV 3 S.2.2.2.2 gX5_takeBack_X5_takeBackFrom rfl rfl rfl (by decide +kernel) ⟨Nat.le_of_ble_eq_true rfl, Nat.le_of_ble_eq_true rfl⟩) hK hE (fun H h => h) (k6_recv hK h69) rfl (Nat.le_of_ble_eq_true rfl) dX5_takeBack_133 ⟨Nat.le_of_ble_eq_true rfl, Nat.le_of_ble_eq_true rfl⟩ ?_
              refine g_isub S dX5_takeBack_136 ?_
              refine g_istore_n S dX5_takeBack_137 (by decide) rfl ?_
              refine g_iinc S (v := nI (i + 1)) dX5_takeBack_138 rfl (nI_inc i) (by decide) rfl ?_
              refine g_goto S (tgt := 67) dX5_takeBack_141 (by decide) ?_
              refine g_drop 5 ?_
              exact ih (i + 1) (kTb a9 i (cI a9 2 1 d9) left) _ (by omega) ((kTb_same a9 i (cI a9 2 1 d9) left).1.trans e0) ((kTb_same a9 i (cI a9 2 1 d9) left).2.1.trans e2) ((kTb_same a9 i (cI a9 2 1 d9) left).2.2.trans e3) (by rw [← e1]; simp only [kTB2]; rw [if_neg c_80, if_pos (hi4.mp c_109), if_pos c_121])
  have L1 : ∀ (kk i : Nat) (a9 : CS) (left : Int32), i + kk = cL a 2 → a9.1 = a.1 → a9.2.2.1 = a.2.2.1 → a9.2.2.2.2.2 = a.2.2.2.2.2 → kTB1 d9 i kk a9 left = (kTB1 d9 0 (cL a 2) a x) → gW p l e (headSpec wsX5_takeBack rmX5_takeBack).room s m args below meth c A (gR below A args s 0 0 (gRet none (hC D ty A tE el (kTakeBack a d9 x)))) 6 (hC D ty A tE el a9) 0 0 5 [some (.ref (el 6 0)), some (.ref (el 2 d9)), some (.int x), some (.int left), some (.int (nI i)), none] [] := by
    intro kk
    induction kk with
    | zero =>
      intro i a9 left ei e0 e2 e3 e1
      have eL : cL a9 2 = cL a 2 := congrFun e3 2
      have eN : cN a9 3 = cN a 3 := congrFun e0 3
      have ok9 : cOk a9 := ok.of e0 e2 e3
      have hwf9 := ok9.1
      have hLN := ok.1.2.2.2.2.1
      have h69 : cOb a9 6 0 := cOb_of e0 h6
      have hd9 : cOb a9 2 d9 := cOb_of e0 hd0
      have hb9 : cL a9 2 < 2 ^ 31 := by rw [eL]; exact hb
      have hsd9 := (hwf9.2.1 d9 (by rcases hd9 with ⟨-, z⟩ | ⟨z, -⟩ <;> omega)).1
      have h4d : cOb a9 4 (kS a9 d9) := Or.inl ⟨by decide, (hwf9.2.1 d9 (by rcases hd9 with ⟨-, z⟩ | ⟨z, -⟩ <;> omega)).2⟩
      refine g_iload S dX5_takeBack_5 rfl ?_
      refine g_aload_n S dX5_takeBack_7 rfl ?_
      refine k6_get S hK (by exact h69) 2 (by decide) (S.2.2.2.2 _ (List.mem_of_getElem? (i := 1) rfl)) rfl dX5_takeBack_8 ?_
      refine g_cVr S (k_size l D ty A tE el a9 hj) (cwV 0 S.2.2.2.2 gX5_takeBack_Jx4a65c_size_8abf5 rfl rfl rfl (by decide +kernel) ⟨Nat.le_of_ble_eq_true rfl, Nat.le_of_ble_eq_true rfl⟩) hK hE (fun H h => h) (k0_recv hK hj) rfl (Nat.le_of_ble_eq_true rfl) dX5_takeBack_11 ⟨Nat.le_of_ble_eq_true rfl, Nat.le_of_ble_eq_true rfl⟩ ?_
      refine g_icmp_ge S (tgt := 64) dX5_takeBack_14 (by decide) (fun c_14 => ?_) (fun c_14 => ?_)
      · refine g_iconst S (v := 0) dX5_takeBack_64 (by decide) ?_
        refine g_istore S dX5_takeBack_65 (by decide) rfl ?_
        have eT : (a9, left) = (kTB1 d9 0 (cL a 2) a x) := e1
        refine g_drop 5 ?_
        exact L2 (cL a 2) 0 a9 left (Nat.zero_add _) e0 e2 e3 (by rw [show (kTB1 d9 0 (cL a 2) a x) = (a9, left) from eT.symm])
      · exact absurd (lp_exit (nr := cL a9 2) rfl (by omega) (by omega)) c_14
    | succ kk ih =>
      intro i a9 left ei e0 e2 e3 e1
      have eL : cL a9 2 = cL a 2 := congrFun e3 2
      have eN : cN a9 3 = cN a 3 := congrFun e0 3
      have ok9 : cOk a9 := ok.of e0 e2 e3
      have hwf9 := ok9.1
      have hLN := ok.1.2.2.2.2.1
      have h69 : cOb a9 6 0 := cOb_of e0 h6
      have hd9 : cOb a9 2 d9 := cOb_of e0 hd0
      have hb9 : cL a9 2 < 2 ^ 31 := by rw [eL]; exact hb
      have hsd9 := (hwf9.2.1 d9 (by rcases hd9 with ⟨-, z⟩ | ⟨z, -⟩ <;> omega)).1
      have h4d : cOb a9 4 (kS a9 d9) := Or.inl ⟨by decide, (hwf9.2.1 d9 (by rcases hd9 with ⟨-, z⟩ | ⟨z, -⟩ <;> omega)).2⟩
      have hq : i < cL a9 2 := by omega
      have hr3 : i < cN a9 3 := by omega
      have hr9 := hwf9.1 i hr3
      have h3 : cOb a9 3 i := Or.inl ⟨by decide, hr3⟩
      have hd := hr9.1
      have h2 : cOb a9 2 (kD a9 i) := Or.inl ⟨by decide, hr9.2.1⟩
      have ht := hr9.2.2.1
      have h5 : cOb a9 5 (kT a9 i) := Or.inl ⟨by decide, hr9.2.2.2⟩
      have hs9 := hwf9.2.1 _ hr9.2.1
      have hs := hs9.1
      have h4 : cOb a9 4 (kS a9 (kD a9 i)) := Or.inl ⟨by decide, hs9.2⟩
      have hi2 : el 2 (kD a9 i) = el 2 d9 ↔ kD a9 i = d9 := hC_inj hP0 (cOb_of e0.symm h2) hd0
      have hi4 : el 4 (kS a9 (kD a9 i)) = el 4 (kS a9 d9) ↔ kS a9 (kD a9 i) = kS a9 d9 := hC_inj hP0 (cOb_of e0.symm h4) (cOb_of e0.symm h4d)
      refine g_iload S dX5_takeBack_5 rfl ?_
      refine g_aload_n S dX5_takeBack_7 rfl ?_
      refine k6_get S hK (by exact h69) 2 (by decide) (S.2.2.2.2 _ (List.mem_of_getElem? (i := 1) rfl)) rfl dX5_takeBack_8 ?_
      refine g_cVr S (k_size l D ty A tE el a9 hj) (cwV 0 S.2.2.2.2 gX5_takeBack_Jx4a65c_size_8abf5 rfl rfl rfl (by decide +kernel) ⟨Nat.le_of_ble_eq_true rfl, Nat.le_of_ble_eq_true rfl⟩) hK hE (fun H h => h) (k0_recv hK hj) rfl (Nat.le_of_ble_eq_true rfl) dX5_takeBack_11 ⟨Nat.le_of_ble_eq_true rfl, Nat.le_of_ble_eq_true rfl⟩ ?_
      refine g_icmp_ge S (tgt := 64) dX5_takeBack_14 (by decide) (fun c_14 => ?_) (fun c_14 => ?_)
      · exact absurd c_14 (lp_stay (nr := cL a9 2) rfl (by omega) (by omega))
      · refine g_iload_n S dX5_takeBack_17 rfl ?_
        refine g_if_le S (tgt := 64) dX5_takeBack_18 (by decide) (fun c_18 => ?_) (fun c_18 => ?_)
        · refine g_iconst S (v := 0) dX5_takeBack_64 (by decide) ?_
          refine g_istore S dX5_takeBack_65 (by decide) rfl ?_
          have eT : (a9, left) = (kTB1 d9 0 (cL a 2) a x) := by rw [← e1]; simp only [kTB1]; rw [if_pos c_18]
          refine g_drop 5 ?_
          exact L2 (cL a 2) 0 a9 left (Nat.zero_add _) e0 e2 e3 (by rw [show (kTB1 d9 0 (cL a 2) a x) = (a9, left) from eT.symm])
        · refine g_aload_n S dX5_takeBack_21 rfl ?_
          refine k6_get S hK (by exact h69) 2 (by decide) (S.2.2.2.2 _ (List.mem_of_getElem? (i := 1) rfl)) rfl dX5_takeBack_22 ?_
          refine g_iload S dX5_takeBack_25 rfl ?_
          refine g_cVr S (k_get l D ty A tE el a9 hj hq hb9) (cwV 1 S.2.2.2.2 gX5_takeBack_Jx4a65c_get_915e3 rfl rfl rfl (by decide +kernel) ⟨Nat.le_of_ble_eq_true rfl, Nat.le_of_ble_eq_true rfl⟩) hK hE (fun H h => h) (k0_recv hK hj) rfl (Nat.le_of_ble_eq_true rfl) dX5_takeBack_27 ⟨Nat.le_of_ble_eq_true rfl, Nat.le_of_ble_eq_true rfl⟩ ?_
          refine g_cast S hK (q := (RX2, TX2, 9)) (S.2.2.2.2 _ (List.mem_of_getElem? (i := 2) rfl)) (ci := 3) rfl (k3_recv hK h3) dX5_takeBack_30 ?_
          refine g_astore S dX5_takeBack_33 (by decide) rfl ?_
          refine g_aload S dX5_takeBack_35 rfl ?_
          refine k3_getR S hK (by exact h3) 1 (by decide) (by exact hd) (S.2.2.2.2 _ (List.mem_of_getElem? (i := 3) rfl)) rfl dX5_takeBack_37 ?_
          refine g_aload_n S dX5_takeBack_40 rfl ?_
          refine g_acmp_ne S (tgt := 58) dX5_takeBack_41 (by decide) (fun c_41 => ?_) (fun c_41 => ?_)
          · refine g_iinc S (v := nI (i + 1)) dX5_takeBack_58 rfl (nI_inc i) (by decide) rfl ?_
            refine g_goto S (tgt := 5) dX5_takeBack_61 (by decide) ?_
            refine g_drop 5 ?_
            exact ih (i + 1) a9 _ (by omega) e0 e2 e3 (by rw [← e1]; simp only [kTB1]; rw [if_neg c_18, if_neg (fun z => c_41 (hi2.mpr z))])
          · refine g_iload_n S dX5_takeBack_44 rfl ?_
            refine g_aload_n S dX5_takeBack_45 rfl ?_
            refine g_aload S dX5_takeBack_46 rfl ?_
            refine g_aload_n S dX5_takeBack_48 rfl ?_
            refine k2_get S hK (by exact hd9) 1 (by decide) (S.2.2.2.2 _ (List.mem_of_getElem? (i := 4) rfl)) rfl dX5_takeBack_49 ?_
            refine g_iload_n S dX5_takeBack_52 rfl ?_
            refine g_cVr S (k_tb l D ty A tE el a9 h69 h3 ht h5 hd h2 hs h4 _ _ ok9.2 hr3) (cwV 3 S.2.2.2.2 gX5_takeBack_X5_takeBackFrom rfl rfl rfl (by decide +kernel) ⟨Nat.le_of_ble_eq_true rfl, Nat.le_of_ble_eq_true rfl⟩) hK hE (fun H h => h) (k6_recv hK h69) rfl (Nat.le_of_ble_eq_true rfl) dX5_takeBack_53 ⟨Nat.le_of_ble_eq_true rfl, Nat.le_of_ble_eq_true rfl⟩ ?_
            refine g_isub S dX5_takeBack_56 ?_
            refine g_istore_n S dX5_takeBack_57 (by decide) rfl ?_
            refine g_iinc S (v := nI (i + 1)) dX5_takeBack_58 rfl (nI_inc i) (by decide) rfl ?_
            refine g_goto S (tgt := 5) dX5_takeBack_61 (by decide) ?_
            refine g_drop 5 ?_
            exact ih (i + 1) (kTb a9 i (cI a9 2 1 d9) left) _ (by omega) ((kTb_same a9 i (cI a9 2 1 d9) left).1.trans e0) ((kTb_same a9 i (cI a9 2 1 d9) left).2.1.trans e2) ((kTb_same a9 i (cI a9 2 1 d9) left).2.2.trans e3) (by rw [← e1]; simp only [kTB1]; rw [if_neg c_18, if_pos (hi2.mp c_41)])
  refine g_iload_n S dX5_takeBack_0 rfl ?_
  refine g_istore_n S dX5_takeBack_1 (by decide) rfl ?_
  refine g_iconst S (v := 0) dX5_takeBack_2 (by decide) ?_
  refine g_istore S dX5_takeBack_3 (by decide) rfl ?_
  exact L1 (cL a 2) 0 a x (Nat.zero_add _) rfl rfl rfl rfl

