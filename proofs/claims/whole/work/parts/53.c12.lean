theorem i64_ne {x : Int32} (h : ¬ x ≤ 0) : ¬ x.toInt64 = 0 := by
  intro z
  have h2 := congrArg Int64.toInt z
  rw [Int32.toInt_toInt64, show (0 : Int64).toInt = 0 by decide] at h2
  have := i_pos h
  omega
def kShLoss (a : CS) (s : Nat) : Int32 := ((cI a 4 4 s).toInt64 * (cI a 6 6 0).toInt64 / 100000).toInt32
def kShareOf (a : CS) (content loss : Int32) (i : Nat) : Int32 := (loss.toInt64 * (cI a 3 3 i).toInt64 / content.toInt64).toInt32
def kRestOf (a : CS) (content loss : Int32) (i : Nat) : Int32 := (loss.toInt64 * (cI a 3 3 i).toInt64 - loss.toInt64 * (cI a 3 3 i).toInt64 / content.toInt64 * content.toInt64).toInt32
def kShStep (a : CS) (content loss : Int32) (i : Nat) : CS := kTakeFrom (cSI a 3 8 i (kRestOf a content loss i)) i (kS a (kD a i)) (kShareOf a content loss i)
def kSh1 (s : Nat) (content loss : Int32) : Nat → Nat → CS → Int32 → CS × Int32
  | _, 0, a, left => (a, left)
  | i, k + 1, a, left => if kLiveIn a s i = true then kSh1 s content loss (i + 1) k (kShStep a content loss i) (left - kShareOf a content loss i) else kSh1 s content loss (i + 1) k a left
def kShrink (a : CS) (s : Nat) : CS :=
  if cI a 4 4 s ≤ 0 then a
  else if 0 < kShLoss a s then
    let t := kSh1 s (cI a 4 4 s) (kShLoss a s) 0 (cL a 2) a (kShLoss a s)
    let b := kBear s t.2.toNatClampNeg t.1
    cSI b 4 5 s (cI b 4 5 s + kShLoss a s)
  else a
theorem kShStep_same (a : CS) (x y : Int32) (i : Nat) : (kShStep a x y i).1 = a.1 ∧ (kShStep a x y i).2.2.1 = a.2.2.1 ∧ (kShStep a x y i).2.2.2.2.2 = a.2.2.2.2.2 := by
  obtain ⟨h1, h2, h3⟩ := kTakeFrom_same (cSI a 3 8 i (kRestOf a x y i)) i (kS a (kD a i)) (kShareOf a x y i)
  exact ⟨h1, h2, h3⟩
theorem kBear_same (s : Nat) : ∀ (k : Nat) (a : CS), (kBear s k a).1 = a.1 ∧ (kBear s k a).2.2.1 = a.2.2.1 ∧ (kBear s k a).2.2.2.2.2 = a.2.2.2.2.2
  | 0, a => ⟨rfl, rfl, rfl⟩
  | k + 1, a => by
    obtain ⟨h1, h2, h3⟩ := kBear_same s k (kBearStep a s)
    obtain ⟨g1, g2, g3⟩ := kBearStep_same a s
    exact ⟨h1.trans g1, h2.trans g2, h3.trans g3⟩
abbrev rmX5_shrink : Room := { frames := 5, cells := 0, slots := 0, locals := 113 }
set_option maxHeartbeats 1500000 in
set_option maxRecDepth 100000 in
theorem k_shrink (l : Launch) (D : va_G) (ty : Nat → ClassId) (A : Nat → Prop) (tE : Nat) (el : Nat → Nat → Nat) (a : CS) (h6 : cOb a 6 0) (hwf : cWf a) (hb : cL a 2 < 2 ^ 31) {s9 : Nat} (hs4 : cOb a 4 s9) (hleft : ∃ n9, n9 ≤ 80 ∧ (kSh1 s9 (cI a 4 4 s9) (kShLoss a s9) 0 (cL a 2) a (kShLoss a s9)).2 = nI n9) : Met l yX5_shrink wsX5_shrink rmX5_shrink (gPc D ty true cstrs tE A [.ref (el 6 0), .ref (el 4 s9)] (hC D ty A tE el a)) (gQ A (gRet none (hC D ty A tE el (kShrink a s9)))) 0 0 A := by
  refine g_Met (cc := cX5_shrink) (maxL := 10) (ret := none) [some (.ref (el 6 0)), some (.ref (el 4 s9)), none, none, none, none, none, none, none, none] (by decide) rfl (Nat.le_of_ble_eq_true rfl) rfl ?_
  intro p e s m args below meth c S hlk hr hnm hK hE hP0
  have S : CallFix p m c cX5_shrink 10 s args wsX5_shrink RX5 := S
  have hj : 2 < 4 := by decide
  have L : ∀ (kk i : Nat) (a9 : CS) (left : Int32), i + kk = cL a 2 → a9.1 = a.1 → a9.2.2.1 = a.2.2.1 → a9.2.2.2.2.2 = a.2.2.2.2.2 → kSh1 s9 (cI a 4 4 s9) (kShLoss a s9) i kk a9 left = (kSh1 s9 (cI a 4 4 s9) (kShLoss a s9) 0 (cL a 2) a (kShLoss a s9)) → (¬ (cI a 4 4 s9) ≤ 0) → (0 < (kShLoss a s9)) → gW p l e (headSpec wsX5_shrink rmX5_shrink).room s m args below meth c A (gR below A args s 0 0 (gRet none (hC D ty A tE el (kShrink a s9)))) 10 (hC D ty A tE el a9) 0 0 34 [some (.ref (el 6 0)), some (.ref (el 4 s9)), some (.int (cI a 4 4 s9)), some (.int (kShLoss a s9)), some (.int left), some (.int (nI i)), none, none, none, none] [] := by
    intro kk
    induction kk with
    | zero =>
      intro i a9 left ei e0 e2 e3 e1
      intro hc0 hl0
      have eL : cL a9 2 = cL a 2 := congrFun e3 2
      have eN : cN a9 3 = cN a 3 := congrFun e0 3
      have hwf9 : cWf a9 := cWf_of e0 e2 e3 hwf
      have hLN := hwf.2.2.2.2.1
      have h69 : cOb a9 6 0 := cOb_of e0 h6
      have hs49 : cOb a9 4 s9 := cOb_of e0 hs4
      have hb9 : cL a9 2 < 2 ^ 31 := by rw [eL]; exact hb
      refine g_iload S dX5_shrink_34 rfl ?_
      refine g_aload_n S dX5_shrink_36 rfl ?_
      refine k6_get S hK (by exact h69) 2 (by decide) (S.2.2.2.2 _ (List.mem_of_getElem? (i := 4) rfl)) rfl dX5_shrink_37 ?_
      refine g_cVr S (k_size l D ty A tE el a9 hj) (cwV 0 S.2.2.2.2 gX5_shrink_Jx4a65c_size_8abf5 rfl rfl rfl (by decide +kernel) ⟨Nat.le_of_ble_eq_true rfl, Nat.le_of_ble_eq_true rfl⟩) hK hE (fun H h => h) (k0_recv hK hj) rfl (Nat.le_of_ble_eq_true rfl) dX5_shrink_40 ⟨Nat.le_of_ble_eq_true rfl, Nat.le_of_ble_eq_true rfl⟩ ?_
      refine g_icmp_ge S (tgt := 120) dX5_shrink_43 (by decide) (fun c_43 => ?_) (fun c_43 => ?_)
      · have eT : (kSh1 s9 (cI a 4 4 s9) (kShLoss a s9) 0 (cL a 2) a (kShLoss a s9)) = (a9, left) := e1.symm
        obtain ⟨n9, hn9, en9⟩ : ∃ n9, n9 ≤ 80 ∧ left = nI n9 := by obtain ⟨n9, x1, x2⟩ := hleft; rw [eT] at x2; exact ⟨n9, x1, x2⟩
        have ecl : left.toNatClampNeg = n9 := by rw [en9]; exact nI_clamp (by omega)
        refine g_lv (show _ = [some (.ref (el 6 0)), some (.ref (el 4 s9)), some (.int (cI a 4 4 s9)), some (.int (kShLoss a s9)), some (.int (nI n9)), some (.int (nI i)), none, none, none, none] from by rw [← en9]) ?_
        refine g_aload_n S dX5_shrink_120 rfl ?_
        refine g_aload_n S dX5_shrink_121 rfl ?_
        refine g_iload S dX5_shrink_122 rfl ?_
        refine g_cVv S (k_bear l D ty A tE el a9 h69 hwf9 hb9 hs49 n9 hn9) (cwV 2 S.2.2.2.2 gX5_shrink_X5_bearOneEach rfl rfl rfl (by decide +kernel) ⟨Nat.le_of_ble_eq_true rfl, Nat.le_of_ble_eq_true rfl⟩) hK hE (fun H h => h) (k6_recv hK h69) rfl (Nat.le_of_ble_eq_true rfl) dX5_shrink_124 ⟨Nat.le_of_ble_eq_true rfl, Nat.le_of_ble_eq_true rfl⟩ ?_
        refine g_aload_n S dX5_shrink_127 rfl ?_
        refine g_dup S dX5_shrink_128 rfl ?_
        refine k4_get S hK (by exact (cOb_of (kBear_same s9 n9 a9).1 hs49)) 5 (by decide) (S.2.2.2.2 _ (List.mem_of_getElem? (i := 8) rfl)) rfl dX5_shrink_129 ?_
        refine g_iload_n S dX5_shrink_132 rfl ?_
        refine g_iadd S dX5_shrink_133 ?_
        refine k4_put S hK (by exact (cOb_of (kBear_same s9 n9 a9).1 hs49)) 5 (by decide) (by decide) (S.2.2.2.2 _ (List.mem_of_getElem? (i := 8) rfl)) (Or.inl rfl) rfl rfl dX5_shrink_134 ?_
        exact g_vret S hlk hr (fun H h => ⟨rfl, by unfold kShrink; rw [if_neg hc0, if_pos hl0, eT]; simp only; rw [ecl]; exact h⟩) (Nat.le_refl _) (Nat.le_refl _) dX5_shrink_137
      · exact absurd (lp_exit (nr := cL a9 2) rfl (by omega) (by omega)) c_43
    | succ kk ih =>
      intro i a9 left ei e0 e2 e3 e1
      intro hc0 hl0
      have eL : cL a9 2 = cL a 2 := congrFun e3 2
      have eN : cN a9 3 = cN a 3 := congrFun e0 3
      have hwf9 : cWf a9 := cWf_of e0 e2 e3 hwf
      have hLN := hwf.2.2.2.2.1
      have h69 : cOb a9 6 0 := cOb_of e0 h6
      have hs49 : cOb a9 4 s9 := cOb_of e0 hs4
      have hb9 : cL a9 2 < 2 ^ 31 := by rw [eL]; exact hb
      have hq : i < cL a9 2 := by omega
      have hr9 := hwf9.1 i (by omega)
      have h3 : cOb a9 3 i := Or.inl ⟨by decide, by omega⟩
      have hd := hr9.1
      have h2 : cOb a9 2 (kD a9 i) := Or.inl ⟨by decide, hr9.2.1⟩
      have hs9 := hwf9.2.1 _ hr9.2.1
      have hs := hs9.1
      have h4 : cOb a9 4 (kS a9 (kD a9 i)) := Or.inl ⟨by decide, hs9.2⟩
      refine g_iload S dX5_shrink_34 rfl ?_
      refine g_aload_n S dX5_shrink_36 rfl ?_
      refine k6_get S hK (by exact h69) 2 (by decide) (S.2.2.2.2 _ (List.mem_of_getElem? (i := 4) rfl)) rfl dX5_shrink_37 ?_
      refine g_cVr S (k_size l D ty A tE el a9 hj) (cwV 0 S.2.2.2.2 gX5_shrink_Jx4a65c_size_8abf5 rfl rfl rfl (by decide +kernel) ⟨Nat.le_of_ble_eq_true rfl, Nat.le_of_ble_eq_true rfl⟩) hK hE (fun H h => h) (k0_recv hK hj) rfl (Nat.le_of_ble_eq_true rfl) dX5_shrink_40 ⟨Nat.le_of_ble_eq_true rfl, Nat.le_of_ble_eq_true rfl⟩ ?_
      refine g_icmp_ge S (tgt := 120) dX5_shrink_43 (by decide) (fun c_43 => ?_) (fun c_43 => ?_)
      · exact absurd c_43 (lp_stay (nr := cL a9 2) rfl (by omega) (by omega))
      · refine g_aload_n S dX5_shrink_46 rfl ?_
        refine k6_get S hK (by exact h69) 2 (by decide) (S.2.2.2.2 _ (List.mem_of_getElem? (i := 4) rfl)) rfl dX5_shrink_47 ?_
        refine g_iload S dX5_shrink_50 rfl ?_
        refine g_cVr S (k_get l D ty A tE el a9 hj hq hb9) (cwV 1 S.2.2.2.2 gX5_shrink_Jx4a65c_get_915e3 rfl rfl rfl (by decide +kernel) ⟨Nat.le_of_ble_eq_true rfl, Nat.le_of_ble_eq_true rfl⟩) hK hE (fun H h => h) (k0_recv hK hj) rfl (Nat.le_of_ble_eq_true rfl) dX5_shrink_52 ⟨Nat.le_of_ble_eq_true rfl, Nat.le_of_ble_eq_true rfl⟩ ?_
        refine g_cast S hK (q := (RX2, TX2, 9)) (S.2.2.2.2 _ (List.mem_of_getElem? (i := 5) rfl)) (ci := 3) rfl (k3_recv hK h3) dX5_shrink_55 ?_
        refine g_astore S dX5_shrink_58 (by decide) rfl ?_
        refine g_aload S dX5_shrink_60 rfl ?_
        refine g_aload_n S dX5_shrink_62 rfl ?_
        refine g_cVr S (k_isLiveIn l D ty A tE el a9 h3 hd h2 hs h4 (j := s9) hs49 (hC_inj hP0 (cOb_of e0.symm h4) hs4)) (cwV 1 S.2.2.2.2 gX5_shrink_X2_isLiveIn rfl rfl rfl (by decide +kernel) ⟨Nat.le_of_ble_eq_true rfl, Nat.le_of_ble_eq_true rfl⟩) hK hE (fun H h => h) (k3_recv hK (by exact h3)) rfl (Nat.le_of_ble_eq_true rfl) dX5_shrink_63 ⟨Nat.le_of_ble_eq_true rfl, Nat.le_of_ble_eq_true rfl⟩ ?_
        refine g_ifb_eq S (tgt := 114) dX5_shrink_66 (by decide) (fun c_66 => ?_) (fun c_66 => ?_)
        · refine g_iinc S (v := nI (i + 1)) dX5_shrink_114 rfl (nI_inc i) (by decide) rfl ?_
          refine g_goto S (tgt := 34) dX5_shrink_117 (by decide) ?_
          refine g_drop 6 (g_drop 7 (g_drop 9 ?_))
          exact ih (i + 1) a9 _ (by omega) e0 e2 e3 (by rw [← e1]; simp only [kSh1]; rw [if_neg (show ¬ kLiveIn a9 s9 i = true from fun z => absurd (Eq.trans (Eq.symm c_66) z) (by decide))]) hc0 hl0
        · refine g_iload_n S dX5_shrink_69 rfl ?_
          refine g_i2l S dX5_shrink_70 ?_
          refine g_aload S dX5_shrink_71 rfl ?_
          refine k3_get S hK (by exact h3) 3 (by decide) (S.2.2.2.2 _ (List.mem_of_getElem? (i := 6) rfl)) rfl dX5_shrink_73 ?_
          refine g_i2l S dX5_shrink_76 ?_
          refine g_lmul S dX5_shrink_77 ?_
          refine g_lstore S dX5_shrink_78 (by decide) rfl ?_
          refine g_lload S dX5_shrink_80 rfl ?_
          refine g_iload_n S dX5_shrink_82 rfl ?_
          refine g_i2l S dX5_shrink_83 ?_
          refine g_ldiv S dX5_shrink_84 (i64_ne hc0) ?_
          refine g_l2i S dX5_shrink_85 ?_
          refine g_istore S dX5_shrink_86 (by decide) rfl ?_
          refine g_aload S dX5_shrink_88 rfl ?_
          refine g_lload S dX5_shrink_90 rfl ?_
          refine g_iload_n S dX5_shrink_92 rfl ?_
          refine g_i2l S dX5_shrink_93 ?_
          refine g_lrem S dX5_shrink_94 (i64_ne hc0) ?_
          refine g_l2i S dX5_shrink_95 ?_
          refine k3_put S hK (by exact h3) 8 (by decide) (by decide) (S.2.2.2.2 _ (List.mem_of_getElem? (i := 7) rfl)) (Or.inl rfl) rfl rfl dX5_shrink_96 ?_
          refine g_aload_n S dX5_shrink_99 rfl ?_
          refine g_aload S dX5_shrink_100 rfl ?_
          refine g_iload S dX5_shrink_102 rfl ?_
          refine g_cVv S (k_takeFrom l D ty A tE el _ (by exact h69) (by exact h3) (by exact hd) (by exact h2) (by exact hs) (by exact h4) _) (cwV 2 S.2.2.2.2 gX5_shrink_X5_takeFrom rfl rfl rfl (by decide +kernel) ⟨Nat.le_of_ble_eq_true rfl, Nat.le_of_ble_eq_true rfl⟩) hK hE (fun H h => h) (k6_recv hK (by exact h69)) rfl (Nat.le_of_ble_eq_true rfl) dX5_shrink_104 ⟨Nat.le_of_ble_eq_true rfl, Nat.le_of_ble_eq_true rfl⟩ ?_
          refine g_iload S dX5_shrink_107 rfl ?_
          refine g_iload S dX5_shrink_109 rfl ?_
          refine g_isub S dX5_shrink_111 ?_
          refine g_istore S dX5_shrink_112 (by decide) rfl ?_
          refine g_iinc S (v := nI (i + 1)) dX5_shrink_114 rfl (nI_inc i) (by decide) rfl ?_
          refine g_goto S (tgt := 34) dX5_shrink_117 (by decide) ?_
          refine g_drop 6 (g_drop 7 (g_drop 9 ?_))
          exact ih (i + 1) (kShStep a9 (cI a 4 4 s9) (kShLoss a s9) i) _ (by omega) ((kShStep_same a9 (cI a 4 4 s9) (kShLoss a s9) i).1.trans e0) ((kShStep_same a9 (cI a 4 4 s9) (kShLoss a s9) i).2.1.trans e2) ((kShStep_same a9 (cI a 4 4 s9) (kShLoss a s9) i).2.2.trans e3) (by rw [← e1]; simp only [kSh1]; rw [if_pos (show kLiveIn a9 s9 i = true from c_66)]; rfl) hc0 hl0
  refine g_aload_n S dX5_shrink_0 rfl ?_
  refine k4_get S hK (by exact hs4) 4 (by decide) (S.2.2.2.2 _ (List.mem_of_getElem? (i := 1) rfl)) rfl dX5_shrink_1 ?_
  refine g_istore_n S dX5_shrink_4 (by decide) rfl ?_
  refine g_iload_n S dX5_shrink_5 rfl ?_
  refine g_i2l S dX5_shrink_6 ?_
  refine g_aload_n S dX5_shrink_7 rfl ?_
  refine k6_get S hK (by exact h6) 6 (by decide) (S.2.2.2.2 _ (List.mem_of_getElem? (i := 2) rfl)) rfl dX5_shrink_8 ?_
  refine g_i2l S dX5_shrink_11 ?_
  refine g_lmul S dX5_shrink_12 ?_
  refine g_ldc2 S (S.2.2.2.2 _ (List.mem_of_getElem? (i := 3) rfl)) dX5_shrink_13 ?_
  refine g_ldiv S dX5_shrink_16 (by decide) ?_
  refine g_l2i S dX5_shrink_17 ?_
  refine g_istore_n S dX5_shrink_18 (by decide) rfl ?_
  refine g_iload_n S dX5_shrink_19 rfl ?_
  refine g_if_le S (tgt := 27) dX5_shrink_20 (by decide) (fun c_20 => ?_) (fun c_20 => ?_)
  · exact g_vret S hlk hr (fun H h => ⟨rfl, by unfold kShrink; rw [if_pos c_20]; exact h⟩) (Nat.le_refl _) (Nat.le_refl _) dX5_shrink_27
  · refine g_iload_n S dX5_shrink_23 rfl ?_
    refine g_if_gt S (tgt := 28) dX5_shrink_24 (by decide) (fun c_24 => ?_) (fun c_24 => ?_)
    · refine g_iload_n S dX5_shrink_28 rfl ?_
      refine g_istore S dX5_shrink_29 (by decide) rfl ?_
      refine g_iconst S (v := 0) dX5_shrink_31 (by decide) ?_
      refine g_istore S dX5_shrink_32 (by decide) rfl ?_
      exact L (cL a 2) 0 a _ (Nat.zero_add _) rfl rfl rfl rfl c_20 c_24
    · exact g_vret S hlk hr (fun H h => ⟨rfl, by unfold kShrink; rw [if_neg c_20, if_neg (show ¬ 0 < kShLoss a s9 from c_24)]; exact h⟩) (Nat.le_refl _) (Nat.le_refl _) dX5_shrink_27

