def mTakeN (a : MS) (r left : Int32) : Int32 := if left ≤ gA a 21 r then left else gA a 21 r
def mTakePay (a : MS) (d r much : Int32) : MS :=
  if much ≤ 0 then a
  else if gA a 22 r = gA a 14 d then a
  else if ¬ gA a 28 r = -1 then
    let b := mPay a (gA a 34 (gA a 28 r)) (gA a 22 r) (much.toInt64 * (gA a 40 (gA a 28 r)).toInt64)
    let b := mX b 42 (gA a 28 r) (gA b 42 (gA a 28 r) - much)
    mX b 43 (gA a 28 r) (gA b 43 (gA a 28 r) + much)
  else mPay a (gA a 14 d) (gA a 22 r) (much.toInt64 * (gS a 3).toInt64)
def mTakeFor (a : MS) (d r left : Int32) : MS := mLose (mTakePay a d r (mTakeN a r left)) r (mTakeN a r left)
theorem mTakePay_wf {a : MS} (hw : mWf a) (d r much : Int32) : mWf (mTakePay a d r much) := by
  unfold mTakePay
  split
  · exact hw
  · split
    · exact hw
    · split
      · exact mWf_X (k := 43) (mWf_X (k := 42) (mWf_Y (mWf_Y hw _ _) _ _) _ trivial) _ trivial
      · exact mWf_Y (mWf_Y hw _ _) _ _
abbrev rmX6_takeFor : Room := { frames := 1, cells := 0, slots := 0, locals := 24 }
set_option maxHeartbeats 4000000 in
set_option maxRecDepth 100000 in
theorem c_takeFor (l : Launch) (D : va_G) (ty : Nat → ClassId) (A : Nat → Prop) (mo : Nat) (ad : Nat → Nat) (a : MS) (d r left : Int32) (hw : mWf a) (hd0 : vp_in d 40) (hr0 : vp_in r 80) : Met l yX6_takeFor wsX6_takeFor rmX6_takeFor (gPc D ty false [] 0 A [.ref mo, .int d, .int r, .int left] (hM D ty A mo ad a)) (gQ A (gRet (some (.int (left - mTakeN a r left))) (hM D ty A mo ad (mTakeFor a d r left)))) 0 0 A := by
  refine g_Met (cc := cX6_takeFor) (maxL := 7) (ret := (some .int)) [some (.ref mo), some (.int d), some (.int r), some (.int left), none, none, none] (by decide) rfl (Nat.le_of_ble_eq_true rfl) rfl ?_
  intro p e s m args below meth c S hlk hr hnm hK hE hP0
  have S : CallFix p m c cX6_takeFor 7 s args wsX6_takeFor RX6 := S
  refine g_aload_n S dX6_takeFor_0 rfl ?_
  refine m_getf S hK 21 (by decide) (S.2.2.2.2 _ (List.mem_of_getElem? (i := 1) rfl)) rfl dX6_takeFor_1 ?_
  refine g_iload_n S dX6_takeFor_4 rfl ?_
  refine m_iald S hK (by decide) (by first | assumption | exact or_vin (hw 28 _) c_57) dX6_takeFor_5 ?_
  refine g_iload_n S dX6_takeFor_6 rfl ?_
  refine g_icmp_ge S (tgt := 19) dX6_takeFor_7 (by decide) (fun c_7 => ?_) (fun c_7 => ?_)
  · refine g_iload_n S dX6_takeFor_19 rfl ?_
    have e20 : left = mTakeN a r left := by rw [mTakeN, if_pos c_7]
    refine g_st (congrArg (fun z : Int32 => [Value.int z]) e20) ?_
    refine g_istore S dX6_takeFor_20 (by decide) rfl ?_
    refine g_aload_n S dX6_takeFor_22 rfl ?_
    refine m_getf S hK 14 (by decide) (S.2.2.2.2 _ (List.mem_of_getElem? (i := 2) rfl)) rfl dX6_takeFor_23 ?_
    refine g_iload_n S dX6_takeFor_26 rfl ?_
    refine m_iald S hK (by decide) (by first | assumption | exact or_vin (hw 28 _) c_57) dX6_takeFor_27 ?_
    refine g_istore S dX6_takeFor_28 (by decide) rfl ?_
    refine g_iload S dX6_takeFor_30 rfl ?_
    refine g_if_le S (tgt := 137) dX6_takeFor_32 (by decide) (fun c_32 => ?_) (fun c_32 => ?_)
    · refine g_aload_n S dX6_takeFor_137 rfl ?_
      refine g_iload_n S dX6_takeFor_138 rfl ?_
      refine g_iload S dX6_takeFor_139 rfl ?_
      refine g_iconst S (v := 1) dX6_takeFor_141 (by decide) ?_
      refine g_cVv S (c_lose l D ty A mo ad _ _ _ (by exact hr0) (by exact hw 23 _)) (cwV 3 S.2.2.2.2 gX6_takeFor_X6_lose rfl rfl rfl (by decide +kernel) ⟨Nat.le_of_ble_eq_true rfl, Nat.le_of_ble_eq_true rfl⟩) hK hE (fun H h => h) (m_recv hK) rfl (Nat.le_of_ble_eq_true rfl) dX6_takeFor_142 ⟨Nat.le_of_ble_eq_true rfl, Nat.le_of_ble_eq_true rfl⟩ ?_
      refine g_iload_n S dX6_takeFor_145 rfl ?_
      refine g_iload S dX6_takeFor_146 rfl ?_
      refine g_isub S dX6_takeFor_148 ?_
      exact g_iret S hlk hr (fun H h => (by simp only [gRet, mTakeFor, true_and]; rw [show mTakePay a d r (mTakeN a r left) = _ from by simp only [mTakePay, c_32, if_true, if_false, reduceIte, Bool.false_eq_true, not_true_eq_false, not_false_eq_true, ite_not, true_and, and_true]; rfl]; exact h)) (Nat.le_refl _) (Nat.le_refl _) dX6_takeFor_149
    · refine g_aload_n S dX6_takeFor_35 rfl ?_
      refine m_getf S hK 22 (by decide) (S.2.2.2.2 _ (List.mem_of_getElem? (i := 3) rfl)) rfl dX6_takeFor_36 ?_
      refine g_iload_n S dX6_takeFor_39 rfl ?_
      refine m_iald S hK (by decide) (by first | assumption | exact or_vin (hw 28 _) c_57) dX6_takeFor_40 ?_
      refine g_iload S dX6_takeFor_41 rfl ?_
      refine g_icmp_eq S (tgt := 137) dX6_takeFor_43 (by decide) (fun c_43 => ?_) (fun c_43 => ?_)
      · refine g_aload_n S dX6_takeFor_137 rfl ?_
        refine g_iload_n S dX6_takeFor_138 rfl ?_
        refine g_iload S dX6_takeFor_139 rfl ?_
        refine g_iconst S (v := 1) dX6_takeFor_141 (by decide) ?_
        refine g_cVv S (c_lose l D ty A mo ad _ _ _ (by exact hr0) (by exact hw 23 _)) (cwV 3 S.2.2.2.2 gX6_takeFor_X6_lose rfl rfl rfl (by decide +kernel) ⟨Nat.le_of_ble_eq_true rfl, Nat.le_of_ble_eq_true rfl⟩) hK hE (fun H h => h) (m_recv hK) rfl (Nat.le_of_ble_eq_true rfl) dX6_takeFor_142 ⟨Nat.le_of_ble_eq_true rfl, Nat.le_of_ble_eq_true rfl⟩ ?_
        refine g_iload_n S dX6_takeFor_145 rfl ?_
        refine g_iload S dX6_takeFor_146 rfl ?_
        refine g_isub S dX6_takeFor_148 ?_
        exact g_iret S hlk hr (fun H h => (by simp only [gRet, mTakeFor, true_and]; rw [show mTakePay a d r (mTakeN a r left) = _ from by simp only [mTakePay, c_32, c_43, if_true, if_false, reduceIte, Bool.false_eq_true, not_true_eq_false, not_false_eq_true, ite_not, true_and, and_true]; rfl]; exact h)) (Nat.le_refl _) (Nat.le_refl _) dX6_takeFor_149
      · refine g_aload_n S dX6_takeFor_46 rfl ?_
        refine m_getf S hK 28 (by decide) (S.2.2.2.2 _ (List.mem_of_getElem? (i := 4) rfl)) rfl dX6_takeFor_47 ?_
        refine g_iload_n S dX6_takeFor_50 rfl ?_
        refine m_iald S hK (by decide) (by first | assumption | exact or_vin (hw 28 _) c_57) dX6_takeFor_51 ?_
        refine g_istore S dX6_takeFor_52 (by decide) rfl ?_
        refine g_iload S dX6_takeFor_54 rfl ?_
        refine g_iconst S (v := (-1)) dX6_takeFor_56 (by decide) ?_
        refine g_icmp_ne S (tgt := 84) dX6_takeFor_57 (by decide) (fun c_57 => ?_) (fun c_57 => ?_)
        · refine g_aload_n S dX6_takeFor_84 rfl ?_
          refine g_aload_n S dX6_takeFor_85 rfl ?_
          refine m_getf S hK 34 (by decide) (S.2.2.2.2 _ (List.mem_of_getElem? (i := 6) rfl)) rfl dX6_takeFor_86 ?_
          refine g_iload S dX6_takeFor_89 rfl ?_
          refine m_iald S hK (by decide) (by first | assumption | exact or_vin (hw 28 _) c_57) dX6_takeFor_91 ?_
          refine g_aload_n S dX6_takeFor_92 rfl ?_
          refine m_getf S hK 22 (by decide) (S.2.2.2.2 _ (List.mem_of_getElem? (i := 3) rfl)) rfl dX6_takeFor_93 ?_
          refine g_iload_n S dX6_takeFor_96 rfl ?_
          refine m_iald S hK (by decide) (by first | assumption | exact or_vin (hw 28 _) c_57) dX6_takeFor_97 ?_
          refine g_iload S dX6_takeFor_98 rfl ?_
          refine g_i2l S dX6_takeFor_100 ?_
          refine g_aload_n S dX6_takeFor_101 rfl ?_
          refine m_getf S hK 40 (by decide) (S.2.2.2.2 _ (List.mem_of_getElem? (i := 7) rfl)) rfl dX6_takeFor_102 ?_
          refine g_iload S dX6_takeFor_105 rfl ?_
          refine m_iald S hK (by decide) (by first | assumption | exact or_vin (hw 28 _) c_57) dX6_takeFor_107 ?_
          refine g_i2l S dX6_takeFor_108 ?_
          refine g_lmul S dX6_takeFor_109 ?_
          refine g_cVv S (c_mpay l D ty A mo ad _ _ _ _ (by first | exact hw 14 _ | exact hw 34 _) (by exact hw 22 _)) (cwV 3 S.2.2.2.2 gX6_takeFor_X6_pay rfl rfl rfl (by decide +kernel) ⟨Nat.le_of_ble_eq_true rfl, Nat.le_of_ble_eq_true rfl⟩) hK hE (fun H h => h) (m_recv hK) rfl (Nat.le_of_ble_eq_true rfl) dX6_takeFor_110 ⟨Nat.le_of_ble_eq_true rfl, Nat.le_of_ble_eq_true rfl⟩ ?_
          refine g_aload_n S dX6_takeFor_113 rfl ?_
          refine m_getf S hK 42 (by decide) (S.2.2.2.2 _ (List.mem_of_getElem? (i := 8) rfl)) rfl dX6_takeFor_114 ?_
          refine g_iload S dX6_takeFor_117 rfl ?_
          refine g_dup2_11 S dX6_takeFor_119 rfl rfl ?_
          refine m_iald S hK (by decide) (by first | assumption | exact or_vin (hw 28 _) c_57) dX6_takeFor_120 ?_
          refine g_iload S dX6_takeFor_121 rfl ?_
          refine g_isub S dX6_takeFor_123 ?_
          refine m_iast S hK (by decide) (by first | assumption | exact or_vin (hw 28 _) c_57) dX6_takeFor_124 ?_
          refine g_aload_n S dX6_takeFor_125 rfl ?_
          refine m_getf S hK 43 (by decide) (S.2.2.2.2 _ (List.mem_of_getElem? (i := 9) rfl)) rfl dX6_takeFor_126 ?_
          refine g_iload S dX6_takeFor_129 rfl ?_
          refine g_dup2_11 S dX6_takeFor_131 rfl rfl ?_
          refine m_iald S hK (by decide) (by first | assumption | exact or_vin (hw 28 _) c_57) dX6_takeFor_132 ?_
          refine g_iload S dX6_takeFor_133 rfl ?_
          refine g_iadd S dX6_takeFor_135 ?_
          refine m_iast S hK (by decide) (by first | assumption | exact or_vin (hw 28 _) c_57) dX6_takeFor_136 ?_
          refine g_aload_n S dX6_takeFor_137 rfl ?_
          refine g_iload_n S dX6_takeFor_138 rfl ?_
          refine g_iload S dX6_takeFor_139 rfl ?_
          refine g_iconst S (v := 1) dX6_takeFor_141 (by decide) ?_
          refine g_cVv S (c_lose l D ty A mo ad _ _ _ (by exact hr0) (by exact hw 23 _)) (cwV 3 S.2.2.2.2 gX6_takeFor_X6_lose rfl rfl rfl (by decide +kernel) ⟨Nat.le_of_ble_eq_true rfl, Nat.le_of_ble_eq_true rfl⟩) hK hE (fun H h => h) (m_recv hK) rfl (Nat.le_of_ble_eq_true rfl) dX6_takeFor_142 ⟨Nat.le_of_ble_eq_true rfl, Nat.le_of_ble_eq_true rfl⟩ ?_
          refine g_iload_n S dX6_takeFor_145 rfl ?_
          refine g_iload S dX6_takeFor_146 rfl ?_
          refine g_isub S dX6_takeFor_148 ?_
          exact g_iret S hlk hr (fun H h => (by simp only [gRet, mTakeFor, true_and]; rw [show mTakePay a d r (mTakeN a r left) = _ from by simp only [mTakePay, c_32, c_43, c_57, if_true, if_false, reduceIte, Bool.false_eq_true, not_true_eq_false, not_false_eq_true, ite_not, true_and, and_true]; rfl]; exact h)) (Nat.le_refl _) (Nat.le_refl _) dX6_takeFor_149
        · refine g_aload_n S dX6_takeFor_60 rfl ?_
          refine g_iload S dX6_takeFor_61 rfl ?_
          refine g_aload_n S dX6_takeFor_63 rfl ?_
          refine m_getf S hK 22 (by decide) (S.2.2.2.2 _ (List.mem_of_getElem? (i := 3) rfl)) rfl dX6_takeFor_64 ?_
          refine g_iload_n S dX6_takeFor_67 rfl ?_
          refine m_iald S hK (by decide) (by first | assumption | exact or_vin (hw 28 _) c_57) dX6_takeFor_68 ?_
          refine g_iload S dX6_takeFor_69 rfl ?_
          refine g_i2l S dX6_takeFor_71 ?_
          refine g_aload_n S dX6_takeFor_72 rfl ?_
          refine m_getf S hK 3 (by decide) (S.2.2.2.2 _ (List.mem_of_getElem? (i := 5) rfl)) rfl dX6_takeFor_73 ?_
          refine g_i2l S dX6_takeFor_76 ?_
          refine g_lmul S dX6_takeFor_77 ?_
          refine g_cVv S (c_mpay l D ty A mo ad _ _ _ _ (by first | exact hw 14 _ | exact hw 34 _) (by exact hw 22 _)) (cwV 3 S.2.2.2.2 gX6_takeFor_X6_pay rfl rfl rfl (by decide +kernel) ⟨Nat.le_of_ble_eq_true rfl, Nat.le_of_ble_eq_true rfl⟩) hK hE (fun H h => h) (m_recv hK) rfl (Nat.le_of_ble_eq_true rfl) dX6_takeFor_78 ⟨Nat.le_of_ble_eq_true rfl, Nat.le_of_ble_eq_true rfl⟩ ?_
          refine g_goto S (tgt := 137) dX6_takeFor_81 (by decide) ?_
          refine g_aload_n S dX6_takeFor_137 rfl ?_
          refine g_iload_n S dX6_takeFor_138 rfl ?_
          refine g_iload S dX6_takeFor_139 rfl ?_
          refine g_iconst S (v := 1) dX6_takeFor_141 (by decide) ?_
          refine g_cVv S (c_lose l D ty A mo ad _ _ _ (by exact hr0) (by exact hw 23 _)) (cwV 3 S.2.2.2.2 gX6_takeFor_X6_lose rfl rfl rfl (by decide +kernel) ⟨Nat.le_of_ble_eq_true rfl, Nat.le_of_ble_eq_true rfl⟩) hK hE (fun H h => h) (m_recv hK) rfl (Nat.le_of_ble_eq_true rfl) dX6_takeFor_142 ⟨Nat.le_of_ble_eq_true rfl, Nat.le_of_ble_eq_true rfl⟩ ?_
          refine g_iload_n S dX6_takeFor_145 rfl ?_
          refine g_iload S dX6_takeFor_146 rfl ?_
          refine g_isub S dX6_takeFor_148 ?_
          exact g_iret S hlk hr (fun H h => (by simp only [gRet, mTakeFor, true_and]; rw [show mTakePay a d r (mTakeN a r left) = _ from by simp only [mTakePay, c_32, c_43, c_57, if_true, if_false, reduceIte, Bool.false_eq_true, not_true_eq_false, not_false_eq_true, ite_not, true_and, and_true]; rfl]; exact h)) (Nat.le_refl _) (Nat.le_refl _) dX6_takeFor_149
  · refine g_aload_n S dX6_takeFor_10 rfl ?_
    refine m_getf S hK 21 (by decide) (S.2.2.2.2 _ (List.mem_of_getElem? (i := 1) rfl)) rfl dX6_takeFor_11 ?_
    refine g_iload_n S dX6_takeFor_14 rfl ?_
    refine m_iald S hK (by decide) (by first | assumption | exact or_vin (hw 28 _) c_57) dX6_takeFor_15 ?_
    refine g_goto S (tgt := 20) dX6_takeFor_16 (by decide) ?_
    have e20 : gA a 21 r = mTakeN a r left := by rw [mTakeN, if_neg c_7]
    refine g_st (congrArg (fun z : Int32 => [Value.int z]) e20) ?_
    refine g_istore S dX6_takeFor_20 (by decide) rfl ?_
    refine g_aload_n S dX6_takeFor_22 rfl ?_
    refine m_getf S hK 14 (by decide) (S.2.2.2.2 _ (List.mem_of_getElem? (i := 2) rfl)) rfl dX6_takeFor_23 ?_
    refine g_iload_n S dX6_takeFor_26 rfl ?_
    refine m_iald S hK (by decide) (by first | assumption | exact or_vin (hw 28 _) c_57) dX6_takeFor_27 ?_
    refine g_istore S dX6_takeFor_28 (by decide) rfl ?_
    refine g_iload S dX6_takeFor_30 rfl ?_
    refine g_if_le S (tgt := 137) dX6_takeFor_32 (by decide) (fun c_32 => ?_) (fun c_32 => ?_)
    · refine g_aload_n S dX6_takeFor_137 rfl ?_
      refine g_iload_n S dX6_takeFor_138 rfl ?_
      refine g_iload S dX6_takeFor_139 rfl ?_
      refine g_iconst S (v := 1) dX6_takeFor_141 (by decide) ?_
      refine g_cVv S (c_lose l D ty A mo ad _ _ _ (by exact hr0) (by exact hw 23 _)) (cwV 3 S.2.2.2.2 gX6_takeFor_X6_lose rfl rfl rfl (by decide +kernel) ⟨Nat.le_of_ble_eq_true rfl, Nat.le_of_ble_eq_true rfl⟩) hK hE (fun H h => h) (m_recv hK) rfl (Nat.le_of_ble_eq_true rfl) dX6_takeFor_142 ⟨Nat.le_of_ble_eq_true rfl, Nat.le_of_ble_eq_true rfl⟩ ?_
      refine g_iload_n S dX6_takeFor_145 rfl ?_
      refine g_iload S dX6_takeFor_146 rfl ?_
      refine g_isub S dX6_takeFor_148 ?_
      exact g_iret S hlk hr (fun H h => (by simp only [gRet, mTakeFor, true_and]; rw [show mTakePay a d r (mTakeN a r left) = _ from by simp only [mTakePay, c_32, if_true, if_false, reduceIte, Bool.false_eq_true, not_true_eq_false, not_false_eq_true, ite_not, true_and, and_true]; rfl]; exact h)) (Nat.le_refl _) (Nat.le_refl _) dX6_takeFor_149
    · refine g_aload_n S dX6_takeFor_35 rfl ?_
      refine m_getf S hK 22 (by decide) (S.2.2.2.2 _ (List.mem_of_getElem? (i := 3) rfl)) rfl dX6_takeFor_36 ?_
      refine g_iload_n S dX6_takeFor_39 rfl ?_
      refine m_iald S hK (by decide) (by first | assumption | exact or_vin (hw 28 _) c_57) dX6_takeFor_40 ?_
      refine g_iload S dX6_takeFor_41 rfl ?_
      refine g_icmp_eq S (tgt := 137) dX6_takeFor_43 (by decide) (fun c_43 => ?_) (fun c_43 => ?_)
      · refine g_aload_n S dX6_takeFor_137 rfl ?_
        refine g_iload_n S dX6_takeFor_138 rfl ?_
        refine g_iload S dX6_takeFor_139 rfl ?_
        refine g_iconst S (v := 1) dX6_takeFor_141 (by decide) ?_
        refine g_cVv S (c_lose l D ty A mo ad _ _ _ (by exact hr0) (by exact hw 23 _)) (cwV 3 S.2.2.2.2 gX6_takeFor_X6_lose rfl rfl rfl (by decide +kernel) ⟨Nat.le_of_ble_eq_true rfl, Nat.le_of_ble_eq_true rfl⟩) hK hE (fun H h => h) (m_recv hK) rfl (Nat.le_of_ble_eq_true rfl) dX6_takeFor_142 ⟨Nat.le_of_ble_eq_true rfl, Nat.le_of_ble_eq_true rfl⟩ ?_
        refine g_iload_n S dX6_takeFor_145 rfl ?_
        refine g_iload S dX6_takeFor_146 rfl ?_
        refine g_isub S dX6_takeFor_148 ?_
        exact g_iret S hlk hr (fun H h => (by simp only [gRet, mTakeFor, true_and]; rw [show mTakePay a d r (mTakeN a r left) = _ from by simp only [mTakePay, c_32, c_43, if_true, if_false, reduceIte, Bool.false_eq_true, not_true_eq_false, not_false_eq_true, ite_not, true_and, and_true]; rfl]; exact h)) (Nat.le_refl _) (Nat.le_refl _) dX6_takeFor_149
      · refine g_aload_n S dX6_takeFor_46 rfl ?_
        refine m_getf S hK 28 (by decide) (S.2.2.2.2 _ (List.mem_of_getElem? (i := 4) rfl)) rfl dX6_takeFor_47 ?_
        refine g_iload_n S dX6_takeFor_50 rfl ?_
        refine m_iald S hK (by decide) (by first | assumption | exact or_vin (hw 28 _) c_57) dX6_takeFor_51 ?_
        refine g_istore S dX6_takeFor_52 (by decide) rfl ?_
        refine g_iload S dX6_takeFor_54 rfl ?_
        refine g_iconst S (v := (-1)) dX6_takeFor_56 (by decide) ?_
        refine g_icmp_ne S (tgt := 84) dX6_takeFor_57 (by decide) (fun c_57 => ?_) (fun c_57 => ?_)
        · refine g_aload_n S dX6_takeFor_84 rfl ?_
          refine g_aload_n S dX6_takeFor_85 rfl ?_
          refine m_getf S hK 34 (by decide) (S.2.2.2.2 _ (List.mem_of_getElem? (i := 6) rfl)) rfl dX6_takeFor_86 ?_
          refine g_iload S dX6_takeFor_89 rfl ?_
          refine m_iald S hK (by decide) (by first | assumption | exact or_vin (hw 28 _) c_57) dX6_takeFor_91 ?_
          refine g_aload_n S dX6_takeFor_92 rfl ?_
          refine m_getf S hK 22 (by decide) (S.2.2.2.2 _ (List.mem_of_getElem? (i := 3) rfl)) rfl dX6_takeFor_93 ?_
          refine g_iload_n S dX6_takeFor_96 rfl ?_
          refine m_iald S hK (by decide) (by first | assumption | exact or_vin (hw 28 _) c_57) dX6_takeFor_97 ?_
          refine g_iload S dX6_takeFor_98 rfl ?_
          refine g_i2l S dX6_takeFor_100 ?_
          refine g_aload_n S dX6_takeFor_101 rfl ?_
          refine m_getf S hK 40 (by decide) (S.2.2.2.2 _ (List.mem_of_getElem? (i := 7) rfl)) rfl dX6_takeFor_102 ?_
          refine g_iload S dX6_takeFor_105 rfl ?_
          refine m_iald S hK (by decide) (by first | assumption | exact or_vin (hw 28 _) c_57) dX6_takeFor_107 ?_
          refine g_i2l S dX6_takeFor_108 ?_
          refine g_lmul S dX6_takeFor_109 ?_
          refine g_cVv S (c_mpay l D ty A mo ad _ _ _ _ (by first | exact hw 14 _ | exact hw 34 _) (by exact hw 22 _)) (cwV 3 S.2.2.2.2 gX6_takeFor_X6_pay rfl rfl rfl (by decide +kernel) ⟨Nat.le_of_ble_eq_true rfl, Nat.le_of_ble_eq_true rfl⟩) hK hE (fun H h => h) (m_recv hK) rfl (Nat.le_of_ble_eq_true rfl) dX6_takeFor_110 ⟨Nat.le_of_ble_eq_true rfl, Nat.le_of_ble_eq_true rfl⟩ ?_
          refine g_aload_n S dX6_takeFor_113 rfl ?_
          refine m_getf S hK 42 (by decide) (S.2.2.2.2 _ (List.mem_of_getElem? (i := 8) rfl)) rfl dX6_takeFor_114 ?_
          refine g_iload S dX6_takeFor_117 rfl ?_
          refine g_dup2_11 S dX6_takeFor_119 rfl rfl ?_
          refine m_iald S hK (by decide) (by first | assumption | exact or_vin (hw 28 _) c_57) dX6_takeFor_120 ?_
          refine g_iload S dX6_takeFor_121 rfl ?_
          refine g_isub S dX6_takeFor_123 ?_
          refine m_iast S hK (by decide) (by first | assumption | exact or_vin (hw 28 _) c_57) dX6_takeFor_124 ?_
          refine g_aload_n S dX6_takeFor_125 rfl ?_
          refine m_getf S hK 43 (by decide) (S.2.2.2.2 _ (List.mem_of_getElem? (i := 9) rfl)) rfl dX6_takeFor_126 ?_
          refine g_iload S dX6_takeFor_129 rfl ?_
          refine g_dup2_11 S dX6_takeFor_131 rfl rfl ?_
          refine m_iald S hK (by decide) (by first | assumption | exact or_vin (hw 28 _) c_57) dX6_takeFor_132 ?_
          refine g_iload S dX6_takeFor_133 rfl ?_
          refine g_iadd S dX6_takeFor_135 ?_
          refine m_iast S hK (by decide) (by first | assumption | exact or_vin (hw 28 _) c_57) dX6_takeFor_136 ?_
          refine g_aload_n S dX6_takeFor_137 rfl ?_
          refine g_iload_n S dX6_takeFor_138 rfl ?_
          refine g_iload S dX6_takeFor_139 rfl ?_
          refine g_iconst S (v := 1) dX6_takeFor_141 (by decide) ?_
          refine g_cVv S (c_lose l D ty A mo ad _ _ _ (by exact hr0) (by exact hw 23 _)) (cwV 3 S.2.2.2.2 gX6_takeFor_X6_lose rfl rfl rfl (by decide +kernel) ⟨Nat.le_of_ble_eq_true rfl, Nat.le_of_ble_eq_true rfl⟩) hK hE (fun H h => h) (m_recv hK) rfl (Nat.le_of_ble_eq_true rfl) dX6_takeFor_142 ⟨Nat.le_of_ble_eq_true rfl, Nat.le_of_ble_eq_true rfl⟩ ?_
          refine g_iload_n S dX6_takeFor_145 rfl ?_
          refine g_iload S dX6_takeFor_146 rfl ?_
          refine g_isub S dX6_takeFor_148 ?_
          exact g_iret S hlk hr (fun H h => (by simp only [gRet, mTakeFor, true_and]; rw [show mTakePay a d r (mTakeN a r left) = _ from by simp only [mTakePay, c_32, c_43, c_57, if_true, if_false, reduceIte, Bool.false_eq_true, not_true_eq_false, not_false_eq_true, ite_not, true_and, and_true]; rfl]; exact h)) (Nat.le_refl _) (Nat.le_refl _) dX6_takeFor_149
        · refine g_aload_n S dX6_takeFor_60 rfl ?_
          refine g_iload S dX6_takeFor_61 rfl ?_
          refine g_aload_n S dX6_takeFor_63 rfl ?_
          refine m_getf S hK 22 (by decide) (S.2.2.2.2 _ (List.mem_of_getElem? (i := 3) rfl)) rfl dX6_takeFor_64 ?_
          refine g_iload_n S dX6_takeFor_67 rfl ?_
          refine m_iald S hK (by decide) (by first | assumption | exact or_vin (hw 28 _) c_57) dX6_takeFor_68 ?_
          refine g_iload S dX6_takeFor_69 rfl ?_
          refine g_i2l S dX6_takeFor_71 ?_
          refine g_aload_n S dX6_takeFor_72 rfl ?_
          refine m_getf S hK 3 (by decide) (S.2.2.2.2 _ (List.mem_of_getElem? (i := 5) rfl)) rfl dX6_takeFor_73 ?_
          refine g_i2l S dX6_takeFor_76 ?_
          refine g_lmul S dX6_takeFor_77 ?_
          refine g_cVv S (c_mpay l D ty A mo ad _ _ _ _ (by first | exact hw 14 _ | exact hw 34 _) (by exact hw 22 _)) (cwV 3 S.2.2.2.2 gX6_takeFor_X6_pay rfl rfl rfl (by decide +kernel) ⟨Nat.le_of_ble_eq_true rfl, Nat.le_of_ble_eq_true rfl⟩) hK hE (fun H h => h) (m_recv hK) rfl (Nat.le_of_ble_eq_true rfl) dX6_takeFor_78 ⟨Nat.le_of_ble_eq_true rfl, Nat.le_of_ble_eq_true rfl⟩ ?_
          refine g_goto S (tgt := 137) dX6_takeFor_81 (by decide) ?_
          refine g_aload_n S dX6_takeFor_137 rfl ?_
          refine g_iload_n S dX6_takeFor_138 rfl ?_
          refine g_iload S dX6_takeFor_139 rfl ?_
          refine g_iconst S (v := 1) dX6_takeFor_141 (by decide) ?_
          refine g_cVv S (c_lose l D ty A mo ad _ _ _ (by exact hr0) (by exact hw 23 _)) (cwV 3 S.2.2.2.2 gX6_takeFor_X6_lose rfl rfl rfl (by decide +kernel) ⟨Nat.le_of_ble_eq_true rfl, Nat.le_of_ble_eq_true rfl⟩) hK hE (fun H h => h) (m_recv hK) rfl (Nat.le_of_ble_eq_true rfl) dX6_takeFor_142 ⟨Nat.le_of_ble_eq_true rfl, Nat.le_of_ble_eq_true rfl⟩ ?_
          refine g_iload_n S dX6_takeFor_145 rfl ?_
          refine g_iload S dX6_takeFor_146 rfl ?_
          refine g_isub S dX6_takeFor_148 ?_
          exact g_iret S hlk hr (fun H h => (by simp only [gRet, mTakeFor, true_and]; rw [show mTakePay a d r (mTakeN a r left) = _ from by simp only [mTakePay, c_32, c_43, c_57, if_true, if_false, reduceIte, Bool.false_eq_true, not_true_eq_false, not_false_eq_true, ite_not, true_and, and_true]; rfl]; exact h)) (Nat.le_refl _) (Nat.le_refl _) dX6_takeFor_149

