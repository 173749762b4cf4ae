def mDry (kg mo : Int32) : Int32 := if mo ≤ 140 then kg else (kg.toInt64 * (1000 - mo).toInt64 / 860).toInt32
def mIsOf (a : MS) (s g r : Int32) : Bool := decide (0 < gA a 9 s) && (decide (gA a 10 s = g) && decide (gA a 11 s = r))
abbrev rmX6_dryOf : Room := { frames := 0, cells := 0, slots := 0, locals := 0 }
set_option maxHeartbeats 4000000 in
set_option maxRecDepth 100000 in
theorem c_dryOf (l : Launch) (D : va_G) (ty : Nat → ClassId) (A : Nat → Prop) (P : Heap → Prop) (kg mo : Int32) : Met l yX6_dryOf wsX6_dryOf rmX6_dryOf (gPc D ty false [] 0 A [.int kg, .int mo] P) (gQ A (gRet (some (.int (mDry kg mo))) P)) 0 0 A := by
  refine g_Met (cc := cX6_dryOf) (maxL := 2) (ret := (some .int)) [some (.int kg), some (.int mo)] (by decide) rfl (Nat.le_of_ble_eq_true rfl) rfl ?_
  intro p e s m args below meth c S hlk hr hnm hK hE hP0
  have S : CallFix p m c cX6_dryOf 2 s args wsX6_dryOf RX6 := S
  refine g_iload_n S dX6_dryOf_0 rfl ?_
  refine g_sipush S (v := 140) dX6_dryOf_1 (by decide) ?_
  refine g_icmp_gt S (tgt := 11) dX6_dryOf_4 (by decide) (fun c_4 => ?_) (fun c_4 => ?_)
  · refine g_iload_n S dX6_dryOf_11 rfl ?_
    refine g_i2l S dX6_dryOf_12 ?_
    refine g_sipush S (v := 1000) dX6_dryOf_13 (by decide) ?_
    refine g_iload_n S dX6_dryOf_16 rfl ?_
    refine g_isub S dX6_dryOf_17 ?_
    refine g_i2l S dX6_dryOf_18 ?_
    refine g_lmul S dX6_dryOf_19 ?_
    refine g_ldc2 S (S.2.2.2.2 _ (List.mem_of_getElem? (i := 1) rfl)) dX6_dryOf_20 ?_
    refine g_ldiv S dX6_dryOf_23 (by decide) ?_
    refine g_l2i S dX6_dryOf_24 ?_
    exact g_iret S hlk hr (fun H h => ⟨by rw [mDry, if_neg (Int32.not_le.mpr c_4)], h⟩) (Nat.le_refl _) (Nat.le_refl _) dX6_dryOf_25
  · refine g_iload_n S dX6_dryOf_7 rfl ?_
    refine g_goto S (tgt := 25) dX6_dryOf_8 (by decide) ?_
    exact g_iret S hlk hr (fun H h => ⟨by rw [mDry, if_pos (Int32.not_lt.mp c_4)], h⟩) (Nat.le_refl _) (Nat.le_refl _) dX6_dryOf_25

abbrev rmX6_isOf : Room := { frames := 0, cells := 0, slots := 0, locals := 0 }
set_option maxHeartbeats 4000000 in
set_option maxRecDepth 100000 in
theorem c_isOf (l : Launch) (D : va_G) (ty : Nat → ClassId) (A : Nat → Prop) (mo : Nat) (ad : Nat → Nat) (a : MS) (s9 g r : Int32) (hs : vp_in s9 6) : Met l yX6_isOf wsX6_isOf rmX6_isOf (gPc D ty false [] 0 A [.ref mo, .int s9, .int g, .int r] (hM D ty A mo ad a)) (gQ A (gRet (some (.int (b2 (mIsOf a s9 g r)))) (hM D ty A mo ad a))) 0 0 A := by
  refine g_Met (cc := cX6_isOf) (maxL := 4) (ret := (some .boolean)) [some (.ref mo), some (.int s9), some (.int g), some (.int r)] (by decide) rfl (Nat.le_of_ble_eq_true rfl) rfl ?_
  intro p e s m args below meth c S hlk hr hnm hK hE hP0
  have S : CallFix p m c cX6_isOf 4 s args wsX6_isOf RX6 := S
  refine g_aload_n S dX6_isOf_0 rfl ?_
  refine m_getf S hK 9 (by decide) (S.2.2.2.2 _ (List.mem_of_getElem? (i := 1) rfl)) rfl dX6_isOf_1 ?_
  refine g_iload_n S dX6_isOf_4 rfl ?_
  refine m_iald S hK (by decide) (by first | assumption | decide) dX6_isOf_5 ?_
  refine g_if_le S (tgt := 33) dX6_isOf_6 (by decide) (fun c_6 => ?_) (fun c_6 => ?_)
  · refine g_iconst S (v := 0) dX6_isOf_33 (by decide) ?_
    exact g_zret S hlk hr (by first | rfl | exact nar_b2 _) (fun H h => ⟨by simp [mIsOf, b2, Int32.not_lt.mpr c_6], h⟩) (Nat.le_refl _) (Nat.le_refl _) dX6_isOf_34
  · refine g_aload_n S dX6_isOf_9 rfl ?_
    refine m_getf S hK 10 (by decide) (S.2.2.2.2 _ (List.mem_of_getElem? (i := 2) rfl)) rfl dX6_isOf_10 ?_
    refine g_iload_n S dX6_isOf_13 rfl ?_
    refine m_iald S hK (by decide) (by first | assumption | decide) dX6_isOf_14 ?_
    refine g_iload_n S dX6_isOf_15 rfl ?_
    refine g_icmp_ne S (tgt := 33) dX6_isOf_16 (by decide) (fun c_16 => ?_) (fun c_16 => ?_)
    · refine g_iconst S (v := 0) dX6_isOf_33 (by decide) ?_
      exact g_zret S hlk hr (by first | rfl | exact nar_b2 _) (fun H h => ⟨by simp [mIsOf, b2, Int32.not_le.mp c_6, c_16], h⟩) (Nat.le_refl _) (Nat.le_refl _) dX6_isOf_34
    · refine g_aload_n S dX6_isOf_19 rfl ?_
      refine m_getf S hK 11 (by decide) (S.2.2.2.2 _ (List.mem_of_getElem? (i := 3) rfl)) rfl dX6_isOf_20 ?_
      refine g_iload_n S dX6_isOf_23 rfl ?_
      refine m_iald S hK (by decide) (by first | assumption | decide) dX6_isOf_24 ?_
      refine g_iload_n S dX6_isOf_25 rfl ?_
      refine g_icmp_ne S (tgt := 33) dX6_isOf_26 (by decide) (fun c_26 => ?_) (fun c_26 => ?_)
      · refine g_iconst S (v := 0) dX6_isOf_33 (by decide) ?_
        exact g_zret S hlk hr (by first | rfl | exact nar_b2 _) (fun H h => ⟨by simp [mIsOf, b2, Int32.not_le.mp c_6, c_16, c_26], h⟩) (Nat.le_refl _) (Nat.le_refl _) dX6_isOf_34
      · refine g_iconst S (v := 1) dX6_isOf_29 (by decide) ?_
        refine g_goto S (tgt := 34) dX6_isOf_30 (by decide) ?_
        exact g_zret S hlk hr (by first | rfl | exact nar_b2 _) (fun H h => ⟨by simp [mIsOf, b2, Int32.not_le.mp c_6, c_16, c_26], h⟩) (Nat.le_refl _) (Nat.le_refl _) dX6_isOf_34

def mLose (a : MS) (r much : Int32) : MS :=
  let a1 := mX a 21 r (gA a 21 r - much)
  let a2 := mX a1 9 (gA a1 23 r) (gA a1 9 (gA a1 23 r) - much)
  mX a2 25 r (if gA a2 21 r = 0 then (-1) else gA a2 25 r)
abbrev rmX6_lose : Room := { frames := 0, cells := 0, slots := 0, locals := 0 }
set_option maxHeartbeats 4000000 in
set_option maxRecDepth 100000 in
theorem c_lose (l : Launch) (D : va_G) (ty : Nat → ClassId) (A : Nat → Prop) (mo : Nat) (ad : Nat → Nat) (a : MS) (r much : Int32) (hr0 : vp_in r 80) (hs : vp_in (gA a 23 r) 6) : Met l yX6_lose wsX6_lose rmX6_lose (gPc D ty false [] 0 A [.ref mo, .int r, .int much, .int 1] (hM D ty A mo ad a)) (gQ A (gRet none (hM D ty A mo ad (mLose a r much)))) 0 0 A := by
  refine g_Met (cc := cX6_lose) (maxL := 4) (ret := none) [some (.ref mo), some (.int r), some (.int much), some (.int 1)] (by decide) rfl (Nat.le_of_ble_eq_true rfl) rfl ?_
  intro p e s m args below meth c S hlk hr hnm hK hE hP0
  have S : CallFix p m c cX6_lose 4 s args wsX6_lose RX6 := S
  refine g_aload_n S dX6_lose_0 rfl ?_
  refine m_getf S hK 21 (by decide) (S.2.2.2.2 _ (List.mem_of_getElem? (i := 1) rfl)) rfl dX6_lose_1 ?_
  refine g_iload_n S dX6_lose_4 rfl ?_
  refine g_dup2_11 S dX6_lose_5 rfl rfl ?_
  refine m_iald S hK (by decide) (by first | assumption | exact hs) dX6_lose_6 ?_
  refine g_iload_n S dX6_lose_7 rfl ?_
  refine g_isub S dX6_lose_8 ?_
  refine m_iast S hK (by decide) (by first | assumption | exact hs) dX6_lose_9 ?_
  refine g_aload_n S dX6_lose_10 rfl ?_
  refine m_getf S hK 9 (by decide) (S.2.2.2.2 _ (List.mem_of_getElem? (i := 2) rfl)) rfl dX6_lose_11 ?_
  refine g_aload_n S dX6_lose_14 rfl ?_
  refine m_getf S hK 23 (by decide) (S.2.2.2.2 _ (List.mem_of_getElem? (i := 3) rfl)) rfl dX6_lose_15 ?_
  refine g_iload_n S dX6_lose_18 rfl ?_
  refine m_iald S hK (by decide) (by first | assumption | exact hs) dX6_lose_19 ?_
  refine g_dup2_11 S dX6_lose_20 rfl rfl ?_
  refine m_iald S hK (by decide) (by first | assumption | exact hs) dX6_lose_21 ?_
  refine g_iload_n S dX6_lose_22 rfl ?_
  refine g_if_eq S (tgt := 30) dX6_lose_23 (by decide) (fun c_23 => ?_) (fun c_23 => ?_)
  · exact absurd c_23 (by decide)
  · refine g_iload_n S dX6_lose_26 rfl ?_
    refine g_goto S (tgt := 31) dX6_lose_27 (by decide) ?_
    refine g_isub S dX6_lose_31 ?_
    refine m_iast S hK (by decide) (by first | assumption | exact hs) dX6_lose_32 ?_
    refine g_aload_n S dX6_lose_33 rfl ?_
    refine m_getf S hK 25 (by decide) (S.2.2.2.2 _ (List.mem_of_getElem? (i := 4) rfl)) rfl dX6_lose_34 ?_
    refine g_iload_n S dX6_lose_37 rfl ?_
    refine g_aload_n S dX6_lose_38 rfl ?_
    refine m_getf S hK 21 (by decide) (S.2.2.2.2 _ (List.mem_of_getElem? (i := 1) rfl)) rfl dX6_lose_39 ?_
    refine g_iload_n S dX6_lose_42 rfl ?_
    refine m_iald S hK (by decide) (by first | assumption | exact hs) dX6_lose_43 ?_
    refine g_if_ne S (tgt := 51) dX6_lose_44 (by decide) (fun c_44 => ?_) (fun c_44 => ?_)
    · refine g_aload_n S dX6_lose_51 rfl ?_
      refine m_getf S hK 25 (by decide) (S.2.2.2.2 _ (List.mem_of_getElem? (i := 4) rfl)) rfl dX6_lose_52 ?_
      refine g_iload_n S dX6_lose_55 rfl ?_
      refine m_iald S hK (by decide) (by first | assumption | exact hs) dX6_lose_56 ?_
      refine m_iast S hK (by decide) (by first | assumption | exact hs) dX6_lose_57 ?_
      exact g_vret S hlk hr (fun H h => ⟨rfl, by simp only [mLose]; rw [if_neg c_44]; exact h⟩) (Nat.le_refl _) (Nat.le_refl _) dX6_lose_58
    · refine g_iconst S (v := (-1)) dX6_lose_47 (by decide) ?_
      refine g_goto S (tgt := 57) dX6_lose_48 (by decide) ?_
      refine m_iast S hK (by decide) (by first | assumption | exact hs) dX6_lose_57 ?_
      exact g_vret S hlk hr (fun H h => ⟨rfl, by simp only [mLose]; rw [if_pos c_44]; exact h⟩) (Nat.le_refl _) (Nat.le_refl _) dX6_lose_58

def mMake (a : MS) (much who s d : Int32) : MS :=
  let a1 := mX a 21 (gS a 20) much
  let a2 := mX a1 23 (gS a1 20) s
  let a3 := mX a2 24 (gS a2 20) d
  let a4 := mX a3 25 (gS a3 20) (-1)
  let a5 := mS a4 20 (gS a4 20 + 1)
  mBecome a5 (gS a5 20 - 1) who
abbrev rmX6_make : Room := { frames := 1, cells := 0, slots := 0, locals := 22 }
set_option maxHeartbeats 4000000 in
set_option maxRecDepth 100000 in
theorem c_make (l : Launch) (D : va_G) (ty : Nat → ClassId) (A : Nat → Prop) (mo : Nat) (ad : Nat → Nat) (a : MS) (much who s9 d : Int32) (hn : vp_in (gS a 20) 80) (hc : vp_in (gS a 29) 6000) : Met l yX6_make wsX6_make rmX6_make (gPc D ty false [] 0 A [.ref mo, .int much, .int who, .int s9, .int d] (hM D ty A mo ad a)) (gQ A (gRet (some (.int (gS a 20))) (hM D ty A mo ad (mMake a much who s9 d)))) 0 0 A := by
  refine g_Met (cc := cX6_make) (maxL := 5) (ret := (some .int)) [some (.ref mo), some (.int much), some (.int who), some (.int s9), some (.int d)] (by decide) rfl (Nat.le_of_ble_eq_true rfl) rfl ?_
  intro p e s m args below meth c S hlk hr hnm hK hE hP0
  have S : CallFix p m c cX6_make 5 s args wsX6_make RX6 := S
  refine g_aload_n S dX6_make_0 rfl ?_
  refine m_getf S hK 21 (by decide) (S.2.2.2.2 _ (List.mem_of_getElem? (i := 1) rfl)) rfl dX6_make_1 ?_
  refine g_aload_n S dX6_make_4 rfl ?_
  refine m_getf S hK 20 (by decide) (S.2.2.2.2 _ (List.mem_of_getElem? (i := 2) rfl)) rfl dX6_make_5 ?_
  refine g_iload_n S dX6_make_8 rfl ?_
  refine m_iast S hK (by decide) (by first | assumption | exact hn) dX6_make_9 ?_
  refine g_aload_n S dX6_make_10 rfl ?_
  refine m_getf S hK 23 (by decide) (S.2.2.2.2 _ (List.mem_of_getElem? (i := 3) rfl)) rfl dX6_make_11 ?_
  refine g_aload_n S dX6_make_14 rfl ?_
  refine m_getf S hK 20 (by decide) (S.2.2.2.2 _ (List.mem_of_getElem? (i := 2) rfl)) rfl dX6_make_15 ?_
  refine g_iload_n S dX6_make_18 rfl ?_
  refine m_iast S hK (by decide) (by first | assumption | exact hn) dX6_make_19 ?_
  refine g_aload_n S dX6_make_20 rfl ?_
  refine m_getf S hK 24 (by decide) (S.2.2.2.2 _ (List.mem_of_getElem? (i := 4) rfl)) rfl dX6_make_21 ?_
  refine g_aload_n S dX6_make_24 rfl ?_
  refine m_getf S hK 20 (by decide) (S.2.2.2.2 _ (List.mem_of_getElem? (i := 2) rfl)) rfl dX6_make_25 ?_
  refine g_iload S dX6_make_28 rfl ?_
  refine m_iast S hK (by decide) (by first | assumption | exact hn) dX6_make_30 ?_
  refine g_aload_n S dX6_make_31 rfl ?_
  refine m_getf S hK 25 (by decide) (S.2.2.2.2 _ (List.mem_of_getElem? (i := 5) rfl)) rfl dX6_make_32 ?_
  refine g_aload_n S dX6_make_35 rfl ?_
  refine m_getf S hK 20 (by decide) (S.2.2.2.2 _ (List.mem_of_getElem? (i := 2) rfl)) rfl dX6_make_36 ?_
  refine g_iconst S (v := (-1)) dX6_make_39 (by decide) ?_
  refine m_iast S hK (by decide) (by first | assumption | exact hn) dX6_make_40 ?_
  refine g_aload_n S dX6_make_41 rfl ?_
  refine g_dup S dX6_make_42 rfl ?_
  refine m_getf S hK 20 (by decide) (S.2.2.2.2 _ (List.mem_of_getElem? (i := 2) rfl)) rfl dX6_make_43 ?_
  refine g_iconst S (v := 1) dX6_make_46 (by decide) ?_
  refine g_iadd S dX6_make_47 ?_
  refine m_puts S hK 20 (by decide) (S.2.2.2.2 _ (List.mem_of_getElem? (i := 2) rfl)) dX6_make_48 ?_
  refine g_aload_n S dX6_make_51 rfl ?_
  refine g_aload_n S dX6_make_52 rfl ?_
  refine m_getf S hK 20 (by decide) (S.2.2.2.2 _ (List.mem_of_getElem? (i := 2) rfl)) rfl dX6_make_53 ?_
  refine g_iconst S (v := 1) dX6_make_56 (by decide) ?_
  refine g_isub S dX6_make_57 ?_
  refine g_iload_n S dX6_make_58 rfl ?_
  refine g_cVv S (c_become l D ty A mo ad _ _ _ (by exact mk_in (x := gS a 20) hn) (by exact hc)) (cwV 2 S.2.2.2.2 gX6_make_X6_become rfl rfl rfl (by decide +kernel) ⟨Nat.le_of_ble_eq_true rfl, Nat.le_of_ble_eq_true rfl⟩) hK hE (fun H h => h) (m_recv hK) rfl (Nat.le_of_ble_eq_true rfl) dX6_make_59 ⟨Nat.le_of_ble_eq_true rfl, Nat.le_of_ble_eq_true rfl⟩ ?_
  refine g_aload_n S dX6_make_62 rfl ?_
  refine m_getf S hK 20 (by decide) (S.2.2.2.2 _ (List.mem_of_getElem? (i := 2) rfl)) rfl dX6_make_63 ?_
  refine g_iconst S (v := 1) dX6_make_66 (by decide) ?_
  refine g_isub S dX6_make_67 ?_
  exact g_iret S hlk hr (fun H h => ⟨congrArg (fun z => some (Value.int z)) (i_a1 (gS a 20)), h⟩) (Nat.le_refl _) (Nat.le_refl _) dX6_make_68

def mSplitOff (a : MS) (r much : Int32) : MS :=
  let a1 := mX a 21 r (gA a 21 r - much)
  let a2 := mMake a1 much (gA a1 22 r) (gA a1 23 r) (gA a1 24 r)
  mX a2 28 (gS a1 20) (gA a2 28 r)
abbrev rmX6_splitOff : Room := { frames := 2, cells := 0, slots := 0, locals := 46 }
set_option maxHeartbeats 4000000 in
set_option maxRecDepth 100000 in
theorem c_splitOff (l : Launch) (D : va_G) (ty : Nat → ClassId) (A : Nat → Prop) (mo : Nat) (ad : Nat → Nat) (a : MS) (r much : Int32) (hr0 : vp_in r 80) (hn : vp_in (gS a 20) 80) (hc : vp_in (gS a 29) 6000) : Met l yX6_splitOff wsX6_splitOff rmX6_splitOff (gPc D ty false [] 0 A [.ref mo, .int r, .int much] (hM D ty A mo ad a)) (gQ A (gRet (some (.int (gS a 20))) (hM D ty A mo ad (mSplitOff a r much)))) 0 0 A := by
  refine g_Met (cc := cX6_splitOff) (maxL := 4) (ret := (some .int)) [some (.ref mo), some (.int r), some (.int much), none] (by decide) rfl (Nat.le_of_ble_eq_true rfl) rfl ?_
  intro p e s m args below meth c S hlk hr hnm hK hE hP0
  have S : CallFix p m c cX6_splitOff 4 s args wsX6_splitOff RX6 := S
  refine g_aload_n S dX6_splitOff_0 rfl ?_
  refine m_getf S hK 21 (by decide) (S.2.2.2.2 _ (List.mem_of_getElem? (i := 1) rfl)) rfl dX6_splitOff_1 ?_
  refine g_iload_n S dX6_splitOff_4 rfl ?_
  refine g_dup2_11 S dX6_splitOff_5 rfl rfl ?_
  refine m_iald S hK (by decide) (by first | assumption | exact hn) dX6_splitOff_6 ?_
  refine g_iload_n S dX6_splitOff_7 rfl ?_
  refine g_isub S dX6_splitOff_8 ?_
  refine m_iast S hK (by decide) (by first | assumption | exact hn) dX6_splitOff_9 ?_
  refine g_aload_n S dX6_splitOff_10 rfl ?_
  refine g_iload_n S dX6_splitOff_11 rfl ?_
  refine g_aload_n S dX6_splitOff_12 rfl ?_
  refine m_getf S hK 22 (by decide) (S.2.2.2.2 _ (List.mem_of_getElem? (i := 2) rfl)) rfl dX6_splitOff_13 ?_
  refine g_iload_n S dX6_splitOff_16 rfl ?_
  refine m_iald S hK (by decide) (by first | assumption | exact hn) dX6_splitOff_17 ?_
  refine g_aload_n S dX6_splitOff_18 rfl ?_
  refine m_getf S hK 23 (by decide) (S.2.2.2.2 _ (List.mem_of_getElem? (i := 3) rfl)) rfl dX6_splitOff_19 ?_
  refine g_iload_n S dX6_splitOff_22 rfl ?_
  refine m_iald S hK (by decide) (by first | assumption | exact hn) dX6_splitOff_23 ?_
  refine g_aload_n S dX6_splitOff_24 rfl ?_
  refine m_getf S hK 24 (by decide) (S.2.2.2.2 _ (List.mem_of_getElem? (i := 4) rfl)) rfl dX6_splitOff_25 ?_
  refine g_iload_n S dX6_splitOff_28 rfl ?_
  refine m_iald S hK (by decide) (by first | assumption | exact hn) dX6_splitOff_29 ?_
  refine g_cVr S (c_make l D ty A mo ad _ _ _ _ _ (by exact hn) (by exact hc)) (cwV 4 S.2.2.2.2 gX6_splitOff_X6_make rfl rfl rfl (by decide +kernel) ⟨Nat.le_of_ble_eq_true rfl, Nat.le_of_ble_eq_true rfl⟩) hK hE (fun H h => h) (m_recv hK) rfl (Nat.le_of_ble_eq_true rfl) dX6_splitOff_30 ⟨Nat.le_of_ble_eq_true rfl, Nat.le_of_ble_eq_true rfl⟩ ?_
  refine g_istore_n S dX6_splitOff_33 (by decide) rfl ?_
  refine g_aload_n S dX6_splitOff_34 rfl ?_
  refine m_getf S hK 28 (by decide) (S.2.2.2.2 _ (List.mem_of_getElem? (i := 5) rfl)) rfl dX6_splitOff_35 ?_
  refine g_iload_n S dX6_splitOff_38 rfl ?_
  refine g_aload_n S dX6_splitOff_39 rfl ?_
  refine m_getf S hK 28 (by decide) (S.2.2.2.2 _ (List.mem_of_getElem? (i := 5) rfl)) rfl dX6_splitOff_40 ?_
  refine g_iload_n S dX6_splitOff_43 rfl ?_
  refine m_iald S hK (by decide) (by first | assumption | exact hn) dX6_splitOff_44 ?_
  refine m_iast S hK (by decide) (by first | assumption | exact hn) dX6_splitOff_45 ?_
  refine g_iload_n S dX6_splitOff_46 rfl ?_
  exact g_iret S hlk hr (fun H h => ⟨rfl, h⟩) (Nat.le_refl _) (Nat.le_refl _) dX6_splitOff_47

def mSilo (a : MS) (x : Int32) : Int32 × MS :=
  if mIn x 1 1000000 = true then
    if ¬ gS a 7 = 6 then
      let b := mS a 0 0
      let c := mX b 8 (gS b 7) x
      let d := mS c 7 (gS c 7 + 1)
      (gS d 7 - 1, d)
    else (0, mS a 0 2)
  else (0, mS a 0 1)
def mTerms (a : MS) (r f q : Int32) : MS :=
  if mIn r 0 5000 = true then
    if mIn f 0 1000 = true then
      if mIn q 0 1000 = true then mS (mS (mS (mS a 0 0) 2 r) 3 f) 4 q
      else mS a 0 1
    else mS a 0 1
  else mS a 0 1
abbrev rmX6_silo : Room := { frames := 1, cells := 0, slots := 0, locals := 22 }
set_option maxHeartbeats 4000000 in
set_option maxRecDepth 100000 in
theorem c_msilo (l : Launch) (D : va_G) (ty : Nat → ClassId) (A : Nat → Prop) (mo : Nat) (ad : Nat → Nat) (a : MS) (x : Int32) (hw : mWf a) (hn : mCnt a) (hc : vp_in (gS a 29) 5900) : Met l yX6_silo wsX6_silo rmX6_silo (gPc D ty false [] 0 A [.ref mo, .int x] (hM D ty A mo ad a)) (gQ A (gRet (some (.int (mSilo a x).1)) (hM D ty A mo ad (mSilo a x).2))) 0 0 A := by
  refine g_Met (cc := cX6_silo) (maxL := 2) (ret := (some .int)) [some (.ref mo), some (.int x)] (by decide) rfl (Nat.le_of_ble_eq_true rfl) rfl ?_
  intro p e s m args below meth c S hlk hr hnm hK hE hP0
  have S : CallFix p m c cX6_silo 2 s args wsX6_silo RX6 := S
  refine g_aload_n S dX6_silo_0 rfl ?_
  refine g_iload_n S dX6_silo_1 rfl ?_
  refine g_iconst S (v := 1) dX6_silo_2 (by decide) ?_
  refine g_ldc S (S.2.2.2.2 _ (List.mem_of_getElem? (i := 1) rfl)) dX6_silo_3 ?_
  refine g_cSr S (c_in l D ty A _ _ _ _) (va_cwS 3 S.2.2.2.2 gX6_silo_X6_in rfl rfl rfl (by decide +kernel) ⟨Nat.le_of_ble_eq_true rfl, Nat.le_of_ble_eq_true rfl⟩) hK hE (fun H h => h) rfl (Nat.le_of_ble_eq_true rfl) dX6_silo_5 ⟨Nat.le_of_ble_eq_true rfl, Nat.le_of_ble_eq_true rfl⟩ ?_
  refine g_ifb_ne S (tgt := 15) dX6_silo_8 (by decide) (fun c_8 => ?_) (fun c_8 => ?_)
  · refine g_aload_n S dX6_silo_15 rfl ?_
    refine m_getf S hK 7 (by decide) (S.2.2.2.2 _ (List.mem_of_getElem? (i := 2) rfl)) rfl dX6_silo_16 ?_
    refine g_bipush S (v := 6) dX6_silo_19 (by decide) ?_
    refine g_icmp_ne S (tgt := 28) dX6_silo_21 (by decide) (fun c_21 => ?_) (fun c_21 => ?_)
    · refine g_iconst S (v := 0) dX6_silo_28 (by decide) ?_
      refine g_cVr S (c_goesWell l D ty A mo ad _ _) (cwV 1 S.2.2.2.2 gX6_silo_X6_goesWell rfl rfl rfl (by decide +kernel) ⟨Nat.le_of_ble_eq_true rfl, Nat.le_of_ble_eq_true rfl⟩) hK hE (fun H h => h) (m_recv hK) rfl (Nat.le_of_ble_eq_true rfl) dX6_silo_29 ⟨Nat.le_of_ble_eq_true rfl, Nat.le_of_ble_eq_true rfl⟩ ?_
      refine g_if_ne S (tgt := 37) dX6_silo_32 (by decide) (fun c_32 => ?_) (fun c_32 => ?_)
      · refine g_aload_n S dX6_silo_37 rfl ?_
        refine m_getf S hK 8 (by decide) (S.2.2.2.2 _ (List.mem_of_getElem? (i := 3) rfl)) rfl dX6_silo_38 ?_
        refine g_aload_n S dX6_silo_41 rfl ?_
        refine m_getf S hK 7 (by decide) (S.2.2.2.2 _ (List.mem_of_getElem? (i := 2) rfl)) rfl dX6_silo_42 ?_
        refine g_iload_n S dX6_silo_45 rfl ?_
        refine m_iast S hK (by decide) (by exact vin_ne hn.1 (by decide) c_21) dX6_silo_46 ?_
        refine g_aload_n S dX6_silo_47 rfl ?_
        refine g_dup S dX6_silo_48 rfl ?_
        refine m_getf S hK 7 (by decide) (S.2.2.2.2 _ (List.mem_of_getElem? (i := 2) rfl)) rfl dX6_silo_49 ?_
        refine g_iconst S (v := 1) dX6_silo_52 (by decide) ?_
        refine g_iadd S dX6_silo_53 ?_
        refine m_puts S hK 7 (by decide) (S.2.2.2.2 _ (List.mem_of_getElem? (i := 2) rfl)) dX6_silo_54 ?_
        refine g_aload_n S dX6_silo_57 rfl ?_
        refine m_getf S hK 7 (by decide) (S.2.2.2.2 _ (List.mem_of_getElem? (i := 2) rfl)) rfl dX6_silo_58 ?_
        refine g_iconst S (v := 1) dX6_silo_61 (by decide) ?_
        refine g_isub S dX6_silo_62 ?_
        exact g_iret S hlk hr (fun H h => (by simp (config := { decide := true }) only [gRet, mSilo, c_8, c_21, if_true, if_false, reduceIte, Bool.false_eq_true, not_true_eq_false, not_false_eq_true, ite_not, true_and, and_true]; first | exact ⟨rfl, h⟩ | exact h)) (Nat.le_refl _) (Nat.le_refl _) dX6_silo_63
      · exact absurd c_32 (by decide)
    · refine g_iconst S (v := 2) dX6_silo_24 (by decide) ?_
      refine g_goto S (tgt := 29) dX6_silo_25 (by decide) ?_
      refine g_cVr S (c_goesWell l D ty A mo ad _ _) (cwV 1 S.2.2.2.2 gX6_silo_X6_goesWell rfl rfl rfl (by decide +kernel) ⟨Nat.le_of_ble_eq_true rfl, Nat.le_of_ble_eq_true rfl⟩) hK hE (fun H h => h) (m_recv hK) rfl (Nat.le_of_ble_eq_true rfl) dX6_silo_29 ⟨Nat.le_of_ble_eq_true rfl, Nat.le_of_ble_eq_true rfl⟩ ?_
      refine g_if_ne S (tgt := 37) dX6_silo_32 (by decide) (fun c_32 => ?_) (fun c_32 => ?_)
      · exact absurd c_32 (by decide)
      · refine g_iconst S (v := 0) dX6_silo_35 (by decide) ?_
        exact g_iret S hlk hr (fun H h => (by simp (config := { decide := true }) only [gRet, mSilo, c_8, c_21, if_true, if_false, reduceIte, Bool.false_eq_true, not_true_eq_false, not_false_eq_true, ite_not, true_and, and_true]; first | exact ⟨rfl, h⟩ | exact h)) (Nat.le_refl _) (Nat.le_refl _) dX6_silo_36
  · refine g_iconst S (v := 1) dX6_silo_11 (by decide) ?_
    refine g_goto S (tgt := 29) dX6_silo_12 (by decide) ?_
    refine g_cVr S (c_goesWell l D ty A mo ad _ _) (cwV 1 S.2.2.2.2 gX6_silo_X6_goesWell rfl rfl rfl (by decide +kernel) ⟨Nat.le_of_ble_eq_true rfl, Nat.le_of_ble_eq_true rfl⟩) hK hE (fun H h => h) (m_recv hK) rfl (Nat.le_of_ble_eq_true rfl) dX6_silo_29 ⟨Nat.le_of_ble_eq_true rfl, Nat.le_of_ble_eq_true rfl⟩ ?_
    refine g_if_ne S (tgt := 37) dX6_silo_32 (by decide) (fun c_32 => ?_) (fun c_32 => ?_)
    · exact absurd c_32 (by decide)
    · refine g_iconst S (v := 0) dX6_silo_35 (by decide) ?_
      exact g_iret S hlk hr (fun H h => (by simp (config := { decide := true }) only [gRet, mSilo, c_8, if_true, if_false, reduceIte, Bool.false_eq_true, not_true_eq_false, not_false_eq_true, ite_not, true_and, and_true]; first | exact ⟨rfl, h⟩ | exact h)) (Nat.le_refl _) (Nat.le_refl _) dX6_silo_36

abbrev rmX6_terms : Room := { frames := 1, cells := 0, slots := 0, locals := 22 }
set_option maxHeartbeats 4000000 in
set_option maxRecDepth 100000 in
theorem c_mterms (l : Launch) (D : va_G) (ty : Nat → ClassId) (A : Nat → Prop) (mo : Nat) (ad : Nat → Nat) (a : MS) (r f q : Int32) (hw : mWf a) (hn : mCnt a) (hc : vp_in (gS a 29) 5900) : Met l yX6_terms wsX6_terms rmX6_terms (gPc D ty false [] 0 A [.ref mo, .int r, .int f, .int q] (hM D ty A mo ad a)) (gQ A (gRet none (hM D ty A mo ad (mTerms a r f q)))) 0 0 A := by
  refine g_Met (cc := cX6_terms) (maxL := 4) (ret := none) [some (.ref mo), some (.int r), some (.int f), some (.int q)] (by decide) rfl (Nat.le_of_ble_eq_true rfl) rfl ?_
  intro p e s m args below meth c S hlk hr hnm hK hE hP0
  have S : CallFix p m c cX6_terms 4 s args wsX6_terms RX6 := S
  refine g_aload_n S dX6_terms_0 rfl ?_
  refine g_iload_n S dX6_terms_1 rfl ?_
  refine g_iconst S (v := 0) dX6_terms_2 (by decide) ?_
  refine g_sipush S (v := 5000) dX6_terms_3 (by decide) ?_
  refine g_cSr S (c_in l D ty A _ _ _ _) (va_cwS 3 S.2.2.2.2 gX6_terms_X6_in rfl rfl rfl (by decide +kernel) ⟨Nat.le_of_ble_eq_true rfl, Nat.le_of_ble_eq_true rfl⟩) hK hE (fun H h => h) rfl (Nat.le_of_ble_eq_true rfl) dX6_terms_6 ⟨Nat.le_of_ble_eq_true rfl, Nat.le_of_ble_eq_true rfl⟩ ?_
  refine g_ifb_eq S (tgt := 38) dX6_terms_9 (by decide) (fun c_9 => ?_) (fun c_9 => ?_)
  · refine g_iconst S (v := 1) dX6_terms_38 (by decide) ?_
    refine g_cVr S (c_goesWell l D ty A mo ad _ _) (cwV 1 S.2.2.2.2 gX6_terms_X6_goesWell rfl rfl rfl (by decide +kernel) ⟨Nat.le_of_ble_eq_true rfl, Nat.le_of_ble_eq_true rfl⟩) hK hE (fun H h => h) (m_recv hK) rfl (Nat.le_of_ble_eq_true rfl) dX6_terms_39 ⟨Nat.le_of_ble_eq_true rfl, Nat.le_of_ble_eq_true rfl⟩ ?_
    refine g_if_eq S (tgt := 60) dX6_terms_42 (by decide) (fun c_42 => ?_) (fun c_42 => ?_)
    · exact g_vret S hlk hr (fun H h => (by simp (config := { decide := true }) only [gRet, mTerms, c_9, if_true, if_false, reduceIte, Bool.false_eq_true, not_true_eq_false, not_false_eq_true, ite_not, true_and, and_true]; first | exact ⟨rfl, h⟩ | exact h)) (Nat.le_refl _) (Nat.le_refl _) dX6_terms_60
    · exact absurd c_42 (by decide)
  · refine g_iload_n S dX6_terms_12 rfl ?_
    refine g_iconst S (v := 0) dX6_terms_13 (by decide) ?_
    refine g_sipush S (v := 1000) dX6_terms_14 (by decide) ?_
    refine g_cSr S (c_in l D ty A _ _ _ _) (va_cwS 3 S.2.2.2.2 gX6_terms_X6_in rfl rfl rfl (by decide +kernel) ⟨Nat.le_of_ble_eq_true rfl, Nat.le_of_ble_eq_true rfl⟩) hK hE (fun H h => h) rfl (Nat.le_of_ble_eq_true rfl) dX6_terms_17 ⟨Nat.le_of_ble_eq_true rfl, Nat.le_of_ble_eq_true rfl⟩ ?_
    refine g_ifb_eq S (tgt := 38) dX6_terms_20 (by decide) (fun c_20 => ?_) (fun c_20 => ?_)
    · refine g_iconst S (v := 1) dX6_terms_38 (by decide) ?_
      refine g_cVr S (c_goesWell l D ty A mo ad _ _) (cwV 1 S.2.2.2.2 gX6_terms_X6_goesWell rfl rfl rfl (by decide +kernel) ⟨Nat.le_of_ble_eq_true rfl, Nat.le_of_ble_eq_true rfl⟩) hK hE (fun H h => h) (m_recv hK) rfl (Nat.le_of_ble_eq_true rfl) dX6_terms_39 ⟨Nat.le_of_ble_eq_true rfl, Nat.le_of_ble_eq_true rfl⟩ ?_
      refine g_if_eq S (tgt := 60) dX6_terms_42 (by decide) (fun c_42 => ?_) (fun c_42 => ?_)
      · exact g_vret S hlk hr (fun H h => (by simp (config := { decide := true }) only [gRet, mTerms, c_9, c_20, if_true, if_false, reduceIte, Bool.false_eq_true, not_true_eq_false, not_false_eq_true, ite_not, true_and, and_true]; first | exact ⟨rfl, h⟩ | exact h)) (Nat.le_refl _) (Nat.le_refl _) dX6_terms_60
      · exact absurd c_42 (by decide)
    · refine g_iload_n S dX6_terms_23 rfl ?_
      refine g_iconst S (v := 0) dX6_terms_24 (by decide) ?_
      refine g_sipush S (v := 1000) dX6_terms_25 (by decide) ?_
      refine g_cSr S (c_in l D ty A _ _ _ _) (va_cwS 3 S.2.2.2.2 gX6_terms_X6_in rfl rfl rfl (by decide +kernel) ⟨Nat.le_of_ble_eq_true rfl, Nat.le_of_ble_eq_true rfl⟩) hK hE (fun H h => h) rfl (Nat.le_of_ble_eq_true rfl) dX6_terms_28 ⟨Nat.le_of_ble_eq_true rfl, Nat.le_of_ble_eq_true rfl⟩ ?_
      refine g_ifb_eq S (tgt := 38) dX6_terms_31 (by decide) (fun c_31 => ?_) (fun c_31 => ?_)
      · refine g_iconst S (v := 1) dX6_terms_38 (by decide) ?_
        refine g_cVr S (c_goesWell l D ty A mo ad _ _) (cwV 1 S.2.2.2.2 gX6_terms_X6_goesWell rfl rfl rfl (by decide +kernel) ⟨Nat.le_of_ble_eq_true rfl, Nat.le_of_ble_eq_true rfl⟩) hK hE (fun H h => h) (m_recv hK) rfl (Nat.le_of_ble_eq_true rfl) dX6_terms_39 ⟨Nat.le_of_ble_eq_true rfl, Nat.le_of_ble_eq_true rfl⟩ ?_
        refine g_if_eq S (tgt := 60) dX6_terms_42 (by decide) (fun c_42 => ?_) (fun c_42 => ?_)
        · exact g_vret S hlk hr (fun H h => (by simp (config := { decide := true }) only [gRet, mTerms, c_9, c_20, c_31, if_true, if_false, reduceIte, Bool.false_eq_true, not_true_eq_false, not_false_eq_true, ite_not, true_and, and_true]; first | exact ⟨rfl, h⟩ | exact h)) (Nat.le_refl _) (Nat.le_refl _) dX6_terms_60
        · exact absurd c_42 (by decide)
      · refine g_iconst S (v := 0) dX6_terms_34 (by decide) ?_
        refine g_goto S (tgt := 39) dX6_terms_35 (by decide) ?_
        refine g_cVr S (c_goesWell l D ty A mo ad _ _) (cwV 1 S.2.2.2.2 gX6_terms_X6_goesWell rfl rfl rfl (by decide +kernel) ⟨Nat.le_of_ble_eq_true rfl, Nat.le_of_ble_eq_true rfl⟩) hK hE (fun H h => h) (m_recv hK) rfl (Nat.le_of_ble_eq_true rfl) dX6_terms_39 ⟨Nat.le_of_ble_eq_true rfl, Nat.le_of_ble_eq_true rfl⟩ ?_
        refine g_if_eq S (tgt := 60) dX6_terms_42 (by decide) (fun c_42 => ?_) (fun c_42 => ?_)
        · exact absurd c_42 (by decide)
        · refine g_aload_n S dX6_terms_45 rfl ?_
          refine g_iload_n S dX6_terms_46 rfl ?_
          refine m_puts S hK 2 (by decide) (S.2.2.2.2 _ (List.mem_of_getElem? (i := 1) rfl)) dX6_terms_47 ?_
          refine g_aload_n S dX6_terms_50 rfl ?_
          refine g_iload_n S dX6_terms_51 rfl ?_
          refine m_puts S hK 3 (by decide) (S.2.2.2.2 _ (List.mem_of_getElem? (i := 2) rfl)) dX6_terms_52 ?_
          refine g_aload_n S dX6_terms_55 rfl ?_
          refine g_iload_n S dX6_terms_56 rfl ?_
          refine m_puts S hK 4 (by decide) (S.2.2.2.2 _ (List.mem_of_getElem? (i := 3) rfl)) dX6_terms_57 ?_
          exact g_vret S hlk hr (fun H h => (by simp (config := { decide := true }) only [gRet, mTerms, c_9, c_20, c_31, if_true, if_false, reduceIte, Bool.false_eq_true, not_true_eq_false, not_false_eq_true, ite_not, true_and, and_true]; first | exact ⟨rfl, h⟩ | exact h)) (Nat.le_refl _) (Nat.le_refl _) dX6_terms_60

def mSplit (a : MS) (r kg : Int32) : Int32 × MS :=
  if mIn r 0 (gS a 20 - 1) = true then
    if mIn kg 1 40000 = true then
      if gA a 21 r ≤ kg then (0, mS a 0 3)
      else if ¬ gA a 25 r = -1 then (0, mS a 0 3)
      else if 80 ≤ gS a 20 then (0, mS a 0 3)
      else (gS a 20, mSplitOff (mS a 0 0) r kg)
    else (0, mS a 0 2)
  else (0, mS a 0 1)
def mSell (a : MS) (r to cents : Int32) : Int32 × MS :=
  if mIn r 0 (gS a 20 - 1) = true then
    if (mIn to 0 5 && mIn cents 0 10000000) = true then
      if gA a 21 r ≤ 0 then (0, mS a 0 3)
      else if ¬ gA a 25 r = -1 then (0, mS a 0 3)
      else if gA a 22 r = to then (0, mS a 0 3)
      else (gA a 22 r, mBecome (mPay (mS a 0 0) to (gA a 22 r) cents.toInt64) r to)
    else (0, mS a 0 2)
  else (0, mS a 0 1)
def mPledge (a : MS) (r to cents days : Int32) : Int32 × MS :=
  if mIn r 0 (gS a 20 - 1) = true then
    if (mIn to 0 5 && (mIn cents 0 10000000 && mIn days 0 100)) = true then
      if gA a 21 r ≤ 0 then (0, mS a 0 3)
      else if ¬ gA a 25 r = -1 then (0, mS a 0 3)
      else if gA a 22 r = to then (0, mS a 0 3)
      else
        let b := mPay (mS a 0 0) to (gA a 22 r) cents.toInt64
        let c := mX b 25 r to
        let d := mX c 26 r cents
        let f := mX d 27 r (gS d 1 + days)
        (gA f 27 r, f)
    else (0, mS a 0 2)
  else (0, mS a 0 1)
def mRedeem (a : MS) (r : Int32) : Int32 × MS :=
  if mIn r 0 (gS a 20 - 1) = true then
    if ¬ gA a 25 r = -1 then
      let b := mPay (mS a 0 0) (gA a 22 r) (gA a 25 r) (gA a 26 r).toInt64
      let c := mX b 25 r (-1)
      (gA c 26 r, c)
    else (0, mS a 0 2)
  else (0, mS a 0 1)
def mTakeOut (a : MS) (r : Int32) : Int32 × MS :=
  if mIn r 0 (gS a 20 - 1) = true then
    if gA a 21 r = 0 then (0, mS a 0 2)
    else if gA a 25 r = -1 then (gA a 21 r, mLose (mS a 0 0) r (gA a 21 r))
    else (0, mS a 0 2)
  else (0, mS a 0 1)
abbrev rmX6_split : Room := { frames := 3, cells := 0, slots := 0, locals := 69 }
set_option maxHeartbeats 4000000 in
set_option maxRecDepth 100000 in
theorem c_msplit (l : Launch) (D : va_G) (ty : Nat → ClassId) (A : Nat → Prop) (mo : Nat) (ad : Nat → Nat) (a : MS) (r kg : Int32) (hw : mWf a) (hn : mCnt a) (hc : vp_in (gS a 29) 5900) : Met l yX6_split wsX6_split rmX6_split (gPc D ty false [] 0 A [.ref mo, .int r, .int kg] (hM D ty A mo ad a)) (gQ A (gRet (some (.int (mSplit a r kg).1)) (hM D ty A mo ad (mSplit a r kg).2))) 0 0 A := by
  refine g_Met (cc := cX6_split) (maxL := 6) (ret := (some .int)) [some (.ref mo), some (.int r), some (.int kg), none, none, none] (by decide) rfl (Nat.le_of_ble_eq_true rfl) rfl ?_
  intro p e s m args below meth c S hlk hr hnm hK hE hP0
  have S : CallFix p m c cX6_split 6 s args wsX6_split RX6 := S
  refine g_aload_n S dX6_split_0 rfl ?_
  refine g_iload_n S dX6_split_1 rfl ?_
  refine g_cVr S (c_isReceipt l D ty A mo ad _ _) (cwV 1 S.2.2.2.2 gX6_split_X6_isReceipt rfl rfl rfl (by decide +kernel) ⟨Nat.le_of_ble_eq_true rfl, Nat.le_of_ble_eq_true rfl⟩) hK hE (fun H h => h) (m_recv hK) rfl (Nat.le_of_ble_eq_true rfl) dX6_split_2 ⟨Nat.le_of_ble_eq_true rfl, Nat.le_of_ble_eq_true rfl⟩ ?_
  refine g_istore_n S dX6_split_5 (by decide) rfl ?_
  refine g_iload_n S dX6_split_6 rfl ?_
  refine g_iconst S (v := 1) dX6_split_7 (by decide) ?_
  refine g_ldc S (S.2.2.2.2 _ (List.mem_of_getElem? (i := 1) rfl)) dX6_split_8 ?_
  refine g_cSr S (c_in l D ty A _ _ _ _) (va_cwS 3 S.2.2.2.2 gX6_split_X6_in rfl rfl rfl (by decide +kernel) ⟨Nat.le_of_ble_eq_true rfl, Nat.le_of_ble_eq_true rfl⟩) hK hE (fun H h => h) rfl (Nat.le_of_ble_eq_true rfl) dX6_split_10 ⟨Nat.le_of_ble_eq_true rfl, Nat.le_of_ble_eq_true rfl⟩ ?_
  refine g_istore S dX6_split_13 (by decide) rfl ?_
  refine g_iload_n S dX6_split_15 rfl ?_
  refine g_ifb_eq S (tgt := 52) dX6_split_16 (by decide) (fun c_16 => ?_) (fun c_16 => ?_)
  · refine g_iconst S (v := 0) dX6_split_52 (by decide) ?_
    refine g_istore S dX6_split_53 (by decide) rfl ?_
    refine g_aload_n S dX6_split_55 rfl ?_
    refine g_iload_n S dX6_split_56 rfl ?_
    refine g_ifb_ne S (tgt := 64) dX6_split_57 (by decide) (fun c_57 => ?_) (fun c_57 => ?_)
    · exact absurd (c_57.symm.trans c_16) (by decide)
    · refine g_iconst S (v := 1) dX6_split_60 (by decide) ?_
      refine g_goto S (tgt := 83) dX6_split_61 (by decide) ?_
      refine g_cVr S (c_goesWell l D ty A mo ad _ _) (cwV 1 S.2.2.2.2 gX6_split_X6_goesWell rfl rfl rfl (by decide +kernel) ⟨Nat.le_of_ble_eq_true rfl, Nat.le_of_ble_eq_true rfl⟩) hK hE (fun H h => h) (m_recv hK) rfl (Nat.le_of_ble_eq_true rfl) dX6_split_83 ⟨Nat.le_of_ble_eq_true rfl, Nat.le_of_ble_eq_true rfl⟩ ?_
      refine g_if_ne S (tgt := 91) dX6_split_86 (by decide) (fun c_86 => ?_) (fun c_86 => ?_)
      · exact absurd c_86 (by decide)
      · refine g_iconst S (v := 0) dX6_split_89 (by decide) ?_
        exact g_iret S hlk hr (fun H h => (by simp (config := { decide := true }) only [gRet, mSplit, c_16, if_true, if_false, reduceIte, Bool.false_eq_true, not_true_eq_false, not_false_eq_true, ite_not, true_and, and_true]; first | exact ⟨rfl, h⟩ | exact h)) (Nat.le_refl _) (Nat.le_refl _) dX6_split_90
  · refine g_aload_n S dX6_split_19 rfl ?_
    refine m_getf S hK 21 (by decide) (S.2.2.2.2 _ (List.mem_of_getElem? (i := 2) rfl)) rfl dX6_split_20 ?_
    refine g_iload_n S dX6_split_23 rfl ?_
    refine m_iald S hK (by decide) (by first | assumption | exact rin c_16 hn.2.2.1) dX6_split_24 ?_
    refine g_iload_n S dX6_split_25 rfl ?_
    refine g_icmp_le S (tgt := 52) dX6_split_26 (by decide) (fun c_26 => ?_) (fun c_26 => ?_)
    · refine g_iconst S (v := 0) dX6_split_52 (by decide) ?_
      refine g_istore S dX6_split_53 (by decide) rfl ?_
      refine g_aload_n S dX6_split_55 rfl ?_
      refine g_iload_n S dX6_split_56 rfl ?_
      refine g_ifb_ne S (tgt := 64) dX6_split_57 (by decide) (fun c_57 => ?_) (fun c_57 => ?_)
      · refine g_iload S dX6_split_64 rfl ?_
        refine g_ifb_ne S (tgt := 73) dX6_split_66 (by decide) (fun c_66 => ?_) (fun c_66 => ?_)
        · refine g_iload S dX6_split_73 rfl ?_
          refine g_if_eq S (tgt := 82) dX6_split_75 (by decide) (fun c_75 => ?_) (fun c_75 => ?_)
          · refine g_iconst S (v := 3) dX6_split_82 (by decide) ?_
            refine g_cVr S (c_goesWell l D ty A mo ad _ _) (cwV 1 S.2.2.2.2 gX6_split_X6_goesWell rfl rfl rfl (by decide +kernel) ⟨Nat.le_of_ble_eq_true rfl, Nat.le_of_ble_eq_true rfl⟩) hK hE (fun H h => h) (m_recv hK) rfl (Nat.le_of_ble_eq_true rfl) dX6_split_83 ⟨Nat.le_of_ble_eq_true rfl, Nat.le_of_ble_eq_true rfl⟩ ?_
            refine g_if_ne S (tgt := 91) dX6_split_86 (by decide) (fun c_86 => ?_) (fun c_86 => ?_)
            · exact absurd c_86 (by decide)
            · refine g_iconst S (v := 0) dX6_split_89 (by decide) ?_
              exact g_iret S hlk hr (fun H h => (by simp (config := { decide := true }) only [gRet, mSplit, c_16, c_26, c_66, if_true, if_false, reduceIte, Bool.false_eq_true, not_true_eq_false, not_false_eq_true, ite_not, true_and, and_true]; first | exact ⟨rfl, h⟩ | exact h)) (Nat.le_refl _) (Nat.le_refl _) dX6_split_90
          · exact absurd c_75 (by decide)
        · refine g_iconst S (v := 2) dX6_split_69 (by decide) ?_
          refine g_goto S (tgt := 83) dX6_split_70 (by decide) ?_
          refine g_cVr S (c_goesWell l D ty A mo ad _ _) (cwV 1 S.2.2.2.2 gX6_split_X6_goesWell rfl rfl rfl (by decide +kernel) ⟨Nat.le_of_ble_eq_true rfl, Nat.le_of_ble_eq_true rfl⟩) hK hE (fun H h => h) (m_recv hK) rfl (Nat.le_of_ble_eq_true rfl) dX6_split_83 ⟨Nat.le_of_ble_eq_true rfl, Nat.le_of_ble_eq_true rfl⟩ ?_
          refine g_if_ne S (tgt := 91) dX6_split_86 (by decide) (fun c_86 => ?_) (fun c_86 => ?_)
          · exact absurd c_86 (by decide)
          · refine g_iconst S (v := 0) dX6_split_89 (by decide) ?_
            exact g_iret S hlk hr (fun H h => (by simp (config := { decide := true }) only [gRet, mSplit, c_16, c_26, c_66, if_true, if_false, reduceIte, Bool.false_eq_true, not_true_eq_false, not_false_eq_true, ite_not, true_and, and_true]; first | exact ⟨rfl, h⟩ | exact h)) (Nat.le_refl _) (Nat.le_refl _) dX6_split_90
      · exact absurd (c_57.symm.trans c_16) (by decide)
    · refine g_aload_n S dX6_split_29 rfl ?_
      refine m_getf S hK 25 (by decide) (S.2.2.2.2 _ (List.mem_of_getElem? (i := 3) rfl)) rfl dX6_split_30 ?_
      refine g_iload_n S dX6_split_33 rfl ?_
      refine m_iald S hK (by decide) (by first | assumption | exact rin c_16 hn.2.2.1) dX6_split_34 ?_
      refine g_iconst S (v := (-1)) dX6_split_35 (by decide) ?_
      refine g_icmp_ne S (tgt := 52) dX6_split_36 (by decide) (fun c_36 => ?_) (fun c_36 => ?_)
      · refine g_iconst S (v := 0) dX6_split_52 (by decide) ?_
        refine g_istore S dX6_split_53 (by decide) rfl ?_
        refine g_aload_n S dX6_split_55 rfl ?_
        refine g_iload_n S dX6_split_56 rfl ?_
        refine g_ifb_ne S (tgt := 64) dX6_split_57 (by decide) (fun c_57 => ?_) (fun c_57 => ?_)
        · refine g_iload S dX6_split_64 rfl ?_
          refine g_ifb_ne S (tgt := 73) dX6_split_66 (by decide) (fun c_66 => ?_) (fun c_66 => ?_)
          · refine g_iload S dX6_split_73 rfl ?_
            refine g_if_eq S (tgt := 82) dX6_split_75 (by decide) (fun c_75 => ?_) (fun c_75 => ?_)
            · refine g_iconst S (v := 3) dX6_split_82 (by decide) ?_
              refine g_cVr S (c_goesWell l D ty A mo ad _ _) (cwV 1 S.2.2.2.2 gX6_split_X6_goesWell rfl rfl rfl (by decide +kernel) ⟨Nat.le_of_ble_eq_true rfl, Nat.le_of_ble_eq_true rfl⟩) hK hE (fun H h => h) (m_recv hK) rfl (Nat.le_of_ble_eq_true rfl) dX6_split_83 ⟨Nat.le_of_ble_eq_true rfl, Nat.le_of_ble_eq_true rfl⟩ ?_
              refine g_if_ne S (tgt := 91) dX6_split_86 (by decide) (fun c_86 => ?_) (fun c_86 => ?_)
              · exact absurd c_86 (by decide)
              · refine g_iconst S (v := 0) dX6_split_89 (by decide) ?_
                exact g_iret S hlk hr (fun H h => (by simp (config := { decide := true }) only [gRet, mSplit, c_16, c_26, c_36, c_66, if_true, if_false, reduceIte, Bool.false_eq_true, not_true_eq_false, not_false_eq_true, ite_not, true_and, and_true]; first | exact ⟨rfl, h⟩ | exact h)) (Nat.le_refl _) (Nat.le_refl _) dX6_split_90
            · exact absurd c_75 (by decide)
          · refine g_iconst S (v := 2) dX6_split_69 (by decide) ?_
            refine g_goto S (tgt := 83) dX6_split_70 (by decide) ?_
            refine g_cVr S (c_goesWell l D ty A mo ad _ _) (cwV 1 S.2.2.2.2 gX6_split_X6_goesWell rfl rfl rfl (by decide +kernel) ⟨Nat.le_of_ble_eq_true rfl, Nat.le_of_ble_eq_true rfl⟩) hK hE (fun H h => h) (m_recv hK) rfl (Nat.le_of_ble_eq_true rfl) dX6_split_83 ⟨Nat.le_of_ble_eq_true rfl, Nat.le_of_ble_eq_true rfl⟩ ?_
            refine g_if_ne S (tgt := 91) dX6_split_86 (by decide) (fun c_86 => ?_) (fun c_86 => ?_)
            · exact absurd c_86 (by decide)
            · refine g_iconst S (v := 0) dX6_split_89 (by decide) ?_
              exact g_iret S hlk hr (fun H h => (by simp (config := { decide := true }) only [gRet, mSplit, c_16, c_26, c_36, c_66, if_true, if_false, reduceIte, Bool.false_eq_true, not_true_eq_false, not_false_eq_true, ite_not, true_and, and_true]; first | exact ⟨rfl, h⟩ | exact h)) (Nat.le_refl _) (Nat.le_refl _) dX6_split_90
        · exact absurd (c_57.symm.trans c_16) (by decide)
      · refine g_aload_n S dX6_split_39 rfl ?_
        refine m_getf S hK 20 (by decide) (S.2.2.2.2 _ (List.mem_of_getElem? (i := 4) rfl)) rfl dX6_split_40 ?_
        refine g_bipush S (v := 80) dX6_split_43 (by decide) ?_
        refine g_icmp_ge S (tgt := 52) dX6_split_45 (by decide) (fun c_45 => ?_) (fun c_45 => ?_)
        · refine g_iconst S (v := 0) dX6_split_52 (by decide) ?_
          refine g_istore S dX6_split_53 (by decide) rfl ?_
          refine g_aload_n S dX6_split_55 rfl ?_
          refine g_iload_n S dX6_split_56 rfl ?_
          refine g_ifb_ne S (tgt := 64) dX6_split_57 (by decide) (fun c_57 => ?_) (fun c_57 => ?_)
          · refine g_iload S dX6_split_64 rfl ?_
            refine g_ifb_ne S (tgt := 73) dX6_split_66 (by decide) (fun c_66 => ?_) (fun c_66 => ?_)
            · refine g_iload S dX6_split_73 rfl ?_
              refine g_if_eq S (tgt := 82) dX6_split_75 (by decide) (fun c_75 => ?_) (fun c_75 => ?_)
              · refine g_iconst S (v := 3) dX6_split_82 (by decide) ?_
                refine g_cVr S (c_goesWell l D ty A mo ad _ _) (cwV 1 S.2.2.2.2 gX6_split_X6_goesWell rfl rfl rfl (by decide +kernel) ⟨Nat.le_of_ble_eq_true rfl, Nat.le_of_ble_eq_true rfl⟩) hK hE (fun H h => h) (m_recv hK) rfl (Nat.le_of_ble_eq_true rfl) dX6_split_83 ⟨Nat.le_of_ble_eq_true rfl, Nat.le_of_ble_eq_true rfl⟩ ?_
                refine g_if_ne S (tgt := 91) dX6_split_86 (by decide) (fun c_86 => ?_) (fun c_86 => ?_)
                · exact absurd c_86 (by decide)
                · refine g_iconst S (v := 0) dX6_split_89 (by decide) ?_
                  exact g_iret S hlk hr (fun H h => (by simp (config := { decide := true }) only [gRet, mSplit, c_16, c_26, c_36, c_45, c_66, if_true, if_false, reduceIte, Bool.false_eq_true, not_true_eq_false, not_false_eq_true, ite_not, true_and, and_true]; first | exact ⟨rfl, h⟩ | exact h)) (Nat.le_refl _) (Nat.le_refl _) dX6_split_90
              · exact absurd c_75 (by decide)
            · refine g_iconst S (v := 2) dX6_split_69 (by decide) ?_
              refine g_goto S (tgt := 83) dX6_split_70 (by decide) ?_
              refine g_cVr S (c_goesWell l D ty A mo ad _ _) (cwV 1 S.2.2.2.2 gX6_split_X6_goesWell rfl rfl rfl (by decide +kernel) ⟨Nat.le_of_ble_eq_true rfl, Nat.le_of_ble_eq_true rfl⟩) hK hE (fun H h => h) (m_recv hK) rfl (Nat.le_of_ble_eq_true rfl) dX6_split_83 ⟨Nat.le_of_ble_eq_true rfl, Nat.le_of_ble_eq_true rfl⟩ ?_
              refine g_if_ne S (tgt := 91) dX6_split_86 (by decide) (fun c_86 => ?_) (fun c_86 => ?_)
              · exact absurd c_86 (by decide)
              · refine g_iconst S (v := 0) dX6_split_89 (by decide) ?_
                exact g_iret S hlk hr (fun H h => (by simp (config := { decide := true }) only [gRet, mSplit, c_16, c_26, c_36, c_45, c_66, if_true, if_false, reduceIte, Bool.false_eq_true, not_true_eq_false, not_false_eq_true, ite_not, true_and, and_true]; first | exact ⟨rfl, h⟩ | exact h)) (Nat.le_refl _) (Nat.le_refl _) dX6_split_90
          · exact absurd (c_57.symm.trans c_16) (by decide)
        · refine g_iconst S (v := 1) dX6_split_48 (by decide) ?_
          refine g_goto S (tgt := 53) dX6_split_49 (by decide) ?_
          refine g_istore S dX6_split_53 (by decide) rfl ?_
          refine g_aload_n S dX6_split_55 rfl ?_
          refine g_iload_n S dX6_split_56 rfl ?_
          refine g_ifb_ne S (tgt := 64) dX6_split_57 (by decide) (fun c_57 => ?_) (fun c_57 => ?_)
          · refine g_iload S dX6_split_64 rfl ?_
            refine g_ifb_ne S (tgt := 73) dX6_split_66 (by decide) (fun c_66 => ?_) (fun c_66 => ?_)
            · refine g_iload S dX6_split_73 rfl ?_
              refine g_if_eq S (tgt := 82) dX6_split_75 (by decide) (fun c_75 => ?_) (fun c_75 => ?_)
              · exact absurd c_75 (by decide)
              · refine g_iconst S (v := 0) dX6_split_78 (by decide) ?_
                refine g_goto S (tgt := 83) dX6_split_79 (by decide) ?_
                refine g_cVr S (c_goesWell l D ty A mo ad _ _) (cwV 1 S.2.2.2.2 gX6_split_X6_goesWell rfl rfl rfl (by decide +kernel) ⟨Nat.le_of_ble_eq_true rfl, Nat.le_of_ble_eq_true rfl⟩) hK hE (fun H h => h) (m_recv hK) rfl (Nat.le_of_ble_eq_true rfl) dX6_split_83 ⟨Nat.le_of_ble_eq_true rfl, Nat.le_of_ble_eq_true rfl⟩ ?_
                refine g_if_ne S (tgt := 91) dX6_split_86 (by decide) (fun c_86 => ?_) (fun c_86 => ?_)
                · refine g_aload_n S dX6_split_91 rfl ?_
                  refine g_iload_n S dX6_split_92 rfl ?_
                  refine g_iload_n S dX6_split_93 rfl ?_
                  refine g_cVr S (c_splitOff l D ty A mo ad _ _ _ (by exact rin c_16 hn.2.2.1) (by exact vin_lt hn.2.2.1 (by decide) c_45) (by exact (vin_mono hc (by decide)))) (cwV 2 S.2.2.2.2 gX6_split_X6_splitOff rfl rfl rfl (by decide +kernel) ⟨Nat.le_of_ble_eq_true rfl, Nat.le_of_ble_eq_true rfl⟩) hK hE (fun H h => h) (m_recv hK) rfl (Nat.le_of_ble_eq_true rfl) dX6_split_94 ⟨Nat.le_of_ble_eq_true rfl, Nat.le_of_ble_eq_true rfl⟩ ?_
                  exact g_iret S hlk hr (fun H h => (by simp (config := { decide := true }) only [gRet, mSplit, c_16, c_26, c_36, c_45, c_66, if_true, if_false, reduceIte, Bool.false_eq_true, not_true_eq_false, not_false_eq_true, ite_not, true_and, and_true]; first | exact ⟨rfl, h⟩ | exact h)) (Nat.le_refl _) (Nat.le_refl _) dX6_split_97
                · exact absurd c_86 (by decide)
            · refine g_iconst S (v := 2) dX6_split_69 (by decide) ?_
              refine g_goto S (tgt := 83) dX6_split_70 (by decide) ?_
              refine g_cVr S (c_goesWell l D ty A mo ad _ _) (cwV 1 S.2.2.2.2 gX6_split_X6_goesWell rfl rfl rfl (by decide +kernel) ⟨Nat.le_of_ble_eq_true rfl, Nat.le_of_ble_eq_true rfl⟩) hK hE (fun H h => h) (m_recv hK) rfl (Nat.le_of_ble_eq_true rfl) dX6_split_83 ⟨Nat.le_of_ble_eq_true rfl, Nat.le_of_ble_eq_true rfl⟩ ?_
              refine g_if_ne S (tgt := 91) dX6_split_86 (by decide) (fun c_86 => ?_) (fun c_86 => ?_)
              · exact absurd c_86 (by decide)
              · refine g_iconst S (v := 0) dX6_split_89 (by decide) ?_
                exact g_iret S hlk hr (fun H h => (by simp (config := { decide := true }) only [gRet, mSplit, c_16, c_26, c_36, c_45, c_66, if_true, if_false, reduceIte, Bool.false_eq_true, not_true_eq_false, not_false_eq_true, ite_not, true_and, and_true]; first | exact ⟨rfl, h⟩ | exact h)) (Nat.le_refl _) (Nat.le_refl _) dX6_split_90
          · exact absurd (c_57.symm.trans c_16) (by decide)

abbrev rmX6_sell : Room := { frames := 2, cells := 0, slots := 0, locals := 43 }
set_option maxHeartbeats 4000000 in
set_option maxRecDepth 100000 in
theorem c_msell (l : Launch) (D : va_G) (ty : Nat → ClassId) (A : Nat → Prop) (mo : Nat) (ad : Nat → Nat) (a : MS) (r to cents : Int32) (hw : mWf a) (hn : mCnt a) (hc : vp_in (gS a 29) 5900) : Met l yX6_sell wsX6_sell rmX6_sell (gPc D ty false [] 0 A [.ref mo, .int r, .int to, .int cents] (hM D ty A mo ad a)) (gQ A (gRet (some (.int (mSell a r to cents).1)) (hM D ty A mo ad (mSell a r to cents).2))) 0 0 A := by
  refine g_Met (cc := cX6_sell) (maxL := 8) (ret := (some .int)) [some (.ref mo), some (.int r), some (.int to), some (.int cents), none, none, none, none] (by decide) rfl (Nat.le_of_ble_eq_true rfl) rfl ?_
  intro p e s m args below meth c S hlk hr hnm hK hE hP0
  have S : CallFix p m c cX6_sell 8 s args wsX6_sell RX6 := S
  refine g_aload_n S dX6_sell_0 rfl ?_
  refine g_iload_n S dX6_sell_1 rfl ?_
  refine g_cVr S (c_isReceipt l D ty A mo ad _ _) (cwV 1 S.2.2.2.2 gX6_sell_X6_isReceipt rfl rfl rfl (by decide +kernel) ⟨Nat.le_of_ble_eq_true rfl, Nat.le_of_ble_eq_true rfl⟩) hK hE (fun H h => h) (m_recv hK) rfl (Nat.le_of_ble_eq_true rfl) dX6_sell_2 ⟨Nat.le_of_ble_eq_true rfl, Nat.le_of_ble_eq_true rfl⟩ ?_
  refine g_istore S dX6_sell_5 (by decide) rfl ?_
  refine g_iload_n S dX6_sell_7 rfl ?_
  refine g_cSr S (c_isHolder l D ty A _ _) (va_cwS 1 S.2.2.2.2 gX6_sell_X6_isHolder rfl rfl rfl (by decide +kernel) ⟨Nat.le_of_ble_eq_true rfl, Nat.le_of_ble_eq_true rfl⟩) hK hE (fun H h => h) rfl (Nat.le_of_ble_eq_true rfl) dX6_sell_8 ⟨Nat.le_of_ble_eq_true rfl, Nat.le_of_ble_eq_true rfl⟩ ?_
  refine g_ifb_eq S (tgt := 28) dX6_sell_11 (by decide) (fun c_11 => ?_) (fun c_11 => ?_)
  · refine g_iconst S (v := 0) dX6_sell_28 (by decide) ?_
    refine g_istore S dX6_sell_29 (by decide) rfl ?_
    refine g_iload S dX6_sell_31 rfl ?_
    refine g_ifb_eq S (tgt := 69) dX6_sell_33 (by decide) (fun c_33 => ?_) (fun c_33 => ?_)
    · refine g_iconst S (v := 0) dX6_sell_69 (by decide) ?_
      refine g_istore S dX6_sell_70 (by decide) rfl ?_
      refine g_aload_n S dX6_sell_72 rfl ?_
      refine g_iload S dX6_sell_73 rfl ?_
      refine g_ifb_ne S (tgt := 82) dX6_sell_75 (by decide) (fun c_75 => ?_) (fun c_75 => ?_)
      · exact absurd (c_75.symm.trans c_33) (by decide)
      · refine g_iconst S (v := 1) dX6_sell_78 (by decide) ?_
        refine g_goto S (tgt := 101) dX6_sell_79 (by decide) ?_
        refine g_cVr S (c_goesWell l D ty A mo ad _ _) (cwV 1 S.2.2.2.2 gX6_sell_X6_goesWell rfl rfl rfl (by decide +kernel) ⟨Nat.le_of_ble_eq_true rfl, Nat.le_of_ble_eq_true rfl⟩) hK hE (fun H h => h) (m_recv hK) rfl (Nat.le_of_ble_eq_true rfl) dX6_sell_101 ⟨Nat.le_of_ble_eq_true rfl, Nat.le_of_ble_eq_true rfl⟩ ?_
        refine g_if_ne S (tgt := 109) dX6_sell_104 (by decide) (fun c_104 => ?_) (fun c_104 => ?_)
        · exact absurd c_104 (by decide)
        · refine g_iconst S (v := 0) dX6_sell_107 (by decide) ?_
          exact g_iret S hlk hr (fun H h => (by simp (config := { decide := true }) only [gRet, mSell, c_11, c_33, if_true, if_false, reduceIte, Bool.false_eq_true, not_true_eq_false, not_false_eq_true, ite_not, true_and, and_true, Bool.and_self, Bool.and_true, Bool.true_and, Bool.and_false, Bool.false_and]; first | exact ⟨rfl, h⟩ | exact h)) (Nat.le_refl _) (Nat.le_refl _) dX6_sell_108
    · refine g_aload_n S dX6_sell_36 rfl ?_
      refine m_getf S hK 21 (by decide) (S.2.2.2.2 _ (List.mem_of_getElem? (i := 2) rfl)) rfl dX6_sell_37 ?_
      refine g_iload_n S dX6_sell_40 rfl ?_
      refine m_iald S hK (by decide) (by first | assumption | exact rin c_33 hn.2.2.1) dX6_sell_41 ?_
      refine g_if_le S (tgt := 69) dX6_sell_42 (by decide) (fun c_42 => ?_) (fun c_42 => ?_)
      · refine g_iconst S (v := 0) dX6_sell_69 (by decide) ?_
        refine g_istore S dX6_sell_70 (by decide) rfl ?_
        refine g_aload_n S dX6_sell_72 rfl ?_
        refine g_iload S dX6_sell_73 rfl ?_
        refine g_ifb_ne S (tgt := 82) dX6_sell_75 (by decide) (fun c_75 => ?_) (fun c_75 => ?_)
        · refine g_iload S dX6_sell_82 rfl ?_
          refine g_if_ne S (tgt := 91) dX6_sell_84 (by decide) (fun c_84 => ?_) (fun c_84 => ?_)
          · exact absurd c_84 (by decide)
          · refine g_iconst S (v := 2) dX6_sell_87 (by decide) ?_
            refine g_goto S (tgt := 101) dX6_sell_88 (by decide) ?_
            refine g_cVr S (c_goesWell l D ty A mo ad _ _) (cwV 1 S.2.2.2.2 gX6_sell_X6_goesWell rfl rfl rfl (by decide +kernel) ⟨Nat.le_of_ble_eq_true rfl, Nat.le_of_ble_eq_true rfl⟩) hK hE (fun H h => h) (m_recv hK) rfl (Nat.le_of_ble_eq_true rfl) dX6_sell_101 ⟨Nat.le_of_ble_eq_true rfl, Nat.le_of_ble_eq_true rfl⟩ ?_
            refine g_if_ne S (tgt := 109) dX6_sell_104 (by decide) (fun c_104 => ?_) (fun c_104 => ?_)
            · exact absurd c_104 (by decide)
            · refine g_iconst S (v := 0) dX6_sell_107 (by decide) ?_
              exact g_iret S hlk hr (fun H h => (by simp (config := { decide := true }) only [gRet, mSell, c_11, c_33, c_42, if_true, if_false, reduceIte, Bool.false_eq_true, not_true_eq_false, not_false_eq_true, ite_not, true_and, and_true, Bool.and_self, Bool.and_true, Bool.true_and, Bool.and_false, Bool.false_and]; first | exact ⟨rfl, h⟩ | exact h)) (Nat.le_refl _) (Nat.le_refl _) dX6_sell_108
        · exact absurd (c_75.symm.trans c_33) (by decide)
      · refine g_aload_n S dX6_sell_45 rfl ?_
        refine m_getf S hK 25 (by decide) (S.2.2.2.2 _ (List.mem_of_getElem? (i := 3) rfl)) rfl dX6_sell_46 ?_
        refine g_iload_n S dX6_sell_49 rfl ?_
        refine m_iald S hK (by decide) (by first | assumption | exact rin c_33 hn.2.2.1) dX6_sell_50 ?_
        refine g_iconst S (v := (-1)) dX6_sell_51 (by decide) ?_
        refine g_icmp_ne S (tgt := 69) dX6_sell_52 (by decide) (fun c_52 => ?_) (fun c_52 => ?_)
        · refine g_iconst S (v := 0) dX6_sell_69 (by decide) ?_
          refine g_istore S dX6_sell_70 (by decide) rfl ?_
          refine g_aload_n S dX6_sell_72 rfl ?_
          refine g_iload S dX6_sell_73 rfl ?_
          refine g_ifb_ne S (tgt := 82) dX6_sell_75 (by decide) (fun c_75 => ?_) (fun c_75 => ?_)
          · refine g_iload S dX6_sell_82 rfl ?_
            refine g_if_ne S (tgt := 91) dX6_sell_84 (by decide) (fun c_84 => ?_) (fun c_84 => ?_)
            · exact absurd c_84 (by decide)
            · refine g_iconst S (v := 2) dX6_sell_87 (by decide) ?_
              refine g_goto S (tgt := 101) dX6_sell_88 (by decide) ?_
              refine g_cVr S (c_goesWell l D ty A mo ad _ _) (cwV 1 S.2.2.2.2 gX6_sell_X6_goesWell rfl rfl rfl (by decide +kernel) ⟨Nat.le_of_ble_eq_true rfl, Nat.le_of_ble_eq_true rfl⟩) hK hE (fun H h => h) (m_recv hK) rfl (Nat.le_of_ble_eq_true rfl) dX6_sell_101 ⟨Nat.le_of_ble_eq_true rfl, Nat.le_of_ble_eq_true rfl⟩ ?_
              refine g_if_ne S (tgt := 109) dX6_sell_104 (by decide) (fun c_104 => ?_) (fun c_104 => ?_)
              · exact absurd c_104 (by decide)
              · refine g_iconst S (v := 0) dX6_sell_107 (by decide) ?_
                exact g_iret S hlk hr (fun H h => (by simp (config := { decide := true }) only [gRet, mSell, c_11, c_33, c_42, c_52, if_true, if_false, reduceIte, Bool.false_eq_true, not_true_eq_false, not_false_eq_true, ite_not, true_and, and_true, Bool.and_self, Bool.and_true, Bool.true_and, Bool.and_false, Bool.false_and]; first | exact ⟨rfl, h⟩ | exact h)) (Nat.le_refl _) (Nat.le_refl _) dX6_sell_108
          · exact absurd (c_75.symm.trans c_33) (by decide)
        · refine g_aload_n S dX6_sell_55 rfl ?_
          refine m_getf S hK 22 (by decide) (S.2.2.2.2 _ (List.mem_of_getElem? (i := 4) rfl)) rfl dX6_sell_56 ?_
          refine g_iload_n S dX6_sell_59 rfl ?_
          refine m_iald S hK (by decide) (by first | assumption | exact rin c_33 hn.2.2.1) dX6_sell_60 ?_
          refine g_iload_n S dX6_sell_61 rfl ?_
          refine g_icmp_eq S (tgt := 69) dX6_sell_62 (by decide) (fun c_62 => ?_) (fun c_62 => ?_)
          · refine g_iconst S (v := 0) dX6_sell_69 (by decide) ?_
            refine g_istore S dX6_sell_70 (by decide) rfl ?_
            refine g_aload_n S dX6_sell_72 rfl ?_
            refine g_iload S dX6_sell_73 rfl ?_
            refine g_ifb_ne S (tgt := 82) dX6_sell_75 (by decide) (fun c_75 => ?_) (fun c_75 => ?_)
            · refine g_iload S dX6_sell_82 rfl ?_
              refine g_if_ne S (tgt := 91) dX6_sell_84 (by decide) (fun c_84 => ?_) (fun c_84 => ?_)
              · exact absurd c_84 (by decide)
              · refine g_iconst S (v := 2) dX6_sell_87 (by decide) ?_
                refine g_goto S (tgt := 101) dX6_sell_88 (by decide) ?_
                refine g_cVr S (c_goesWell l D ty A mo ad _ _) (cwV 1 S.2.2.2.2 gX6_sell_X6_goesWell rfl rfl rfl (by decide +kernel) ⟨Nat.le_of_ble_eq_true rfl, Nat.le_of_ble_eq_true rfl⟩) hK hE (fun H h => h) (m_recv hK) rfl (Nat.le_of_ble_eq_true rfl) dX6_sell_101 ⟨Nat.le_of_ble_eq_true rfl, Nat.le_of_ble_eq_true rfl⟩ ?_
                refine g_if_ne S (tgt := 109) dX6_sell_104 (by decide) (fun c_104 => ?_) (fun c_104 => ?_)
                · exact absurd c_104 (by decide)
                · refine g_iconst S (v := 0) dX6_sell_107 (by decide) ?_
                  exact g_iret S hlk hr (fun H h => (by simp (config := { decide := true }) only [gRet, mSell, c_11, c_33, c_42, c_52, c_62, if_true, if_false, reduceIte, Bool.false_eq_true, not_true_eq_false, not_false_eq_true, ite_not, true_and, and_true, Bool.and_self, Bool.and_true, Bool.true_and, Bool.and_false, Bool.false_and]; first | exact ⟨rfl, h⟩ | exact h)) (Nat.le_refl _) (Nat.le_refl _) dX6_sell_108
            · exact absurd (c_75.symm.trans c_33) (by decide)
          · refine g_iconst S (v := 1) dX6_sell_65 (by decide) ?_
            refine g_goto S (tgt := 70) dX6_sell_66 (by decide) ?_
            refine g_istore S dX6_sell_70 (by decide) rfl ?_
            refine g_aload_n S dX6_sell_72 rfl ?_
            refine g_iload S dX6_sell_73 rfl ?_
            refine g_ifb_ne S (tgt := 82) dX6_sell_75 (by decide) (fun c_75 => ?_) (fun c_75 => ?_)
            · refine g_iload S dX6_sell_82 rfl ?_
              refine g_if_ne S (tgt := 91) dX6_sell_84 (by decide) (fun c_84 => ?_) (fun c_84 => ?_)
              · exact absurd c_84 (by decide)
              · refine g_iconst S (v := 2) dX6_sell_87 (by decide) ?_
                refine g_goto S (tgt := 101) dX6_sell_88 (by decide) ?_
                refine g_cVr S (c_goesWell l D ty A mo ad _ _) (cwV 1 S.2.2.2.2 gX6_sell_X6_goesWell rfl rfl rfl (by decide +kernel) ⟨Nat.le_of_ble_eq_true rfl, Nat.le_of_ble_eq_true rfl⟩) hK hE (fun H h => h) (m_recv hK) rfl (Nat.le_of_ble_eq_true rfl) dX6_sell_101 ⟨Nat.le_of_ble_eq_true rfl, Nat.le_of_ble_eq_true rfl⟩ ?_
                refine g_if_ne S (tgt := 109) dX6_sell_104 (by decide) (fun c_104 => ?_) (fun c_104 => ?_)
                · exact absurd c_104 (by decide)
                · refine g_iconst S (v := 0) dX6_sell_107 (by decide) ?_
                  exact g_iret S hlk hr (fun H h => (by simp (config := { decide := true }) only [gRet, mSell, c_11, c_33, c_42, c_52, c_62, if_true, if_false, reduceIte, Bool.false_eq_true, not_true_eq_false, not_false_eq_true, ite_not, true_and, and_true, Bool.and_self, Bool.and_true, Bool.true_and, Bool.and_false, Bool.false_and]; first | exact ⟨rfl, h⟩ | exact h)) (Nat.le_refl _) (Nat.le_refl _) dX6_sell_108
            · exact absurd (c_75.symm.trans c_33) (by decide)
  · refine g_iload_n S dX6_sell_14 rfl ?_
    refine g_iconst S (v := 0) dX6_sell_15 (by decide) ?_
    refine g_ldc S (S.2.2.2.2 _ (List.mem_of_getElem? (i := 1) rfl)) dX6_sell_16 ?_
    refine g_cSr S (c_in l D ty A _ _ _ _) (va_cwS 3 S.2.2.2.2 gX6_sell_X6_in rfl rfl rfl (by decide +kernel) ⟨Nat.le_of_ble_eq_true rfl, Nat.le_of_ble_eq_true rfl⟩) hK hE (fun H h => h) rfl (Nat.le_of_ble_eq_true rfl) dX6_sell_18 ⟨Nat.le_of_ble_eq_true rfl, Nat.le_of_ble_eq_true rfl⟩ ?_
    refine g_ifb_eq S (tgt := 28) dX6_sell_21 (by decide) (fun c_21 => ?_) (fun c_21 => ?_)
    · refine g_iconst S (v := 0) dX6_sell_28 (by decide) ?_
      refine g_istore S dX6_sell_29 (by decide) rfl ?_
      refine g_iload S dX6_sell_31 rfl ?_
      refine g_ifb_eq S (tgt := 69) dX6_sell_33 (by decide) (fun c_33 => ?_) (fun c_33 => ?_)
      · refine g_iconst S (v := 0) dX6_sell_69 (by decide) ?_
        refine g_istore S dX6_sell_70 (by decide) rfl ?_
        refine g_aload_n S dX6_sell_72 rfl ?_
        refine g_iload S dX6_sell_73 rfl ?_
        refine g_ifb_ne S (tgt := 82) dX6_sell_75 (by decide) (fun c_75 => ?_) (fun c_75 => ?_)
        · exact absurd (c_75.symm.trans c_33) (by decide)
        · refine g_iconst S (v := 1) dX6_sell_78 (by decide) ?_
          refine g_goto S (tgt := 101) dX6_sell_79 (by decide) ?_
          refine g_cVr S (c_goesWell l D ty A mo ad _ _) (cwV 1 S.2.2.2.2 gX6_sell_X6_goesWell rfl rfl rfl (by decide +kernel) ⟨Nat.le_of_ble_eq_true rfl, Nat.le_of_ble_eq_true rfl⟩) hK hE (fun H h => h) (m_recv hK) rfl (Nat.le_of_ble_eq_true rfl) dX6_sell_101 ⟨Nat.le_of_ble_eq_true rfl, Nat.le_of_ble_eq_true rfl⟩ ?_
          refine g_if_ne S (tgt := 109) dX6_sell_104 (by decide) (fun c_104 => ?_) (fun c_104 => ?_)
          · exact absurd c_104 (by decide)
          · refine g_iconst S (v := 0) dX6_sell_107 (by decide) ?_
            exact g_iret S hlk hr (fun H h => (by simp (config := { decide := true }) only [gRet, mSell, c_11, c_21, c_33, if_true, if_false, reduceIte, Bool.false_eq_true, not_true_eq_false, not_false_eq_true, ite_not, true_and, and_true, Bool.and_self, Bool.and_true, Bool.true_and, Bool.and_false, Bool.false_and]; first | exact ⟨rfl, h⟩ | exact h)) (Nat.le_refl _) (Nat.le_refl _) dX6_sell_108
      · refine g_aload_n S dX6_sell_36 rfl ?_
        refine m_getf S hK 21 (by decide) (S.2.2.2.2 _ (List.mem_of_getElem? (i := 2) rfl)) rfl dX6_sell_37 ?_
        refine g_iload_n S dX6_sell_40 rfl ?_
        refine m_iald S hK (by decide) (by first | assumption | exact rin c_33 hn.2.2.1) dX6_sell_41 ?_
        refine g_if_le S (tgt := 69) dX6_sell_42 (by decide) (fun c_42 => ?_) (fun c_42 => ?_)
        · refine g_iconst S (v := 0) dX6_sell_69 (by decide) ?_
          refine g_istore S dX6_sell_70 (by decide) rfl ?_
          refine g_aload_n S dX6_sell_72 rfl ?_
          refine g_iload S dX6_sell_73 rfl ?_
          refine g_ifb_ne S (tgt := 82) dX6_sell_75 (by decide) (fun c_75 => ?_) (fun c_75 => ?_)
          · refine g_iload S dX6_sell_82 rfl ?_
            refine g_if_ne S (tgt := 91) dX6_sell_84 (by decide) (fun c_84 => ?_) (fun c_84 => ?_)
            · exact absurd c_84 (by decide)
            · refine g_iconst S (v := 2) dX6_sell_87 (by decide) ?_
              refine g_goto S (tgt := 101) dX6_sell_88 (by decide) ?_
              refine g_cVr S (c_goesWell l D ty A mo ad _ _) (cwV 1 S.2.2.2.2 gX6_sell_X6_goesWell rfl rfl rfl (by decide +kernel) ⟨Nat.le_of_ble_eq_true rfl, Nat.le_of_ble_eq_true rfl⟩) hK hE (fun H h => h) (m_recv hK) rfl (Nat.le_of_ble_eq_true rfl) dX6_sell_101 ⟨Nat.le_of_ble_eq_true rfl, Nat.le_of_ble_eq_true rfl⟩ ?_
              refine g_if_ne S (tgt := 109) dX6_sell_104 (by decide) (fun c_104 => ?_) (fun c_104 => ?_)
              · exact absurd c_104 (by decide)
              · refine g_iconst S (v := 0) dX6_sell_107 (by decide) ?_
                exact g_iret S hlk hr (fun H h => (by simp (config := { decide := true }) only [gRet, mSell, c_11, c_21, c_33, c_42, if_true, if_false, reduceIte, Bool.false_eq_true, not_true_eq_false, not_false_eq_true, ite_not, true_and, and_true, Bool.and_self, Bool.and_true, Bool.true_and, Bool.and_false, Bool.false_and]; first | exact ⟨rfl, h⟩ | exact h)) (Nat.le_refl _) (Nat.le_refl _) dX6_sell_108
          · exact absurd (c_75.symm.trans c_33) (by decide)
        · refine g_aload_n S dX6_sell_45 rfl ?_
          refine m_getf S hK 25 (by decide) (S.2.2.2.2 _ (List.mem_of_getElem? (i := 3) rfl)) rfl dX6_sell_46 ?_
          refine g_iload_n S dX6_sell_49 rfl ?_
          refine m_iald S hK (by decide) (by first | assumption | exact rin c_33 hn.2.2.1) dX6_sell_50 ?_
          refine g_iconst S (v := (-1)) dX6_sell_51 (by decide) ?_
          refine g_icmp_ne S (tgt := 69) dX6_sell_52 (by decide) (fun c_52 => ?_) (fun c_52 => ?_)
          · refine g_iconst S (v := 0) dX6_sell_69 (by decide) ?_
            refine g_istore S dX6_sell_70 (by decide) rfl ?_
            refine g_aload_n S dX6_sell_72 rfl ?_
            refine g_iload S dX6_sell_73 rfl ?_
            refine g_ifb_ne S (tgt := 82) dX6_sell_75 (by decide) (fun c_75 => ?_) (fun c_75 => ?_)
            · refine g_iload S dX6_sell_82 rfl ?_
              refine g_if_ne S (tgt := 91) dX6_sell_84 (by decide) (fun c_84 => ?_) (fun c_84 => ?_)
              · exact absurd c_84 (by decide)
              · refine g_iconst S (v := 2) dX6_sell_87 (by decide) ?_
                refine g_goto S (tgt := 101) dX6_sell_88 (by decide) ?_
                refine g_cVr S (c_goesWell l D ty A mo ad _ _) (cwV 1 S.2.2.2.2 gX6_sell_X6_goesWell rfl rfl rfl (by decide +kernel) ⟨Nat.le_of_ble_eq_true rfl, Nat.le_of_ble_eq_true rfl⟩) hK hE (fun H h => h) (m_recv hK) rfl (Nat.le_of_ble_eq_true rfl) dX6_sell_101 ⟨Nat.le_of_ble_eq_true rfl, Nat.le_of_ble_eq_true rfl⟩ ?_
                refine g_if_ne S (tgt := 109) dX6_sell_104 (by decide) (fun c_104 => ?_) (fun c_104 => ?_)
                · exact absurd c_104 (by decide)
                · refine g_iconst S (v := 0) dX6_sell_107 (by decide) ?_
                  exact g_iret S hlk hr (fun H h => (by simp (config := { decide := true }) only [gRet, mSell, c_11, c_21, c_33, c_42, c_52, if_true, if_false, reduceIte, Bool.false_eq_true, not_true_eq_false, not_false_eq_true, ite_not, true_and, and_true, Bool.and_self, Bool.and_true, Bool.true_and, Bool.and_false, Bool.false_and]; first | exact ⟨rfl, h⟩ | exact h)) (Nat.le_refl _) (Nat.le_refl _) dX6_sell_108
            · exact absurd (c_75.symm.trans c_33) (by decide)
          · refine g_aload_n S dX6_sell_55 rfl ?_
            refine m_getf S hK 22 (by decide) (S.2.2.2.2 _ (List.mem_of_getElem? (i := 4) rfl)) rfl dX6_sell_56 ?_
            refine g_iload_n S dX6_sell_59 rfl ?_
            refine m_iald S hK (by decide) (by first | assumption | exact rin c_33 hn.2.2.1) dX6_sell_60 ?_
            refine g_iload_n S dX6_sell_61 rfl ?_
            refine g_icmp_eq S (tgt := 69) dX6_sell_62 (by decide) (fun c_62 => ?_) (fun c_62 => ?_)
            · refine g_iconst S (v := 0) dX6_sell_69 (by decide) ?_
              refine g_istore S dX6_sell_70 (by decide) rfl ?_
              refine g_aload_n S dX6_sell_72 rfl ?_
              refine g_iload S dX6_sell_73 rfl ?_
              refine g_ifb_ne S (tgt := 82) dX6_sell_75 (by decide) (fun c_75 => ?_) (fun c_75 => ?_)
              · refine g_iload S dX6_sell_82 rfl ?_
                refine g_if_ne S (tgt := 91) dX6_sell_84 (by decide) (fun c_84 => ?_) (fun c_84 => ?_)
                · exact absurd c_84 (by decide)
                · refine g_iconst S (v := 2) dX6_sell_87 (by decide) ?_
                  refine g_goto S (tgt := 101) dX6_sell_88 (by decide) ?_
                  refine g_cVr S (c_goesWell l D ty A mo ad _ _) (cwV 1 S.2.2.2.2 gX6_sell_X6_goesWell rfl rfl rfl (by decide +kernel) ⟨Nat.le_of_ble_eq_true rfl, Nat.le_of_ble_eq_true rfl⟩) hK hE (fun H h => h) (m_recv hK) rfl (Nat.le_of_ble_eq_true rfl) dX6_sell_101 ⟨Nat.le_of_ble_eq_true rfl, Nat.le_of_ble_eq_true rfl⟩ ?_
                  refine g_if_ne S (tgt := 109) dX6_sell_104 (by decide) (fun c_104 => ?_) (fun c_104 => ?_)
                  · exact absurd c_104 (by decide)
                  · refine g_iconst S (v := 0) dX6_sell_107 (by decide) ?_
                    exact g_iret S hlk hr (fun H h => (by simp (config := { decide := true }) only [gRet, mSell, c_11, c_21, c_33, c_42, c_52, c_62, if_true, if_false, reduceIte, Bool.false_eq_true, not_true_eq_false, not_false_eq_true, ite_not, true_and, and_true, Bool.and_self, Bool.and_true, Bool.true_and, Bool.and_false, Bool.false_and]; first | exact ⟨rfl, h⟩ | exact h)) (Nat.le_refl _) (Nat.le_refl _) dX6_sell_108
              · exact absurd (c_75.symm.trans c_33) (by decide)
            · refine g_iconst S (v := 1) dX6_sell_65 (by decide) ?_
              refine g_goto S (tgt := 70) dX6_sell_66 (by decide) ?_
              refine g_istore S dX6_sell_70 (by decide) rfl ?_
              refine g_aload_n S dX6_sell_72 rfl ?_
              refine g_iload S dX6_sell_73 rfl ?_
              refine g_ifb_ne S (tgt := 82) dX6_sell_75 (by decide) (fun c_75 => ?_) (fun c_75 => ?_)
              · refine g_iload S dX6_sell_82 rfl ?_
                refine g_if_ne S (tgt := 91) dX6_sell_84 (by decide) (fun c_84 => ?_) (fun c_84 => ?_)
                · exact absurd c_84 (by decide)
                · refine g_iconst S (v := 2) dX6_sell_87 (by decide) ?_
                  refine g_goto S (tgt := 101) dX6_sell_88 (by decide) ?_
                  refine g_cVr S (c_goesWell l D ty A mo ad _ _) (cwV 1 S.2.2.2.2 gX6_sell_X6_goesWell rfl rfl rfl (by decide +kernel) ⟨Nat.le_of_ble_eq_true rfl, Nat.le_of_ble_eq_true rfl⟩) hK hE (fun H h => h) (m_recv hK) rfl (Nat.le_of_ble_eq_true rfl) dX6_sell_101 ⟨Nat.le_of_ble_eq_true rfl, Nat.le_of_ble_eq_true rfl⟩ ?_
                  refine g_if_ne S (tgt := 109) dX6_sell_104 (by decide) (fun c_104 => ?_) (fun c_104 => ?_)
                  · exact absurd c_104 (by decide)
                  · refine g_iconst S (v := 0) dX6_sell_107 (by decide) ?_
                    exact g_iret S hlk hr (fun H h => (by simp (config := { decide := true }) only [gRet, mSell, c_11, c_21, c_33, c_42, c_52, c_62, if_true, if_false, reduceIte, Bool.false_eq_true, not_true_eq_false, not_false_eq_true, ite_not, true_and, and_true, Bool.and_self, Bool.and_true, Bool.true_and, Bool.and_false, Bool.false_and]; first | exact ⟨rfl, h⟩ | exact h)) (Nat.le_refl _) (Nat.le_refl _) dX6_sell_108
              · exact absurd (c_75.symm.trans c_33) (by decide)
    · refine g_iconst S (v := 1) dX6_sell_24 (by decide) ?_
      refine g_goto S (tgt := 29) dX6_sell_25 (by decide) ?_
      refine g_istore S dX6_sell_29 (by decide) rfl ?_
      refine g_iload S dX6_sell_31 rfl ?_
      refine g_ifb_eq S (tgt := 69) dX6_sell_33 (by decide) (fun c_33 => ?_) (fun c_33 => ?_)
      · refine g_iconst S (v := 0) dX6_sell_69 (by decide) ?_
        refine g_istore S dX6_sell_70 (by decide) rfl ?_
        refine g_aload_n S dX6_sell_72 rfl ?_
        refine g_iload S dX6_sell_73 rfl ?_
        refine g_ifb_ne S (tgt := 82) dX6_sell_75 (by decide) (fun c_75 => ?_) (fun c_75 => ?_)
        · exact absurd (c_75.symm.trans c_33) (by decide)
        · refine g_iconst S (v := 1) dX6_sell_78 (by decide) ?_
          refine g_goto S (tgt := 101) dX6_sell_79 (by decide) ?_
          refine g_cVr S (c_goesWell l D ty A mo ad _ _) (cwV 1 S.2.2.2.2 gX6_sell_X6_goesWell rfl rfl rfl (by decide +kernel) ⟨Nat.le_of_ble_eq_true rfl, Nat.le_of_ble_eq_true rfl⟩) hK hE (fun H h => h) (m_recv hK) rfl (Nat.le_of_ble_eq_true rfl) dX6_sell_101 ⟨Nat.le_of_ble_eq_true rfl, Nat.le_of_ble_eq_true rfl⟩ ?_
          refine g_if_ne S (tgt := 109) dX6_sell_104 (by decide) (fun c_104 => ?_) (fun c_104 => ?_)
          · exact absurd c_104 (by decide)
          · refine g_iconst S (v := 0) dX6_sell_107 (by decide) ?_
            exact g_iret S hlk hr (fun H h => (by simp (config := { decide := true }) only [gRet, mSell, c_11, c_21, c_33, if_true, if_false, reduceIte, Bool.false_eq_true, not_true_eq_false, not_false_eq_true, ite_not, true_and, and_true, Bool.and_self, Bool.and_true, Bool.true_and, Bool.and_false, Bool.false_and]; first | exact ⟨rfl, h⟩ | exact h)) (Nat.le_refl _) (Nat.le_refl _) dX6_sell_108
      · refine g_aload_n S dX6_sell_36 rfl ?_
        refine m_getf S hK 21 (by decide) (S.2.2.2.2 _ (List.mem_of_getElem? (i := 2) rfl)) rfl dX6_sell_37 ?_
        refine g_iload_n S dX6_sell_40 rfl ?_
        refine m_iald S hK (by decide) (by first | assumption | exact rin c_33 hn.2.2.1) dX6_sell_41 ?_
        refine g_if_le S (tgt := 69) dX6_sell_42 (by decide) (fun c_42 => ?_) (fun c_42 => ?_)
        · refine g_iconst S (v := 0) dX6_sell_69 (by decide) ?_
          refine g_istore S dX6_sell_70 (by decide) rfl ?_
          refine g_aload_n S dX6_sell_72 rfl ?_
          refine g_iload S dX6_sell_73 rfl ?_
          refine g_ifb_ne S (tgt := 82) dX6_sell_75 (by decide) (fun c_75 => ?_) (fun c_75 => ?_)
          · refine g_iload S dX6_sell_82 rfl ?_
            refine g_if_ne S (tgt := 91) dX6_sell_84 (by decide) (fun c_84 => ?_) (fun c_84 => ?_)
            · refine g_iload S dX6_sell_91 rfl ?_
              refine g_if_eq S (tgt := 100) dX6_sell_93 (by decide) (fun c_93 => ?_) (fun c_93 => ?_)
              · refine g_iconst S (v := 3) dX6_sell_100 (by decide) ?_
                refine g_cVr S (c_goesWell l D ty A mo ad _ _) (cwV 1 S.2.2.2.2 gX6_sell_X6_goesWell rfl rfl rfl (by decide +kernel) ⟨Nat.le_of_ble_eq_true rfl, Nat.le_of_ble_eq_true rfl⟩) hK hE (fun H h => h) (m_recv hK) rfl (Nat.le_of_ble_eq_true rfl) dX6_sell_101 ⟨Nat.le_of_ble_eq_true rfl, Nat.le_of_ble_eq_true rfl⟩ ?_
                refine g_if_ne S (tgt := 109) dX6_sell_104 (by decide) (fun c_104 => ?_) (fun c_104 => ?_)
                · exact absurd c_104 (by decide)
                · refine g_iconst S (v := 0) dX6_sell_107 (by decide) ?_
                  exact g_iret S hlk hr (fun H h => (by simp (config := { decide := true }) only [gRet, mSell, c_11, c_21, c_33, c_42, if_true, if_false, reduceIte, Bool.false_eq_true, not_true_eq_false, not_false_eq_true, ite_not, true_and, and_true, Bool.and_self, Bool.and_true, Bool.true_and, Bool.and_false, Bool.false_and]; first | exact ⟨rfl, h⟩ | exact h)) (Nat.le_refl _) (Nat.le_refl _) dX6_sell_108
              · exact absurd c_93 (by decide)
            · exact absurd c_84 (by decide)
          · exact absurd (c_75.symm.trans c_33) (by decide)
        · refine g_aload_n S dX6_sell_45 rfl ?_
          refine m_getf S hK 25 (by decide) (S.2.2.2.2 _ (List.mem_of_getElem? (i := 3) rfl)) rfl dX6_sell_46 ?_
          refine g_iload_n S dX6_sell_49 rfl ?_
          refine m_iald S hK (by decide) (by first | assumption | exact rin c_33 hn.2.2.1) dX6_sell_50 ?_
          refine g_iconst S (v := (-1)) dX6_sell_51 (by decide) ?_
          refine g_icmp_ne S (tgt := 69) dX6_sell_52 (by decide) (fun c_52 => ?_) (fun c_52 => ?_)
          · refine g_iconst S (v := 0) dX6_sell_69 (by decide) ?_
            refine g_istore S dX6_sell_70 (by decide) rfl ?_
            refine g_aload_n S dX6_sell_72 rfl ?_
            refine g_iload S dX6_sell_73 rfl ?_
            refine g_ifb_ne S (tgt := 82) dX6_sell_75 (by decide) (fun c_75 => ?_) (fun c_75 => ?_)
            · refine g_iload S dX6_sell_82 rfl ?_
              refine g_if_ne S (tgt := 91) dX6_sell_84 (by decide) (fun c_84 => ?_) (fun c_84 => ?_)
              · refine g_iload S dX6_sell_91 rfl ?_
                refine g_if_eq S (tgt := 100) dX6_sell_93 (by decide) (fun c_93 => ?_) (fun c_93 => ?_)
                · refine g_iconst S (v := 3) dX6_sell_100 (by decide) ?_
                  refine g_cVr S (c_goesWell l D ty A mo ad _ _) (cwV 1 S.2.2.2.2 gX6_sell_X6_goesWell rfl rfl rfl (by decide +kernel) ⟨Nat.le_of_ble_eq_true rfl, Nat.le_of_ble_eq_true rfl⟩) hK hE (fun H h => h) (m_recv hK) rfl (Nat.le_of_ble_eq_true rfl) dX6_sell_101 ⟨Nat.le_of_ble_eq_true rfl, Nat.le_of_ble_eq_true rfl⟩ ?_
                  refine g_if_ne S (tgt := 109) dX6_sell_104 (by decide) (fun c_104 => ?_) (fun c_104 => ?_)
                  · exact absurd c_104 (by decide)
                  · refine g_iconst S (v := 0) dX6_sell_107 (by decide) ?_
                    exact g_iret S hlk hr (fun H h => (by simp (config := { decide := true }) only [gRet, mSell, c_11, c_21, c_33, c_42, c_52, if_true, if_false, reduceIte, Bool.false_eq_true, not_true_eq_false, not_false_eq_true, ite_not, true_and, and_true, Bool.and_self, Bool.and_true, Bool.true_and, Bool.and_false, Bool.false_and]; first | exact ⟨rfl, h⟩ | exact h)) (Nat.le_refl _) (Nat.le_refl _) dX6_sell_108
                · exact absurd c_93 (by decide)
              · exact absurd c_84 (by decide)
            · exact absurd (c_75.symm.trans c_33) (by decide)
          · refine g_aload_n S dX6_sell_55 rfl ?_
            refine m_getf S hK 22 (by decide) (S.2.2.2.2 _ (List.mem_of_getElem? (i := 4) rfl)) rfl dX6_sell_56 ?_
            refine g_iload_n S dX6_sell_59 rfl ?_
            refine m_iald S hK (by decide) (by first | assumption | exact rin c_33 hn.2.2.1) dX6_sell_60 ?_
            refine g_iload_n S dX6_sell_61 rfl ?_
            refine g_icmp_eq S (tgt := 69) dX6_sell_62 (by decide) (fun c_62 => ?_) (fun c_62 => ?_)
            · refine g_iconst S (v := 0) dX6_sell_69 (by decide) ?_
              refine g_istore S dX6_sell_70 (by decide) rfl ?_
              refine g_aload_n S dX6_sell_72 rfl ?_
              refine g_iload S dX6_sell_73 rfl ?_
              refine g_ifb_ne S (tgt := 82) dX6_sell_75 (by decide) (fun c_75 => ?_) (fun c_75 => ?_)
              · refine g_iload S dX6_sell_82 rfl ?_
                refine g_if_ne S (tgt := 91) dX6_sell_84 (by decide) (fun c_84 => ?_) (fun c_84 => ?_)
                · refine g_iload S dX6_sell_91 rfl ?_
                  refine g_if_eq S (tgt := 100) dX6_sell_93 (by decide) (fun c_93 => ?_) (fun c_93 => ?_)
                  · refine g_iconst S (v := 3) dX6_sell_100 (by decide) ?_
                    refine g_cVr S (c_goesWell l D ty A mo ad _ _) (cwV 1 S.2.2.2.2 gX6_sell_X6_goesWell rfl rfl rfl (by decide +kernel) ⟨Nat.le_of_ble_eq_true rfl, Nat.le_of_ble_eq_true rfl⟩) hK hE (fun H h => h) (m_recv hK) rfl (Nat.le_of_ble_eq_true rfl) dX6_sell_101 ⟨Nat.le_of_ble_eq_true rfl, Nat.le_of_ble_eq_true rfl⟩ ?_
                    refine g_if_ne S (tgt := 109) dX6_sell_104 (by decide) (fun c_104 => ?_) (fun c_104 => ?_)
                    · exact absurd c_104 (by decide)
                    · refine g_iconst S (v := 0) dX6_sell_107 (by decide) ?_
                      exact g_iret S hlk hr (fun H h => (by simp (config := { decide := true }) only [gRet, mSell, c_11, c_21, c_33, c_42, c_52, c_62, if_true, if_false, reduceIte, Bool.false_eq_true, not_true_eq_false, not_false_eq_true, ite_not, true_and, and_true, Bool.and_self, Bool.and_true, Bool.true_and, Bool.and_false, Bool.false_and]; first | exact ⟨rfl, h⟩ | exact h)) (Nat.le_refl _) (Nat.le_refl _) dX6_sell_108
                  · exact absurd c_93 (by decide)
                · exact absurd c_84 (by decide)
              · exact absurd (c_75.symm.trans c_33) (by decide)
            · refine g_iconst S (v := 1) dX6_sell_65 (by decide) ?_
              refine g_goto S (tgt := 70) dX6_sell_66 (by decide) ?_
              refine g_istore S dX6_sell_70 (by decide) rfl ?_
              refine g_aload_n S dX6_sell_72 rfl ?_
              refine g_iload S dX6_sell_73 rfl ?_
              refine g_ifb_ne S (tgt := 82) dX6_sell_75 (by decide) (fun c_75 => ?_) (fun c_75 => ?_)
              · refine g_iload S dX6_sell_82 rfl ?_
                refine g_if_ne S (tgt := 91) dX6_sell_84 (by decide) (fun c_84 => ?_) (fun c_84 => ?_)
                · refine g_iload S dX6_sell_91 rfl ?_
                  refine g_if_eq S (tgt := 100) dX6_sell_93 (by decide) (fun c_93 => ?_) (fun c_93 => ?_)
                  · exact absurd c_93 (by decide)
                  · refine g_iconst S (v := 0) dX6_sell_96 (by decide) ?_
                    refine g_goto S (tgt := 101) dX6_sell_97 (by decide) ?_
                    refine g_cVr S (c_goesWell l D ty A mo ad _ _) (cwV 1 S.2.2.2.2 gX6_sell_X6_goesWell rfl rfl rfl (by decide +kernel) ⟨Nat.le_of_ble_eq_true rfl, Nat.le_of_ble_eq_true rfl⟩) hK hE (fun H h => h) (m_recv hK) rfl (Nat.le_of_ble_eq_true rfl) dX6_sell_101 ⟨Nat.le_of_ble_eq_true rfl, Nat.le_of_ble_eq_true rfl⟩ ?_
                    refine g_if_ne S (tgt := 109) dX6_sell_104 (by decide) (fun c_104 => ?_) (fun c_104 => ?_)
                    · refine g_aload_n S dX6_sell_109 rfl ?_
                      refine m_getf S hK 22 (by decide) (S.2.2.2.2 _ (List.mem_of_getElem? (i := 4) rfl)) rfl dX6_sell_110 ?_
                      refine g_iload_n S dX6_sell_113 rfl ?_
                      refine m_iald S hK (by decide) (by first | assumption | exact rin c_33 hn.2.2.1) dX6_sell_114 ?_
                      refine g_istore S dX6_sell_115 (by decide) rfl ?_
                      refine g_aload_n S dX6_sell_117 rfl ?_
                      refine g_iload_n S dX6_sell_118 rfl ?_
                      refine g_iload S dX6_sell_119 rfl ?_
                      refine g_iload_n S dX6_sell_121 rfl ?_
                      refine g_i2l S dX6_sell_122 ?_
                      refine g_cVv S (c_mpay l D ty A mo ad _ _ _ _ (by exact vin_mIn c_11 (by decide)) (by exact hw 22 _)) (cwV 3 S.2.2.2.2 gX6_sell_X6_pay rfl rfl rfl (by decide +kernel) ⟨Nat.le_of_ble_eq_true rfl, Nat.le_of_ble_eq_true rfl⟩) hK hE (fun H h => h) (m_recv hK) rfl (Nat.le_of_ble_eq_true rfl) dX6_sell_123 ⟨Nat.le_of_ble_eq_true rfl, Nat.le_of_ble_eq_true rfl⟩ ?_
                      refine g_aload_n S dX6_sell_126 rfl ?_
                      refine g_iload_n S dX6_sell_127 rfl ?_
                      refine g_iload_n S dX6_sell_128 rfl ?_
                      refine g_cVv S (c_become l D ty A mo ad _ _ _ (by exact rin c_33 hn.2.2.1) (by exact (vin_mono hc (by decide)))) (cwV 2 S.2.2.2.2 gX6_sell_X6_become rfl rfl rfl (by decide +kernel) ⟨Nat.le_of_ble_eq_true rfl, Nat.le_of_ble_eq_true rfl⟩) hK hE (fun H h => h) (m_recv hK) rfl (Nat.le_of_ble_eq_true rfl) dX6_sell_129 ⟨Nat.le_of_ble_eq_true rfl, Nat.le_of_ble_eq_true rfl⟩ ?_
                      refine g_iload S dX6_sell_132 rfl ?_
                      exact g_iret S hlk hr (fun H h => (by simp (config := { decide := true }) only [gRet, mSell, c_11, c_21, c_33, c_42, c_52, c_62, if_true, if_false, reduceIte, Bool.false_eq_true, not_true_eq_false, not_false_eq_true, ite_not, true_and, and_true, Bool.and_self, Bool.and_true, Bool.true_and, Bool.and_false, Bool.false_and]; first | exact ⟨rfl, h⟩ | exact h)) (Nat.le_refl _) (Nat.le_refl _) dX6_sell_134
                    · exact absurd c_104 (by decide)
                · exact absurd c_84 (by decide)
              · exact absurd (c_75.symm.trans c_33) (by decide)

abbrev rmX6_pledge : Room := { frames := 2, cells := 0, slots := 0, locals := 43 }
set_option maxHeartbeats 4000000 in
set_option maxRecDepth 100000 in
theorem c_mpledge (l : Launch) (D : va_G) (ty : Nat → ClassId) (A : Nat → Prop) (mo : Nat) (ad : Nat → Nat) (a : MS) (r to cents days : Int32) (hw : mWf a) (hn : mCnt a) (hc : vp_in (gS a 29) 5900) : Met l yX6_pledge wsX6_pledge rmX6_pledge (gPc D ty false [] 0 A [.ref mo, .int r, .int to, .int cents, .int days] (hM D ty A mo ad a)) (gQ A (gRet (some (.int (mPledge a r to cents days).1)) (hM D ty A mo ad (mPledge a r to cents days).2))) 0 0 A := by
  refine g_Met (cc := cX6_pledge) (maxL := 8) (ret := (some .int)) [some (.ref mo), some (.int r), some (.int to), some (.int cents), some (.int days), none, none, none] (by decide) rfl (Nat.le_of_ble_eq_true rfl) rfl ?_
  intro p e s m args below meth c S hlk hr hnm hK hE hP0
  have S : CallFix p m c cX6_pledge 8 s args wsX6_pledge RX6 := S
  refine g_aload_n S dX6_pledge_0 rfl ?_
  refine g_iload_n S dX6_pledge_1 rfl ?_
  refine g_cVr S (c_isReceipt l D ty A mo ad _ _) (cwV 1 S.2.2.2.2 gX6_pledge_X6_isReceipt rfl rfl rfl (by decide +kernel) ⟨Nat.le_of_ble_eq_true rfl, Nat.le_of_ble_eq_true rfl⟩) hK hE (fun H h => h) (m_recv hK) rfl (Nat.le_of_ble_eq_true rfl) dX6_pledge_2 ⟨Nat.le_of_ble_eq_true rfl, Nat.le_of_ble_eq_true rfl⟩ ?_
  refine g_istore S dX6_pledge_5 (by decide) rfl ?_
  refine g_iload_n S dX6_pledge_7 rfl ?_
  refine g_cSr S (c_isHolder l D ty A _ _) (va_cwS 1 S.2.2.2.2 gX6_pledge_X6_isHolder rfl rfl rfl (by decide +kernel) ⟨Nat.le_of_ble_eq_true rfl, Nat.le_of_ble_eq_true rfl⟩) hK hE (fun H h => h) rfl (Nat.le_of_ble_eq_true rfl) dX6_pledge_8 ⟨Nat.le_of_ble_eq_true rfl, Nat.le_of_ble_eq_true rfl⟩ ?_
  refine g_ifb_eq S (tgt := 39) dX6_pledge_11 (by decide) (fun c_11 => ?_) (fun c_11 => ?_)
  · refine g_iconst S (v := 0) dX6_pledge_39 (by decide) ?_
    refine g_istore S dX6_pledge_40 (by decide) rfl ?_
    refine g_iload S dX6_pledge_42 rfl ?_
    refine g_ifb_eq S (tgt := 80) dX6_pledge_44 (by decide) (fun c_44 => ?_) (fun c_44 => ?_)
    · refine g_iconst S (v := 0) dX6_pledge_80 (by decide) ?_
      refine g_istore S dX6_pledge_81 (by decide) rfl ?_
      refine g_aload_n S dX6_pledge_83 rfl ?_
      refine g_iload S dX6_pledge_84 rfl ?_
      refine g_ifb_ne S (tgt := 93) dX6_pledge_86 (by decide) (fun c_86 => ?_) (fun c_86 => ?_)
      · exact absurd (c_86.symm.trans c_44) (by decide)
      · refine g_iconst S (v := 1) dX6_pledge_89 (by decide) ?_
        refine g_goto S (tgt := 112) dX6_pledge_90 (by decide) ?_
        refine g_cVr S (c_goesWell l D ty A mo ad _ _) (cwV 1 S.2.2.2.2 gX6_pledge_X6_goesWell rfl rfl rfl (by decide +kernel) ⟨Nat.le_of_ble_eq_true rfl, Nat.le_of_ble_eq_true rfl⟩) hK hE (fun H h => h) (m_recv hK) rfl (Nat.le_of_ble_eq_true rfl) dX6_pledge_112 ⟨Nat.le_of_ble_eq_true rfl, Nat.le_of_ble_eq_true rfl⟩ ?_
        refine g_if_ne S (tgt := 120) dX6_pledge_115 (by decide) (fun c_115 => ?_) (fun c_115 => ?_)
        · exact absurd c_115 (by decide)
        · refine g_iconst S (v := 0) dX6_pledge_118 (by decide) ?_
          exact g_iret S hlk hr (fun H h => (by simp (config := { decide := true }) only [gRet, mPledge, c_11, c_44, if_true, if_false, reduceIte, Bool.false_eq_true, not_true_eq_false, not_false_eq_true, ite_not, true_and, and_true, Bool.and_self, Bool.and_true, Bool.true_and, Bool.and_false, Bool.false_and]; first | exact ⟨rfl, h⟩ | exact h)) (Nat.le_refl _) (Nat.le_refl _) dX6_pledge_119
    · refine g_aload_n S dX6_pledge_47 rfl ?_
      refine m_getf S hK 21 (by decide) (S.2.2.2.2 _ (List.mem_of_getElem? (i := 2) rfl)) rfl dX6_pledge_48 ?_
      refine g_iload_n S dX6_pledge_51 rfl ?_
      refine m_iald S hK (by decide) (by first | assumption | exact rin c_44 hn.2.2.1) dX6_pledge_52 ?_
      refine g_if_le S (tgt := 80) dX6_pledge_53 (by decide) (fun c_53 => ?_) (fun c_53 => ?_)
      · refine g_iconst S (v := 0) dX6_pledge_80 (by decide) ?_
        refine g_istore S dX6_pledge_81 (by decide) rfl ?_
        refine g_aload_n S dX6_pledge_83 rfl ?_
        refine g_iload S dX6_pledge_84 rfl ?_
        refine g_ifb_ne S (tgt := 93) dX6_pledge_86 (by decide) (fun c_86 => ?_) (fun c_86 => ?_)
        · refine g_iload S dX6_pledge_93 rfl ?_
          refine g_if_ne S (tgt := 102) dX6_pledge_95 (by decide) (fun c_95 => ?_) (fun c_95 => ?_)
          · exact absurd c_95 (by decide)
          · refine g_iconst S (v := 2) dX6_pledge_98 (by decide) ?_
            refine g_goto S (tgt := 112) dX6_pledge_99 (by decide) ?_
            refine g_cVr S (c_goesWell l D ty A mo ad _ _) (cwV 1 S.2.2.2.2 gX6_pledge_X6_goesWell rfl rfl rfl (by decide +kernel) ⟨Nat.le_of_ble_eq_true rfl, Nat.le_of_ble_eq_true rfl⟩) hK hE (fun H h => h) (m_recv hK) rfl (Nat.le_of_ble_eq_true rfl) dX6_pledge_112 ⟨Nat.le_of_ble_eq_true rfl, Nat.le_of_ble_eq_true rfl⟩ ?_
            refine g_if_ne S (tgt := 120) dX6_pledge_115 (by decide) (fun c_115 => ?_) (fun c_115 => ?_)
            · exact absurd c_115 (by decide)
            · refine g_iconst S (v := 0) dX6_pledge_118 (by decide) ?_
              exact g_iret S hlk hr (fun H h => (by simp (config := { decide := true }) only [gRet, mPledge, c_11, c_44, c_53, if_true, if_false, reduceIte, Bool.false_eq_true, not_true_eq_false, not_false_eq_true, ite_not, true_and, and_true, Bool.and_self, Bool.and_true, Bool.true_and, Bool.and_false, Bool.false_and]; first | exact ⟨rfl, h⟩ | exact h)) (Nat.le_refl _) (Nat.le_refl _) dX6_pledge_119
        · exact absurd (c_86.symm.trans c_44) (by decide)
      · refine g_aload_n S dX6_pledge_56 rfl ?_
        refine m_getf S hK 25 (by decide) (S.2.2.2.2 _ (List.mem_of_getElem? (i := 3) rfl)) rfl dX6_pledge_57 ?_
        refine g_iload_n S dX6_pledge_60 rfl ?_
        refine m_iald S hK (by decide) (by first | assumption | exact rin c_44 hn.2.2.1) dX6_pledge_61 ?_
        refine g_iconst S (v := (-1)) dX6_pledge_62 (by decide) ?_
        refine g_icmp_ne S (tgt := 80) dX6_pledge_63 (by decide) (fun c_63 => ?_) (fun c_63 => ?_)
        · refine g_iconst S (v := 0) dX6_pledge_80 (by decide) ?_
          refine g_istore S dX6_pledge_81 (by decide) rfl ?_
          refine g_aload_n S dX6_pledge_83 rfl ?_
          refine g_iload S dX6_pledge_84 rfl ?_
          refine g_ifb_ne S (tgt := 93) dX6_pledge_86 (by decide) (fun c_86 => ?_) (fun c_86 => ?_)
          · refine g_iload S dX6_pledge_93 rfl ?_
            refine g_if_ne S (tgt := 102) dX6_pledge_95 (by decide) (fun c_95 => ?_) (fun c_95 => ?_)
            · exact absurd c_95 (by decide)
            · refine g_iconst S (v := 2) dX6_pledge_98 (by decide) ?_
              refine g_goto S (tgt := 112) dX6_pledge_99 (by decide) ?_
              refine g_cVr S (c_goesWell l D ty A mo ad _ _) (cwV 1 S.2.2.2.2 gX6_pledge_X6_goesWell rfl rfl rfl (by decide +kernel) ⟨Nat.le_of_ble_eq_true rfl, Nat.le_of_ble_eq_true rfl⟩) hK hE (fun H h => h) (m_recv hK) rfl (Nat.le_of_ble_eq_true rfl) dX6_pledge_112 ⟨Nat.le_of_ble_eq_true rfl, Nat.le_of_ble_eq_true rfl⟩ ?_
              refine g_if_ne S (tgt := 120) dX6_pledge_115 (by decide) (fun c_115 => ?_) (fun c_115 => ?_)
              · exact absurd c_115 (by decide)
              · refine g_iconst S (v := 0) dX6_pledge_118 (by decide) ?_
                exact g_iret S hlk hr (fun H h => (by simp (config := { decide := true }) only [gRet, mPledge, c_11, c_44, c_53, c_63, if_true, if_false, reduceIte, Bool.false_eq_true, not_true_eq_false, not_false_eq_true, ite_not, true_and, and_true, Bool.and_self, Bool.and_true, Bool.true_and, Bool.and_false, Bool.false_and]; first | exact ⟨rfl, h⟩ | exact h)) (Nat.le_refl _) (Nat.le_refl _) dX6_pledge_119
          · exact absurd (c_86.symm.trans c_44) (by decide)
        · refine g_aload_n S dX6_pledge_66 rfl ?_
          refine m_getf S hK 22 (by decide) (S.2.2.2.2 _ (List.mem_of_getElem? (i := 4) rfl)) rfl dX6_pledge_67 ?_
          refine g_iload_n S dX6_pledge_70 rfl ?_
          refine m_iald S hK (by decide) (by first | assumption | exact rin c_44 hn.2.2.1) dX6_pledge_71 ?_
          refine g_iload_n S dX6_pledge_72 rfl ?_
          refine g_icmp_eq S (tgt := 80) dX6_pledge_73 (by decide) (fun c_73 => ?_) (fun c_73 => ?_)
          · refine g_iconst S (v := 0) dX6_pledge_80 (by decide) ?_
            refine g_istore S dX6_pledge_81 (by decide) rfl ?_
            refine g_aload_n S dX6_pledge_83 rfl ?_
            refine g_iload S dX6_pledge_84 rfl ?_
            refine g_ifb_ne S (tgt := 93) dX6_pledge_86 (by decide) (fun c_86 => ?_) (fun c_86 => ?_)
            · refine g_iload S dX6_pledge_93 rfl ?_
              refine g_if_ne S (tgt := 102) dX6_pledge_95 (by decide) (fun c_95 => ?_) (fun c_95 => ?_)
              · exact absurd c_95 (by decide)
              · refine g_iconst S (v := 2) dX6_pledge_98 (by decide) ?_
                refine g_goto S (tgt := 112) dX6_pledge_99 (by decide) ?_
                refine g_cVr S (c_goesWell l D ty A mo ad _ _) (cwV 1 S.2.2.2.2 gX6_pledge_X6_goesWell rfl rfl rfl (by decide +kernel) ⟨Nat.le_of_ble_eq_true rfl, Nat.le_of_ble_eq_true rfl⟩) hK hE (fun H h => h) (m_recv hK) rfl (Nat.le_of_ble_eq_true rfl) dX6_pledge_112 ⟨Nat.le_of_ble_eq_true rfl, Nat.le_of_ble_eq_true rfl⟩ ?_
                refine g_if_ne S (tgt := 120) dX6_pledge_115 (by decide) (fun c_115 => ?_) (fun c_115 => ?_)
                · exact absurd c_115 (by decide)
                · refine g_iconst S (v := 0) dX6_pledge_118 (by decide) ?_
                  exact g_iret S hlk hr (fun H h => (by simp (config := { decide := true }) only [gRet, mPledge, c_11, c_44, c_53, c_63, c_73, if_true, if_false, reduceIte, Bool.false_eq_true, not_true_eq_false, not_false_eq_true, ite_not, true_and, and_true, Bool.and_self, Bool.and_true, Bool.true_and, Bool.and_false, Bool.false_and]; first | exact ⟨rfl, h⟩ | exact h)) (Nat.le_refl _) (Nat.le_refl _) dX6_pledge_119
            · exact absurd (c_86.symm.trans c_44) (by decide)
          · refine g_iconst S (v := 1) dX6_pledge_76 (by decide) ?_
            refine g_goto S (tgt := 81) dX6_pledge_77 (by decide) ?_
            refine g_istore S dX6_pledge_81 (by decide) rfl ?_
            refine g_aload_n S dX6_pledge_83 rfl ?_
            refine g_iload S dX6_pledge_84 rfl ?_
            refine g_ifb_ne S (tgt := 93) dX6_pledge_86 (by decide) (fun c_86 => ?_) (fun c_86 => ?_)
            · refine g_iload S dX6_pledge_93 rfl ?_
              refine g_if_ne S (tgt := 102) dX6_pledge_95 (by decide) (fun c_95 => ?_) (fun c_95 => ?_)
              · exact absurd c_95 (by decide)
              · refine g_iconst S (v := 2) dX6_pledge_98 (by decide) ?_
                refine g_goto S (tgt := 112) dX6_pledge_99 (by decide) ?_
                refine g_cVr S (c_goesWell l D ty A mo ad _ _) (cwV 1 S.2.2.2.2 gX6_pledge_X6_goesWell rfl rfl rfl (by decide +kernel) ⟨Nat.le_of_ble_eq_true rfl, Nat.le_of_ble_eq_true rfl⟩) hK hE (fun H h => h) (m_recv hK) rfl (Nat.le_of_ble_eq_true rfl) dX6_pledge_112 ⟨Nat.le_of_ble_eq_true rfl, Nat.le_of_ble_eq_true rfl⟩ ?_
                refine g_if_ne S (tgt := 120) dX6_pledge_115 (by decide) (fun c_115 => ?_) (fun c_115 => ?_)
                · exact absurd c_115 (by decide)
                · refine g_iconst S (v := 0) dX6_pledge_118 (by decide) ?_
                  exact g_iret S hlk hr (fun H h => (by simp (config := { decide := true }) only [gRet, mPledge, c_11, c_44, c_53, c_63, c_73, if_true, if_false, reduceIte, Bool.false_eq_true, not_true_eq_false, not_false_eq_true, ite_not, true_and, and_true, Bool.and_self, Bool.and_true, Bool.true_and, Bool.and_false, Bool.false_and]; first | exact ⟨rfl, h⟩ | exact h)) (Nat.le_refl _) (Nat.le_refl _) dX6_pledge_119
            · exact absurd (c_86.symm.trans c_44) (by decide)
  · refine g_iload_n S dX6_pledge_14 rfl ?_
    refine g_iconst S (v := 0) dX6_pledge_15 (by decide) ?_
    refine g_ldc S (S.2.2.2.2 _ (List.mem_of_getElem? (i := 1) rfl)) dX6_pledge_16 ?_
    refine g_cSr S (c_in l D ty A _ _ _ _) (va_cwS 3 S.2.2.2.2 gX6_pledge_X6_in rfl rfl rfl (by decide +kernel) ⟨Nat.le_of_ble_eq_true rfl, Nat.le_of_ble_eq_true rfl⟩) hK hE (fun H h => h) rfl (Nat.le_of_ble_eq_true rfl) dX6_pledge_18 ⟨Nat.le_of_ble_eq_true rfl, Nat.le_of_ble_eq_true rfl⟩ ?_
    refine g_ifb_eq S (tgt := 39) dX6_pledge_21 (by decide) (fun c_21 => ?_) (fun c_21 => ?_)
    · refine g_iconst S (v := 0) dX6_pledge_39 (by decide) ?_
      refine g_istore S dX6_pledge_40 (by decide) rfl ?_
      refine g_iload S dX6_pledge_42 rfl ?_
      refine g_ifb_eq S (tgt := 80) dX6_pledge_44 (by decide) (fun c_44 => ?_) (fun c_44 => ?_)
      · refine g_iconst S (v := 0) dX6_pledge_80 (by decide) ?_
        refine g_istore S dX6_pledge_81 (by decide) rfl ?_
        refine g_aload_n S dX6_pledge_83 rfl ?_
        refine g_iload S dX6_pledge_84 rfl ?_
        refine g_ifb_ne S (tgt := 93) dX6_pledge_86 (by decide) (fun c_86 => ?_) (fun c_86 => ?_)
        · exact absurd (c_86.symm.trans c_44) (by decide)
        · refine g_iconst S (v := 1) dX6_pledge_89 (by decide) ?_
          refine g_goto S (tgt := 112) dX6_pledge_90 (by decide) ?_
          refine g_cVr S (c_goesWell l D ty A mo ad _ _) (cwV 1 S.2.2.2.2 gX6_pledge_X6_goesWell rfl rfl rfl (by decide +kernel) ⟨Nat.le_of_ble_eq_true rfl, Nat.le_of_ble_eq_true rfl⟩) hK hE (fun H h => h) (m_recv hK) rfl (Nat.le_of_ble_eq_true rfl) dX6_pledge_112 ⟨Nat.le_of_ble_eq_true rfl, Nat.le_of_ble_eq_true rfl⟩ ?_
          refine g_if_ne S (tgt := 120) dX6_pledge_115 (by decide) (fun c_115 => ?_) (fun c_115 => ?_)
          · exact absurd c_115 (by decide)
          · refine g_iconst S (v := 0) dX6_pledge_118 (by decide) ?_
            exact g_iret S hlk hr (fun H h => (by simp (config := { decide := true }) only [gRet, mPledge, c_11, c_21, c_44, if_true, if_false, reduceIte, Bool.false_eq_true, not_true_eq_false, not_false_eq_true, ite_not, true_and, and_true, Bool.and_self, Bool.and_true, Bool.true_and, Bool.and_false, Bool.false_and]; first | exact ⟨rfl, h⟩ | exact h)) (Nat.le_refl _) (Nat.le_refl _) dX6_pledge_119
      · refine g_aload_n S dX6_pledge_47 rfl ?_
        refine m_getf S hK 21 (by decide) (S.2.2.2.2 _ (List.mem_of_getElem? (i := 2) rfl)) rfl dX6_pledge_48 ?_
        refine g_iload_n S dX6_pledge_51 rfl ?_
        refine m_iald S hK (by decide) (by first | assumption | exact rin c_44 hn.2.2.1) dX6_pledge_52 ?_
        refine g_if_le S (tgt := 80) dX6_pledge_53 (by decide) (fun c_53 => ?_) (fun c_53 => ?_)
        · refine g_iconst S (v := 0) dX6_pledge_80 (by decide) ?_
          refine g_istore S dX6_pledge_81 (by decide) rfl ?_
          refine g_aload_n S dX6_pledge_83 rfl ?_
          refine g_iload S dX6_pledge_84 rfl ?_
          refine g_ifb_ne S (tgt := 93) dX6_pledge_86 (by decide) (fun c_86 => ?_) (fun c_86 => ?_)
          · refine g_iload S dX6_pledge_93 rfl ?_
            refine g_if_ne S (tgt := 102) dX6_pledge_95 (by decide) (fun c_95 => ?_) (fun c_95 => ?_)
            · exact absurd c_95 (by decide)
            · refine g_iconst S (v := 2) dX6_pledge_98 (by decide) ?_
              refine g_goto S (tgt := 112) dX6_pledge_99 (by decide) ?_
              refine g_cVr S (c_goesWell l D ty A mo ad _ _) (cwV 1 S.2.2.2.2 gX6_pledge_X6_goesWell rfl rfl rfl (by decide +kernel) ⟨Nat.le_of_ble_eq_true rfl, Nat.le_of_ble_eq_true rfl⟩) hK hE (fun H h => h) (m_recv hK) rfl (Nat.le_of_ble_eq_true rfl) dX6_pledge_112 ⟨Nat.le_of_ble_eq_true rfl, Nat.le_of_ble_eq_true rfl⟩ ?_
              refine g_if_ne S (tgt := 120) dX6_pledge_115 (by decide) (fun c_115 => ?_) (fun c_115 => ?_)
              · exact absurd c_115 (by decide)
              · refine g_iconst S (v := 0) dX6_pledge_118 (by decide) ?_
                exact g_iret S hlk hr (fun H h => (by simp (config := { decide := true }) only [gRet, mPledge, c_11, c_21, c_44, c_53, if_true, if_false, reduceIte, Bool.false_eq_true, not_true_eq_false, not_false_eq_true, ite_not, true_and, and_true, Bool.and_self, Bool.and_true, Bool.true_and, Bool.and_false, Bool.false_and]; first | exact ⟨rfl, h⟩ | exact h)) (Nat.le_refl _) (Nat.le_refl _) dX6_pledge_119
          · exact absurd (c_86.symm.trans c_44) (by decide)
        · refine g_aload_n S dX6_pledge_56 rfl ?_
          refine m_getf S hK 25 (by decide) (S.2.2.2.2 _ (List.mem_of_getElem? (i := 3) rfl)) rfl dX6_pledge_57 ?_
          refine g_iload_n S dX6_pledge_60 rfl ?_
          refine m_iald S hK (by decide) (by first | assumption | exact rin c_44 hn.2.2.1) dX6_pledge_61 ?_
          refine g_iconst S (v := (-1)) dX6_pledge_62 (by decide) ?_
          refine g_icmp_ne S (tgt := 80) dX6_pledge_63 (by decide) (fun c_63 => ?_) (fun c_63 => ?_)
          · refine g_iconst S (v := 0) dX6_pledge_80 (by decide) ?_
            refine g_istore S dX6_pledge_81 (by decide) rfl ?_
            refine g_aload_n S dX6_pledge_83 rfl ?_
            refine g_iload S dX6_pledge_84 rfl ?_
            refine g_ifb_ne S (tgt := 93) dX6_pledge_86 (by decide) (fun c_86 => ?_) (fun c_86 => ?_)
            · refine g_iload S dX6_pledge_93 rfl ?_
              refine g_if_ne S (tgt := 102) dX6_pledge_95 (by decide) (fun c_95 => ?_) (fun c_95 => ?_)
              · exact absurd c_95 (by decide)
              · refine g_iconst S (v := 2) dX6_pledge_98 (by decide) ?_
                refine g_goto S (tgt := 112) dX6_pledge_99 (by decide) ?_
                refine g_cVr S (c_goesWell l D ty A mo ad _ _) (cwV 1 S.2.2.2.2 gX6_pledge_X6_goesWell rfl rfl rfl (by decide +kernel) ⟨Nat.le_of_ble_eq_true rfl, Nat.le_of_ble_eq_true rfl⟩) hK hE (fun H h => h) (m_recv hK) rfl (Nat.le_of_ble_eq_true rfl) dX6_pledge_112 ⟨Nat.le_of_ble_eq_true rfl, Nat.le_of_ble_eq_true rfl⟩ ?_
                refine g_if_ne S (tgt := 120) dX6_pledge_115 (by decide) (fun c_115 => ?_) (fun c_115 => ?_)
                · exact absurd c_115 (by decide)
                · refine g_iconst S (v := 0) dX6_pledge_118 (by decide) ?_
                  exact g_iret S hlk hr (fun H h => (by simp (config := { decide := true }) only [gRet, mPledge, c_11, c_21, c_44, c_53, c_63, if_true, if_false, reduceIte, Bool.false_eq_true, not_true_eq_false, not_false_eq_true, ite_not, true_and, and_true, Bool.and_self, Bool.and_true, Bool.true_and, Bool.and_false, Bool.false_and]; first | exact ⟨rfl, h⟩ | exact h)) (Nat.le_refl _) (Nat.le_refl _) dX6_pledge_119
            · exact absurd (c_86.symm.trans c_44) (by decide)
          · refine g_aload_n S dX6_pledge_66 rfl ?_
            refine m_getf S hK 22 (by decide) (S.2.2.2.2 _ (List.mem_of_getElem? (i := 4) rfl)) rfl dX6_pledge_67 ?_
            refine g_iload_n S dX6_pledge_70 rfl ?_
            refine m_iald S hK (by decide) (by first | assumption | exact rin c_44 hn.2.2.1) dX6_pledge_71 ?_
            refine g_iload_n S dX6_pledge_72 rfl ?_
            refine g_icmp_eq S (tgt := 80) dX6_pledge_73 (by decide) (fun c_73 => ?_) (fun c_73 => ?_)
            · refine g_iconst S (v := 0) dX6_pledge_80 (by decide) ?_
              refine g_istore S dX6_pledge_81 (by decide) rfl ?_
              refine g_aload_n S dX6_pledge_83 rfl ?_
              refine g_iload S dX6_pledge_84 rfl ?_
              refine g_ifb_ne S (tgt := 93) dX6_pledge_86 (by decide) (fun c_86 => ?_) (fun c_86 => ?_)
              · refine g_iload S dX6_pledge_93 rfl ?_
                refine g_if_ne S (tgt := 102) dX6_pledge_95 (by decide) (fun c_95 => ?_) (fun c_95 => ?_)
                · exact absurd c_95 (by decide)
                · refine g_iconst S (v := 2) dX6_pledge_98 (by decide) ?_
                  refine g_goto S (tgt := 112) dX6_pledge_99 (by decide) ?_
                  refine g_cVr S (c_goesWell l D ty A mo ad _ _) (cwV 1 S.2.2.2.2 gX6_pledge_X6_goesWell rfl rfl rfl (by decide +kernel) ⟨Nat.le_of_ble_eq_true rfl, Nat.le_of_ble_eq_true rfl⟩) hK hE (fun H h => h) (m_recv hK) rfl (Nat.le_of_ble_eq_true rfl) dX6_pledge_112 ⟨Nat.le_of_ble_eq_true rfl, Nat.le_of_ble_eq_true rfl⟩ ?_
                  refine g_if_ne S (tgt := 120) dX6_pledge_115 (by decide) (fun c_115 => ?_) (fun c_115 => ?_)
                  · exact absurd c_115 (by decide)
                  · refine g_iconst S (v := 0) dX6_pledge_118 (by decide) ?_
                    exact g_iret S hlk hr (fun H h => (by simp (config := { decide := true }) only [gRet, mPledge, c_11, c_21, c_44, c_53, c_63, c_73, if_true, if_false, reduceIte, Bool.false_eq_true, not_true_eq_false, not_false_eq_true, ite_not, true_and, and_true, Bool.and_self, Bool.and_true, Bool.true_and, Bool.and_false, Bool.false_and]; first | exact ⟨rfl, h⟩ | exact h)) (Nat.le_refl _) (Nat.le_refl _) dX6_pledge_119
              · exact absurd (c_86.symm.trans c_44) (by decide)
            · refine g_iconst S (v := 1) dX6_pledge_76 (by decide) ?_
              refine g_goto S (tgt := 81) dX6_pledge_77 (by decide) ?_
              refine g_istore S dX6_pledge_81 (by decide) rfl ?_
              refine g_aload_n S dX6_pledge_83 rfl ?_
              refine g_iload S dX6_pledge_84 rfl ?_
              refine g_ifb_ne S (tgt := 93) dX6_pledge_86 (by decide) (fun c_86 => ?_) (fun c_86 => ?_)
              · refine g_iload S dX6_pledge_93 rfl ?_
                refine g_if_ne S (tgt := 102) dX6_pledge_95 (by decide) (fun c_95 => ?_) (fun c_95 => ?_)
                · exact absurd c_95 (by decide)
                · refine g_iconst S (v := 2) dX6_pledge_98 (by decide) ?_
                  refine g_goto S (tgt := 112) dX6_pledge_99 (by decide) ?_
                  refine g_cVr S (c_goesWell l D ty A mo ad _ _) (cwV 1 S.2.2.2.2 gX6_pledge_X6_goesWell rfl rfl rfl (by decide +kernel) ⟨Nat.le_of_ble_eq_true rfl, Nat.le_of_ble_eq_true rfl⟩) hK hE (fun H h => h) (m_recv hK) rfl (Nat.le_of_ble_eq_true rfl) dX6_pledge_112 ⟨Nat.le_of_ble_eq_true rfl, Nat.le_of_ble_eq_true rfl⟩ ?_
                  refine g_if_ne S (tgt := 120) dX6_pledge_115 (by decide) (fun c_115 => ?_) (fun c_115 => ?_)
                  · exact absurd c_115 (by decide)
                  · refine g_iconst S (v := 0) dX6_pledge_118 (by decide) ?_
                    exact g_iret S hlk hr (fun H h => (by simp (config := { decide := true }) only [gRet, mPledge, c_11, c_21, c_44, c_53, c_63, c_73, if_true, if_false, reduceIte, Bool.false_eq_true, not_true_eq_false, not_false_eq_true, ite_not, true_and, and_true, Bool.and_self, Bool.and_true, Bool.true_and, Bool.and_false, Bool.false_and]; first | exact ⟨rfl, h⟩ | exact h)) (Nat.le_refl _) (Nat.le_refl _) dX6_pledge_119
              · exact absurd (c_86.symm.trans c_44) (by decide)
    · refine g_iload S dX6_pledge_24 rfl ?_
      refine g_iconst S (v := 0) dX6_pledge_26 (by decide) ?_
      refine g_bipush S (v := 100) dX6_pledge_27 (by decide) ?_
      refine g_cSr S (c_in l D ty A _ _ _ _) (va_cwS 3 S.2.2.2.2 gX6_pledge_X6_in rfl rfl rfl (by decide +kernel) ⟨Nat.le_of_ble_eq_true rfl, Nat.le_of_ble_eq_true rfl⟩) hK hE (fun H h => h) rfl (Nat.le_of_ble_eq_true rfl) dX6_pledge_29 ⟨Nat.le_of_ble_eq_true rfl, Nat.le_of_ble_eq_true rfl⟩ ?_
      refine g_ifb_eq S (tgt := 39) dX6_pledge_32 (by decide) (fun c_32 => ?_) (fun c_32 => ?_)
      · refine g_iconst S (v := 0) dX6_pledge_39 (by decide) ?_
        refine g_istore S dX6_pledge_40 (by decide) rfl ?_
        refine g_iload S dX6_pledge_42 rfl ?_
        refine g_ifb_eq S (tgt := 80) dX6_pledge_44 (by decide) (fun c_44 => ?_) (fun c_44 => ?_)
        · refine g_iconst S (v := 0) dX6_pledge_80 (by decide) ?_
          refine g_istore S dX6_pledge_81 (by decide) rfl ?_
          refine g_aload_n S dX6_pledge_83 rfl ?_
          refine g_iload S dX6_pledge_84 rfl ?_
          refine g_ifb_ne S (tgt := 93) dX6_pledge_86 (by decide) (fun c_86 => ?_) (fun c_86 => ?_)
          · exact absurd (c_86.symm.trans c_44) (by decide)
          · refine g_iconst S (v := 1) dX6_pledge_89 (by decide) ?_
            refine g_goto S (tgt := 112) dX6_pledge_90 (by decide) ?_
            refine g_cVr S (c_goesWell l D ty A mo ad _ _) (cwV 1 S.2.2.2.2 gX6_pledge_X6_goesWell rfl rfl rfl (by decide +kernel) ⟨Nat.le_of_ble_eq_true rfl, Nat.le_of_ble_eq_true rfl⟩) hK hE (fun H h => h) (m_recv hK) rfl (Nat.le_of_ble_eq_true rfl) dX6_pledge_112 ⟨Nat.le_of_ble_eq_true rfl, Nat.le_of_ble_eq_true rfl⟩ ?_
            refine g_if_ne S (tgt := 120) dX6_pledge_115 (by decide) (fun c_115 => ?_) (fun c_115 => ?_)
            · exact absurd c_115 (by decide)
            · refine g_iconst S (v := 0) dX6_pledge_118 (by decide) ?_
              exact g_iret S hlk hr (fun H h => (by simp (config := { decide := true }) only [gRet, mPledge, c_11, c_21, c_32, c_44, if_true, if_false, reduceIte, Bool.false_eq_true, not_true_eq_false, not_false_eq_true, ite_not, true_and, and_true, Bool.and_self, Bool.and_true, Bool.true_and, Bool.and_false, Bool.false_and]; first | exact ⟨rfl, h⟩ | exact h)) (Nat.le_refl _) (Nat.le_refl _) dX6_pledge_119
        · refine g_aload_n S dX6_pledge_47 rfl ?_
          refine m_getf S hK 21 (by decide) (S.2.2.2.2 _ (List.mem_of_getElem? (i := 2) rfl)) rfl dX6_pledge_48 ?_
          refine g_iload_n S dX6_pledge_51 rfl ?_
          refine m_iald S hK (by decide) (by first | assumption | exact rin c_44 hn.2.2.1) dX6_pledge_52 ?_
          refine g_if_le S (tgt := 80) dX6_pledge_53 (by decide) (fun c_53 => ?_) (fun c_53 => ?_)
          · refine g_iconst S (v := 0) dX6_pledge_80 (by decide) ?_
            refine g_istore S dX6_pledge_81 (by decide) rfl ?_
            refine g_aload_n S dX6_pledge_83 rfl ?_
            refine g_iload S dX6_pledge_84 rfl ?_
            refine g_ifb_ne S (tgt := 93) dX6_pledge_86 (by decide) (fun c_86 => ?_) (fun c_86 => ?_)
            · refine g_iload S dX6_pledge_93 rfl ?_
              refine g_if_ne S (tgt := 102) dX6_pledge_95 (by decide) (fun c_95 => ?_) (fun c_95 => ?_)
              · exact absurd c_95 (by decide)
              · refine g_iconst S (v := 2) dX6_pledge_98 (by decide) ?_
                refine g_goto S (tgt := 112) dX6_pledge_99 (by decide) ?_
                refine g_cVr S (c_goesWell l D ty A mo ad _ _) (cwV 1 S.2.2.2.2 gX6_pledge_X6_goesWell rfl rfl rfl (by decide +kernel) ⟨Nat.le_of_ble_eq_true rfl, Nat.le_of_ble_eq_true rfl⟩) hK hE (fun H h => h) (m_recv hK) rfl (Nat.le_of_ble_eq_true rfl) dX6_pledge_112 ⟨Nat.le_of_ble_eq_true rfl, Nat.le_of_ble_eq_true rfl⟩ ?_
                refine g_if_ne S (tgt := 120) dX6_pledge_115 (by decide) (fun c_115 => ?_) (fun c_115 => ?_)
                · exact absurd c_115 (by decide)
                · refine g_iconst S (v := 0) dX6_pledge_118 (by decide) ?_
                  exact g_iret S hlk hr (fun H h => (by simp (config := { decide := true }) only [gRet, mPledge, c_11, c_21, c_32, c_44, c_53, if_true, if_false, reduceIte, Bool.false_eq_true, not_true_eq_false, not_false_eq_true, ite_not, true_and, and_true, Bool.and_self, Bool.and_true, Bool.true_and, Bool.and_false, Bool.false_and]; first | exact ⟨rfl, h⟩ | exact h)) (Nat.le_refl _) (Nat.le_refl _) dX6_pledge_119
            · exact absurd (c_86.symm.trans c_44) (by decide)
          · refine g_aload_n S dX6_pledge_56 rfl ?_
            refine m_getf S hK 25 (by decide) (S.2.2.2.2 _ (List.mem_of_getElem? (i := 3) rfl)) rfl dX6_pledge_57 ?_
            refine g_iload_n S dX6_pledge_60 rfl ?_
            refine m_iald S hK (by decide) (by first | assumption | exact rin c_44 hn.2.2.1) dX6_pledge_61 ?_
            refine g_iconst S (v := (-1)) dX6_pledge_62 (by decide) ?_
            refine g_icmp_ne S (tgt := 80) dX6_pledge_63 (by decide) (fun c_63 => ?_) (fun c_63 => ?_)
            · refine g_iconst S (v := 0) dX6_pledge_80 (by decide) ?_
              refine g_istore S dX6_pledge_81 (by decide) rfl ?_
              refine g_aload_n S dX6_pledge_83 rfl ?_
              refine g_iload S dX6_pledge_84 rfl ?_
              refine g_ifb_ne S (tgt := 93) dX6_pledge_86 (by decide) (fun c_86 => ?_) (fun c_86 => ?_)
              · refine g_iload S dX6_pledge_93 rfl ?_
                refine g_if_ne S (tgt := 102) dX6_pledge_95 (by decide) (fun c_95 => ?_) (fun c_95 => ?_)
                · exact absurd c_95 (by decide)
                · refine g_iconst S (v := 2) dX6_pledge_98 (by decide) ?_
                  refine g_goto S (tgt := 112) dX6_pledge_99 (by decide) ?_
                  refine g_cVr S (c_goesWell l D ty A mo ad _ _) (cwV 1 S.2.2.2.2 gX6_pledge_X6_goesWell rfl rfl rfl (by decide +kernel) ⟨Nat.le_of_ble_eq_true rfl, Nat.le_of_ble_eq_true rfl⟩) hK hE (fun H h => h) (m_recv hK) rfl (Nat.le_of_ble_eq_true rfl) dX6_pledge_112 ⟨Nat.le_of_ble_eq_true rfl, Nat.le_of_ble_eq_true rfl⟩ ?_
                  refine g_if_ne S (tgt := 120) dX6_pledge_115 (by decide) (fun c_115 => ?_) (fun c_115 => ?_)
                  · exact absurd c_115 (by decide)
                  · refine g_iconst S (v := 0) dX6_pledge_118 (by decide) ?_
                    exact g_iret S hlk hr (fun H h => (by simp (config := { decide := true }) only [gRet, mPledge, c_11, c_21, c_32, c_44, c_53, c_63, if_true, if_false, reduceIte, Bool.false_eq_true, not_true_eq_false, not_false_eq_true, ite_not, true_and, and_true, Bool.and_self, Bool.and_true, Bool.true_and, Bool.and_false, Bool.false_and]; first | exact ⟨rfl, h⟩ | exact h)) (Nat.le_refl _) (Nat.le_refl _) dX6_pledge_119
              · exact absurd (c_86.symm.trans c_44) (by decide)
            · refine g_aload_n S dX6_pledge_66 rfl ?_
              refine m_getf S hK 22 (by decide) (S.2.2.2.2 _ (List.mem_of_getElem? (i := 4) rfl)) rfl dX6_pledge_67 ?_
              refine g_iload_n S dX6_pledge_70 rfl ?_
              refine m_iald S hK (by decide) (by first | assumption | exact rin c_44 hn.2.2.1) dX6_pledge_71 ?_
              refine g_iload_n S dX6_pledge_72 rfl ?_
              refine g_icmp_eq S (tgt := 80) dX6_pledge_73 (by decide) (fun c_73 => ?_) (fun c_73 => ?_)
              · refine g_iconst S (v := 0) dX6_pledge_80 (by decide) ?_
                refine g_istore S dX6_pledge_81 (by decide) rfl ?_
                refine g_aload_n S dX6_pledge_83 rfl ?_
                refine g_iload S dX6_pledge_84 rfl ?_
                refine g_ifb_ne S (tgt := 93) dX6_pledge_86 (by decide) (fun c_86 => ?_) (fun c_86 => ?_)
                · refine g_iload S dX6_pledge_93 rfl ?_
                  refine g_if_ne S (tgt := 102) dX6_pledge_95 (by decide) (fun c_95 => ?_) (fun c_95 => ?_)
                  · exact absurd c_95 (by decide)
                  · refine g_iconst S (v := 2) dX6_pledge_98 (by decide) ?_
                    refine g_goto S (tgt := 112) dX6_pledge_99 (by decide) ?_
                    refine g_cVr S (c_goesWell l D ty A mo ad _ _) (cwV 1 S.2.2.2.2 gX6_pledge_X6_goesWell rfl rfl rfl (by decide +kernel) ⟨Nat.le_of_ble_eq_true rfl, Nat.le_of_ble_eq_true rfl⟩) hK hE (fun H h => h) (m_recv hK) rfl (Nat.le_of_ble_eq_true rfl) dX6_pledge_112 ⟨Nat.le_of_ble_eq_true rfl, Nat.le_of_ble_eq_true rfl⟩ ?_
                    refine g_if_ne S (tgt := 120) dX6_pledge_115 (by decide) (fun c_115 => ?_) (fun c_115 => ?_)
                    · exact absurd c_115 (by decide)
                    · refine g_iconst S (v := 0) dX6_pledge_118 (by decide) ?_
                      exact g_iret S hlk hr (fun H h => (by simp (config := { decide := true }) only [gRet, mPledge, c_11, c_21, c_32, c_44, c_53, c_63, c_73, if_true, if_false, reduceIte, Bool.false_eq_true, not_true_eq_false, not_false_eq_true, ite_not, true_and, and_true, Bool.and_self, Bool.and_true, Bool.true_and, Bool.and_false, Bool.false_and]; first | exact ⟨rfl, h⟩ | exact h)) (Nat.le_refl _) (Nat.le_refl _) dX6_pledge_119
                · exact absurd (c_86.symm.trans c_44) (by decide)
              · refine g_iconst S (v := 1) dX6_pledge_76 (by decide) ?_
                refine g_goto S (tgt := 81) dX6_pledge_77 (by decide) ?_
                refine g_istore S dX6_pledge_81 (by decide) rfl ?_
                refine g_aload_n S dX6_pledge_83 rfl ?_
                refine g_iload S dX6_pledge_84 rfl ?_
                refine g_ifb_ne S (tgt := 93) dX6_pledge_86 (by decide) (fun c_86 => ?_) (fun c_86 => ?_)
                · refine g_iload S dX6_pledge_93 rfl ?_
                  refine g_if_ne S (tgt := 102) dX6_pledge_95 (by decide) (fun c_95 => ?_) (fun c_95 => ?_)
                  · exact absurd c_95 (by decide)
                  · refine g_iconst S (v := 2) dX6_pledge_98 (by decide) ?_
                    refine g_goto S (tgt := 112) dX6_pledge_99 (by decide) ?_
                    refine g_cVr S (c_goesWell l D ty A mo ad _ _) (cwV 1 S.2.2.2.2 gX6_pledge_X6_goesWell rfl rfl rfl (by decide +kernel) ⟨Nat.le_of_ble_eq_true rfl, Nat.le_of_ble_eq_true rfl⟩) hK hE (fun H h => h) (m_recv hK) rfl (Nat.le_of_ble_eq_true rfl) dX6_pledge_112 ⟨Nat.le_of_ble_eq_true rfl, Nat.le_of_ble_eq_true rfl⟩ ?_
                    refine g_if_ne S (tgt := 120) dX6_pledge_115 (by decide) (fun c_115 => ?_) (fun c_115 => ?_)
                    · exact absurd c_115 (by decide)
                    · refine g_iconst S (v := 0) dX6_pledge_118 (by decide) ?_
                      exact g_iret S hlk hr (fun H h => (by simp (config := { decide := true }) only [gRet, mPledge, c_11, c_21, c_32, c_44, c_53, c_63, c_73, if_true, if_false, reduceIte, Bool.false_eq_true, not_true_eq_false, not_false_eq_true, ite_not, true_and, and_true, Bool.and_self, Bool.and_true, Bool.true_and, Bool.and_false, Bool.false_and]; first | exact ⟨rfl, h⟩ | exact h)) (Nat.le_refl _) (Nat.le_refl _) dX6_pledge_119
                · exact absurd (c_86.symm.trans c_44) (by decide)
      · refine g_iconst S (v := 1) dX6_pledge_35 (by decide) ?_
        refine g_goto S (tgt := 40) dX6_pledge_36 (by decide) ?_
        refine g_istore S dX6_pledge_40 (by decide) rfl ?_
        refine g_iload S dX6_pledge_42 rfl ?_
        refine g_ifb_eq S (tgt := 80) dX6_pledge_44 (by decide) (fun c_44 => ?_) (fun c_44 => ?_)
        · refine g_iconst S (v := 0) dX6_pledge_80 (by decide) ?_
          refine g_istore S dX6_pledge_81 (by decide) rfl ?_
          refine g_aload_n S dX6_pledge_83 rfl ?_
          refine g_iload S dX6_pledge_84 rfl ?_
          refine g_ifb_ne S (tgt := 93) dX6_pledge_86 (by decide) (fun c_86 => ?_) (fun c_86 => ?_)
          · exact absurd (c_86.symm.trans c_44) (by decide)
          · refine g_iconst S (v := 1) dX6_pledge_89 (by decide) ?_
            refine g_goto S (tgt := 112) dX6_pledge_90 (by decide) ?_
            refine g_cVr S (c_goesWell l D ty A mo ad _ _) (cwV 1 S.2.2.2.2 gX6_pledge_X6_goesWell rfl rfl rfl (by decide +kernel) ⟨Nat.le_of_ble_eq_true rfl, Nat.le_of_ble_eq_true rfl⟩) hK hE (fun H h => h) (m_recv hK) rfl (Nat.le_of_ble_eq_true rfl) dX6_pledge_112 ⟨Nat.le_of_ble_eq_true rfl, Nat.le_of_ble_eq_true rfl⟩ ?_
            refine g_if_ne S (tgt := 120) dX6_pledge_115 (by decide) (fun c_115 => ?_) (fun c_115 => ?_)
            · exact absurd c_115 (by decide)
            · refine g_iconst S (v := 0) dX6_pledge_118 (by decide) ?_
              exact g_iret S hlk hr (fun H h => (by simp (config := { decide := true }) only [gRet, mPledge, c_11, c_21, c_32, c_44, if_true, if_false, reduceIte, Bool.false_eq_true, not_true_eq_false, not_false_eq_true, ite_not, true_and, and_true, Bool.and_self, Bool.and_true, Bool.true_and, Bool.and_false, Bool.false_and]; first | exact ⟨rfl, h⟩ | exact h)) (Nat.le_refl _) (Nat.le_refl _) dX6_pledge_119
        · refine g_aload_n S dX6_pledge_47 rfl ?_
          refine m_getf S hK 21 (by decide) (S.2.2.2.2 _ (List.mem_of_getElem? (i := 2) rfl)) rfl dX6_pledge_48 ?_
          refine g_iload_n S dX6_pledge_51 rfl ?_
          refine m_iald S hK (by decide) (by first | assumption | exact rin c_44 hn.2.2.1) dX6_pledge_52 ?_
          refine g_if_le S (tgt := 80) dX6_pledge_53 (by decide) (fun c_53 => ?_) (fun c_53 => ?_)
          · refine g_iconst S (v := 0) dX6_pledge_80 (by decide) ?_
            refine g_istore S dX6_pledge_81 (by decide) rfl ?_
            refine g_aload_n S dX6_pledge_83 rfl ?_
            refine g_iload S dX6_pledge_84 rfl ?_
            refine g_ifb_ne S (tgt := 93) dX6_pledge_86 (by decide) (fun c_86 => ?_) (fun c_86 => ?_)
            · refine g_iload S dX6_pledge_93 rfl ?_
              refine g_if_ne S (tgt := 102) dX6_pledge_95 (by decide) (fun c_95 => ?_) (fun c_95 => ?_)
              · refine g_iload S dX6_pledge_102 rfl ?_
                refine g_if_eq S (tgt := 111) dX6_pledge_104 (by decide) (fun c_104 => ?_) (fun c_104 => ?_)
                · refine g_iconst S (v := 3) dX6_pledge_111 (by decide) ?_
                  refine g_cVr S (c_goesWell l D ty A mo ad _ _) (cwV 1 S.2.2.2.2 gX6_pledge_X6_goesWell rfl rfl rfl (by decide +kernel) ⟨Nat.le_of_ble_eq_true rfl, Nat.le_of_ble_eq_true rfl⟩) hK hE (fun H h => h) (m_recv hK) rfl (Nat.le_of_ble_eq_true rfl) dX6_pledge_112 ⟨Nat.le_of_ble_eq_true rfl, Nat.le_of_ble_eq_true rfl⟩ ?_
                  refine g_if_ne S (tgt := 120) dX6_pledge_115 (by decide) (fun c_115 => ?_) (fun c_115 => ?_)
                  · exact absurd c_115 (by decide)
                  · refine g_iconst S (v := 0) dX6_pledge_118 (by decide) ?_
                    exact g_iret S hlk hr (fun H h => (by simp (config := { decide := true }) only [gRet, mPledge, c_11, c_21, c_32, c_44, c_53, if_true, if_false, reduceIte, Bool.false_eq_true, not_true_eq_false, not_false_eq_true, ite_not, true_and, and_true, Bool.and_self, Bool.and_true, Bool.true_and, Bool.and_false, Bool.false_and]; first | exact ⟨rfl, h⟩ | exact h)) (Nat.le_refl _) (Nat.le_refl _) dX6_pledge_119
                · exact absurd c_104 (by decide)
              · exact absurd c_95 (by decide)
            · exact absurd (c_86.symm.trans c_44) (by decide)
          · refine g_aload_n S dX6_pledge_56 rfl ?_
            refine m_getf S hK 25 (by decide) (S.2.2.2.2 _ (List.mem_of_getElem? (i := 3) rfl)) rfl dX6_pledge_57 ?_
            refine g_iload_n S dX6_pledge_60 rfl ?_
            refine m_iald S hK (by decide) (by first | assumption | exact rin c_44 hn.2.2.1) dX6_pledge_61 ?_
            refine g_iconst S (v := (-1)) dX6_pledge_62 (by decide) ?_
            refine g_icmp_ne S (tgt := 80) dX6_pledge_63 (by decide) (fun c_63 => ?_) (fun c_63 => ?_)
            · refine g_iconst S (v := 0) dX6_pledge_80 (by decide) ?_
              refine g_istore S dX6_pledge_81 (by decide) rfl ?_
              refine g_aload_n S dX6_pledge_83 rfl ?_
              refine g_iload S dX6_pledge_84 rfl ?_
              refine g_ifb_ne S (tgt := 93) dX6_pledge_86 (by decide) (fun c_86 => ?_) (fun c_86 => ?_)
              · refine g_iload S dX6_pledge_93 rfl ?_
                refine g_if_ne S (tgt := 102) dX6_pledge_95 (by decide) (fun c_95 => ?_) (fun c_95 => ?_)
                · refine g_iload S dX6_pledge_102 rfl ?_
                  refine g_if_eq S (tgt := 111) dX6_pledge_104 (by decide) (fun c_104 => ?_) (fun c_104 => ?_)
                  · refine g_iconst S (v := 3) dX6_pledge_111 (by decide) ?_
                    refine g_cVr S (c_goesWell l D ty A mo ad _ _) (cwV 1 S.2.2.2.2 gX6_pledge_X6_goesWell rfl rfl rfl (by decide +kernel) ⟨Nat.le_of_ble_eq_true rfl, Nat.le_of_ble_eq_true rfl⟩) hK hE (fun H h => h) (m_recv hK) rfl (Nat.le_of_ble_eq_true rfl) dX6_pledge_112 ⟨Nat.le_of_ble_eq_true rfl, Nat.le_of_ble_eq_true rfl⟩ ?_
                    refine g_if_ne S (tgt := 120) dX6_pledge_115 (by decide) (fun c_115 => ?_) (fun c_115 => ?_)
                    · exact absurd c_115 (by decide)
                    · refine g_iconst S (v := 0) dX6_pledge_118 (by decide) ?_
                      exact g_iret S hlk hr (fun H h => (by simp (config := { decide := true }) only [gRet, mPledge, c_11, c_21, c_32, c_44, c_53, c_63, if_true, if_false, reduceIte, Bool.false_eq_true, not_true_eq_false, not_false_eq_true, ite_not, true_and, and_true, Bool.and_self, Bool.and_true, Bool.true_and, Bool.and_false, Bool.false_and]; first | exact ⟨rfl, h⟩ | exact h)) (Nat.le_refl _) (Nat.le_refl _) dX6_pledge_119
                  · exact absurd c_104 (by decide)
                · exact absurd c_95 (by decide)
              · exact absurd (c_86.symm.trans c_44) (by decide)
            · refine g_aload_n S dX6_pledge_66 rfl ?_
              refine m_getf S hK 22 (by decide) (S.2.2.2.2 _ (List.mem_of_getElem? (i := 4) rfl)) rfl dX6_pledge_67 ?_
              refine g_iload_n S dX6_pledge_70 rfl ?_
              refine m_iald S hK (by decide) (by first | assumption | exact rin c_44 hn.2.2.1) dX6_pledge_71 ?_
              refine g_iload_n S dX6_pledge_72 rfl ?_
              refine g_icmp_eq S (tgt := 80) dX6_pledge_73 (by decide) (fun c_73 => ?_) (fun c_73 => ?_)
              · refine g_iconst S (v := 0) dX6_pledge_80 (by decide) ?_
                refine g_istore S dX6_pledge_81 (by decide) rfl ?_
                refine g_aload_n S dX6_pledge_83 rfl ?_
                refine g_iload S dX6_pledge_84 rfl ?_
                refine g_ifb_ne S (tgt := 93) dX6_pledge_86 (by decide) (fun c_86 => ?_) (fun c_86 => ?_)
                · refine g_iload S dX6_pledge_93 rfl ?_
                  refine g_if_ne S (tgt := 102) dX6_pledge_95 (by decide) (fun c_95 => ?_) (fun c_95 => ?_)
                  · refine g_iload S dX6_pledge_102 rfl ?_
                    refine g_if_eq S (tgt := 111) dX6_pledge_104 (by decide) (fun c_104 => ?_) (fun c_104 => ?_)
                    · refine g_iconst S (v := 3) dX6_pledge_111 (by decide) ?_
                      refine g_cVr S (c_goesWell l D ty A mo ad _ _) (cwV 1 S.2.2.2.2 gX6_pledge_X6_goesWell rfl rfl rfl (by decide +kernel) ⟨Nat.le_of_ble_eq_true rfl, Nat.le_of_ble_eq_true rfl⟩) hK hE (fun H h => h) (m_recv hK) rfl (Nat.le_of_ble_eq_true rfl) dX6_pledge_112 ⟨Nat.le_of_ble_eq_true rfl, Nat.le_of_ble_eq_true rfl⟩ ?_
                      refine g_if_ne S (tgt := 120) dX6_pledge_115 (by decide) (fun c_115 => ?_) (fun c_115 => ?_)
                      · exact absurd c_115 (by decide)
                      · refine g_iconst S (v := 0) dX6_pledge_118 (by decide) ?_
                        exact g_iret S hlk hr (fun H h => (by simp (config := { decide := true }) only [gRet, mPledge, c_11, c_21, c_32, c_44, c_53, c_63, c_73, if_true, if_false, reduceIte, Bool.false_eq_true, not_true_eq_false, not_false_eq_true, ite_not, true_and, and_true, Bool.and_self, Bool.and_true, Bool.true_and, Bool.and_false, Bool.false_and]; first | exact ⟨rfl, h⟩ | exact h)) (Nat.le_refl _) (Nat.le_refl _) dX6_pledge_119
                    · exact absurd c_104 (by decide)
                  · exact absurd c_95 (by decide)
                · exact absurd (c_86.symm.trans c_44) (by decide)
              · refine g_iconst S (v := 1) dX6_pledge_76 (by decide) ?_
                refine g_goto S (tgt := 81) dX6_pledge_77 (by decide) ?_
                refine g_istore S dX6_pledge_81 (by decide) rfl ?_
                refine g_aload_n S dX6_pledge_83 rfl ?_
                refine g_iload S dX6_pledge_84 rfl ?_
                refine g_ifb_ne S (tgt := 93) dX6_pledge_86 (by decide) (fun c_86 => ?_) (fun c_86 => ?_)
                · refine g_iload S dX6_pledge_93 rfl ?_
                  refine g_if_ne S (tgt := 102) dX6_pledge_95 (by decide) (fun c_95 => ?_) (fun c_95 => ?_)
                  · refine g_iload S dX6_pledge_102 rfl ?_
                    refine g_if_eq S (tgt := 111) dX6_pledge_104 (by decide) (fun c_104 => ?_) (fun c_104 => ?_)
                    · exact absurd c_104 (by decide)
                    · refine g_iconst S (v := 0) dX6_pledge_107 (by decide) ?_
                      refine g_goto S (tgt := 112) dX6_pledge_108 (by decide) ?_
                      refine g_cVr S (c_goesWell l D ty A mo ad _ _) (cwV 1 S.2.2.2.2 gX6_pledge_X6_goesWell rfl rfl rfl (by decide +kernel) ⟨Nat.le_of_ble_eq_true rfl, Nat.le_of_ble_eq_true rfl⟩) hK hE (fun H h => h) (m_recv hK) rfl (Nat.le_of_ble_eq_true rfl) dX6_pledge_112 ⟨Nat.le_of_ble_eq_true rfl, Nat.le_of_ble_eq_true rfl⟩ ?_
                      refine g_if_ne S (tgt := 120) dX6_pledge_115 (by decide) (fun c_115 => ?_) (fun c_115 => ?_)
                      · refine g_aload_n S dX6_pledge_120 rfl ?_
                        refine g_iload_n S dX6_pledge_121 rfl ?_
                        refine g_aload_n S dX6_pledge_122 rfl ?_
                        refine m_getf S hK 22 (by decide) (S.2.2.2.2 _ (List.mem_of_getElem? (i := 4) rfl)) rfl dX6_pledge_123 ?_
                        refine g_iload_n S dX6_pledge_126 rfl ?_
                        refine m_iald S hK (by decide) (by first | assumption | exact rin c_44 hn.2.2.1) dX6_pledge_127 ?_
                        refine g_iload_n S dX6_pledge_128 rfl ?_
                        refine g_i2l S dX6_pledge_129 ?_
                        refine g_cVv S (c_mpay l D ty A mo ad _ _ _ _ (by exact vin_mIn c_11 (by decide)) (by exact hw 22 _)) (cwV 3 S.2.2.2.2 gX6_pledge_X6_pay rfl rfl rfl (by decide +kernel) ⟨Nat.le_of_ble_eq_true rfl, Nat.le_of_ble_eq_true rfl⟩) hK hE (fun H h => h) (m_recv hK) rfl (Nat.le_of_ble_eq_true rfl) dX6_pledge_130 ⟨Nat.le_of_ble_eq_true rfl, Nat.le_of_ble_eq_true rfl⟩ ?_
                        refine g_aload_n S dX6_pledge_133 rfl ?_
                        refine m_getf S hK 25 (by decide) (S.2.2.2.2 _ (List.mem_of_getElem? (i := 3) rfl)) rfl dX6_pledge_134 ?_
                        refine g_iload_n S dX6_pledge_137 rfl ?_
                        refine g_iload_n S dX6_pledge_138 rfl ?_
                        refine m_iast S hK (by decide) (by first | assumption | exact rin c_44 hn.2.2.1) dX6_pledge_139 ?_
                        refine g_aload_n S dX6_pledge_140 rfl ?_
                        refine m_getf S hK 26 (by decide) (S.2.2.2.2 _ (List.mem_of_getElem? (i := 5) rfl)) rfl dX6_pledge_141 ?_
                        refine g_iload_n S dX6_pledge_144 rfl ?_
                        refine g_iload_n S dX6_pledge_145 rfl ?_
                        refine m_iast S hK (by decide) (by first | assumption | exact rin c_44 hn.2.2.1) dX6_pledge_146 ?_
                        refine g_aload_n S dX6_pledge_147 rfl ?_
                        refine m_getf S hK 27 (by decide) (S.2.2.2.2 _ (List.mem_of_getElem? (i := 6) rfl)) rfl dX6_pledge_148 ?_
                        refine g_iload_n S dX6_pledge_151 rfl ?_
                        refine g_aload_n S dX6_pledge_152 rfl ?_
                        refine m_getf S hK 1 (by decide) (S.2.2.2.2 _ (List.mem_of_getElem? (i := 7) rfl)) rfl dX6_pledge_153 ?_
                        refine g_iload S dX6_pledge_156 rfl ?_
                        refine g_iadd S dX6_pledge_158 ?_
                        refine m_iast S hK (by decide) (by first | assumption | exact rin c_44 hn.2.2.1) dX6_pledge_159 ?_
                        refine g_aload_n S dX6_pledge_160 rfl ?_
                        refine m_getf S hK 27 (by decide) (S.2.2.2.2 _ (List.mem_of_getElem? (i := 6) rfl)) rfl dX6_pledge_161 ?_
                        refine g_iload_n S dX6_pledge_164 rfl ?_
                        refine m_iald S hK (by decide) (by first | assumption | exact rin c_44 hn.2.2.1) dX6_pledge_165 ?_
                        exact g_iret S hlk hr (fun H h => (by simp (config := { decide := true }) only [gRet, mPledge, c_11, c_21, c_32, c_44, c_53, c_63, c_73, if_true, if_false, reduceIte, Bool.false_eq_true, not_true_eq_false, not_false_eq_true, ite_not, true_and, and_true, Bool.and_self, Bool.and_true, Bool.true_and, Bool.and_false, Bool.false_and]; first | exact ⟨rfl, h⟩ | exact h)) (Nat.le_refl _) (Nat.le_refl _) dX6_pledge_166
                      · exact absurd c_115 (by decide)
                  · exact absurd c_95 (by decide)
                · exact absurd (c_86.symm.trans c_44) (by decide)

abbrev rmX6_redeem : Room := { frames := 2, cells := 0, slots := 0, locals := 43 }
set_option maxHeartbeats 4000000 in
set_option maxRecDepth 100000 in
theorem c_mredeem (l : Launch) (D : va_G) (ty : Nat → ClassId) (A : Nat → Prop) (mo : Nat) (ad : Nat → Nat) (a : MS) (r : Int32) (hw : mWf a) (hn : mCnt a) (hc : vp_in (gS a 29) 5900) : Met l yX6_redeem wsX6_redeem rmX6_redeem (gPc D ty false [] 0 A [.ref mo, .int r] (hM D ty A mo ad a)) (gQ A (gRet (some (.int (mRedeem a r).1)) (hM D ty A mo ad (mRedeem a r).2))) 0 0 A := by
  refine g_Met (cc := cX6_redeem) (maxL := 3) (ret := (some .int)) [some (.ref mo), some (.int r), none] (by decide) rfl (Nat.le_of_ble_eq_true rfl) rfl ?_
  intro p e s m args below meth c S hlk hr hnm hK hE hP0
  have S : CallFix p m c cX6_redeem 3 s args wsX6_redeem RX6 := S
  refine g_aload_n S dX6_redeem_0 rfl ?_
  refine g_iload_n S dX6_redeem_1 rfl ?_
  refine g_cVr S (c_isReceipt l D ty A mo ad _ _) (cwV 1 S.2.2.2.2 gX6_redeem_X6_isReceipt rfl rfl rfl (by decide +kernel) ⟨Nat.le_of_ble_eq_true rfl, Nat.le_of_ble_eq_true rfl⟩) hK hE (fun H h => h) (m_recv hK) rfl (Nat.le_of_ble_eq_true rfl) dX6_redeem_2 ⟨Nat.le_of_ble_eq_true rfl, Nat.le_of_ble_eq_true rfl⟩ ?_
  refine g_istore_n S dX6_redeem_5 (by decide) rfl ?_
  refine g_aload_n S dX6_redeem_6 rfl ?_
  refine g_iload_n S dX6_redeem_7 rfl ?_
  refine g_ifb_ne S (tgt := 15) dX6_redeem_8 (by decide) (fun c_8 => ?_) (fun c_8 => ?_)
  · refine g_aload_n S dX6_redeem_15 rfl ?_
    refine m_getf S hK 25 (by decide) (S.2.2.2.2 _ (List.mem_of_getElem? (i := 1) rfl)) rfl dX6_redeem_16 ?_
    refine g_iload_n S dX6_redeem_19 rfl ?_
    refine m_iald S hK (by decide) (by first | assumption | exact rin c_8 hn.2.2.1) dX6_redeem_20 ?_
    refine g_iconst S (v := (-1)) dX6_redeem_21 (by decide) ?_
    refine g_icmp_ne S (tgt := 29) dX6_redeem_22 (by decide) (fun c_22 => ?_) (fun c_22 => ?_)
    · refine g_iconst S (v := 0) dX6_redeem_29 (by decide) ?_
      refine g_cVr S (c_goesWell l D ty A mo ad _ _) (cwV 1 S.2.2.2.2 gX6_redeem_X6_goesWell rfl rfl rfl (by decide +kernel) ⟨Nat.le_of_ble_eq_true rfl, Nat.le_of_ble_eq_true rfl⟩) hK hE (fun H h => h) (m_recv hK) rfl (Nat.le_of_ble_eq_true rfl) dX6_redeem_30 ⟨Nat.le_of_ble_eq_true rfl, Nat.le_of_ble_eq_true rfl⟩ ?_
      refine g_if_ne S (tgt := 38) dX6_redeem_33 (by decide) (fun c_33 => ?_) (fun c_33 => ?_)
      · refine g_aload_n S dX6_redeem_38 rfl ?_
        refine g_aload_n S dX6_redeem_39 rfl ?_
        refine m_getf S hK 22 (by decide) (S.2.2.2.2 _ (List.mem_of_getElem? (i := 2) rfl)) rfl dX6_redeem_40 ?_
        refine g_iload_n S dX6_redeem_43 rfl ?_
        refine m_iald S hK (by decide) (by first | assumption | exact rin c_8 hn.2.2.1) dX6_redeem_44 ?_
        refine g_aload_n S dX6_redeem_45 rfl ?_
        refine m_getf S hK 25 (by decide) (S.2.2.2.2 _ (List.mem_of_getElem? (i := 1) rfl)) rfl dX6_redeem_46 ?_
        refine g_iload_n S dX6_redeem_49 rfl ?_
        refine m_iald S hK (by decide) (by first | assumption | exact rin c_8 hn.2.2.1) dX6_redeem_50 ?_
        refine g_aload_n S dX6_redeem_51 rfl ?_
        refine m_getf S hK 26 (by decide) (S.2.2.2.2 _ (List.mem_of_getElem? (i := 3) rfl)) rfl dX6_redeem_52 ?_
        refine g_iload_n S dX6_redeem_55 rfl ?_
        refine m_iald S hK (by decide) (by first | assumption | exact rin c_8 hn.2.2.1) dX6_redeem_56 ?_
        refine g_i2l S dX6_redeem_57 ?_
        refine g_cVv S (c_mpay l D ty A mo ad _ _ _ _ (by exact hw 22 _) (by exact or_vin (hw 25 _) c_22)) (cwV 3 S.2.2.2.2 gX6_redeem_X6_pay rfl rfl rfl (by decide +kernel) ⟨Nat.le_of_ble_eq_true rfl, Nat.le_of_ble_eq_true rfl⟩) hK hE (fun H h => h) (m_recv hK) rfl (Nat.le_of_ble_eq_true rfl) dX6_redeem_58 ⟨Nat.le_of_ble_eq_true rfl, Nat.le_of_ble_eq_true rfl⟩ ?_
        refine g_aload_n S dX6_redeem_61 rfl ?_
        refine m_getf S hK 25 (by decide) (S.2.2.2.2 _ (List.mem_of_getElem? (i := 1) rfl)) rfl dX6_redeem_62 ?_
        refine g_iload_n S dX6_redeem_65 rfl ?_
        refine g_iconst S (v := (-1)) dX6_redeem_66 (by decide) ?_
        refine m_iast S hK (by decide) (by first | assumption | exact rin c_8 hn.2.2.1) dX6_redeem_67 ?_
        refine g_aload_n S dX6_redeem_68 rfl ?_
        refine m_getf S hK 26 (by decide) (S.2.2.2.2 _ (List.mem_of_getElem? (i := 3) rfl)) rfl dX6_redeem_69 ?_
        refine g_iload_n S dX6_redeem_72 rfl ?_
        refine m_iald S hK (by decide) (by first | assumption | exact rin c_8 hn.2.2.1) dX6_redeem_73 ?_
        exact g_iret S hlk hr (fun H h => (by simp (config := { decide := true }) only [gRet, mRedeem, c_8, c_22, if_true, if_false, reduceIte, Bool.false_eq_true, not_true_eq_false, not_false_eq_true, ite_not, true_and, and_true]; first | exact ⟨rfl, h⟩ | exact h)) (Nat.le_refl _) (Nat.le_refl _) dX6_redeem_74
      · exact absurd c_33 (by decide)
    · refine g_iconst S (v := 2) dX6_redeem_25 (by decide) ?_
      refine g_goto S (tgt := 30) dX6_redeem_26 (by decide) ?_
      refine g_cVr S (c_goesWell l D ty A mo ad _ _) (cwV 1 S.2.2.2.2 gX6_redeem_X6_goesWell rfl rfl rfl (by decide +kernel) ⟨Nat.le_of_ble_eq_true rfl, Nat.le_of_ble_eq_true rfl⟩) hK hE (fun H h => h) (m_recv hK) rfl (Nat.le_of_ble_eq_true rfl) dX6_redeem_30 ⟨Nat.le_of_ble_eq_true rfl, Nat.le_of_ble_eq_true rfl⟩ ?_
      refine g_if_ne S (tgt := 38) dX6_redeem_33 (by decide) (fun c_33 => ?_) (fun c_33 => ?_)
      · exact absurd c_33 (by decide)
      · refine g_iconst S (v := 0) dX6_redeem_36 (by decide) ?_
        exact g_iret S hlk hr (fun H h => (by simp (config := { decide := true }) only [gRet, mRedeem, c_8, c_22, if_true, if_false, reduceIte, Bool.false_eq_true, not_true_eq_false, not_false_eq_true, ite_not, true_and, and_true]; first | exact ⟨rfl, h⟩ | exact h)) (Nat.le_refl _) (Nat.le_refl _) dX6_redeem_37
  · refine g_iconst S (v := 1) dX6_redeem_11 (by decide) ?_
    refine g_goto S (tgt := 30) dX6_redeem_12 (by decide) ?_
    refine g_cVr S (c_goesWell l D ty A mo ad _ _) (cwV 1 S.2.2.2.2 gX6_redeem_X6_goesWell rfl rfl rfl (by decide +kernel) ⟨Nat.le_of_ble_eq_true rfl, Nat.le_of_ble_eq_true rfl⟩) hK hE (fun H h => h) (m_recv hK) rfl (Nat.le_of_ble_eq_true rfl) dX6_redeem_30 ⟨Nat.le_of_ble_eq_true rfl, Nat.le_of_ble_eq_true rfl⟩ ?_
    refine g_if_ne S (tgt := 38) dX6_redeem_33 (by decide) (fun c_33 => ?_) (fun c_33 => ?_)
    · exact absurd c_33 (by decide)
    · refine g_iconst S (v := 0) dX6_redeem_36 (by decide) ?_
      exact g_iret S hlk hr (fun H h => (by simp (config := { decide := true }) only [gRet, mRedeem, c_8, if_true, if_false, reduceIte, Bool.false_eq_true, not_true_eq_false, not_false_eq_true, ite_not, true_and, and_true]; first | exact ⟨rfl, h⟩ | exact h)) (Nat.le_refl _) (Nat.le_refl _) dX6_redeem_37

abbrev rmX6_takeOut : Room := { frames := 2, cells := 0, slots := 0, locals := 43 }
set_option maxHeartbeats 4000000 in
set_option maxRecDepth 100000 in
theorem c_mtakeOut (l : Launch) (D : va_G) (ty : Nat → ClassId) (A : Nat → Prop) (mo : Nat) (ad : Nat → Nat) (a : MS) (r : Int32) (hw : mWf a) (hn : mCnt a) (hc : vp_in (gS a 29) 5900) : Met l yX6_takeOut wsX6_takeOut rmX6_takeOut (gPc D ty false [] 0 A [.ref mo, .int r] (hM D ty A mo ad a)) (gQ A (gRet (some (.int (mTakeOut a r).1)) (hM D ty A mo ad (mTakeOut a r).2))) 0 0 A := by
  refine g_Met (cc := cX6_takeOut) (maxL := 4) (ret := (some .int)) [some (.ref mo), some (.int r), none, none] (by decide) rfl (Nat.le_of_ble_eq_true rfl) rfl ?_
  intro p e s m args below meth c S hlk hr hnm hK hE hP0
  have S : CallFix p m c cX6_takeOut 4 s args wsX6_takeOut RX6 := S
  refine g_aload_n S dX6_takeOut_0 rfl ?_
  refine g_iload_n S dX6_takeOut_1 rfl ?_
  refine g_cVr S (c_isReceipt l D ty A mo ad _ _) (cwV 1 S.2.2.2.2 gX6_takeOut_X6_isReceipt rfl rfl rfl (by decide +kernel) ⟨Nat.le_of_ble_eq_true rfl, Nat.le_of_ble_eq_true rfl⟩) hK hE (fun H h => h) (m_recv hK) rfl (Nat.le_of_ble_eq_true rfl) dX6_takeOut_2 ⟨Nat.le_of_ble_eq_true rfl, Nat.le_of_ble_eq_true rfl⟩ ?_
  refine g_istore_n S dX6_takeOut_5 (by decide) rfl ?_
  refine g_aload_n S dX6_takeOut_6 rfl ?_
  refine g_iload_n S dX6_takeOut_7 rfl ?_
  refine g_ifb_ne S (tgt := 15) dX6_takeOut_8 (by decide) (fun c_8 => ?_) (fun c_8 => ?_)
  · refine g_aload_n S dX6_takeOut_15 rfl ?_
    refine m_getf S hK 21 (by decide) (S.2.2.2.2 _ (List.mem_of_getElem? (i := 1) rfl)) rfl dX6_takeOut_16 ?_
    refine g_iload_n S dX6_takeOut_19 rfl ?_
    refine m_iald S hK (by decide) (by first | assumption | exact rin c_8 hn.2.2.1) dX6_takeOut_20 ?_
    refine g_if_eq S (tgt := 34) dX6_takeOut_21 (by decide) (fun c_21 => ?_) (fun c_21 => ?_)
    · refine g_iconst S (v := 2) dX6_takeOut_34 (by decide) ?_
      refine g_goto S (tgt := 39) dX6_takeOut_35 (by decide) ?_
      refine g_cVr S (c_goesWell l D ty A mo ad _ _) (cwV 1 S.2.2.2.2 gX6_takeOut_X6_goesWell rfl rfl rfl (by decide +kernel) ⟨Nat.le_of_ble_eq_true rfl, Nat.le_of_ble_eq_true rfl⟩) hK hE (fun H h => h) (m_recv hK) rfl (Nat.le_of_ble_eq_true rfl) dX6_takeOut_39 ⟨Nat.le_of_ble_eq_true rfl, Nat.le_of_ble_eq_true rfl⟩ ?_
      refine g_if_ne S (tgt := 47) dX6_takeOut_42 (by decide) (fun c_42 => ?_) (fun c_42 => ?_)
      · exact absurd c_42 (by decide)
      · refine g_iconst S (v := 0) dX6_takeOut_45 (by decide) ?_
        exact g_iret S hlk hr (fun H h => (by simp (config := { decide := true }) only [gRet, mTakeOut, c_8, c_21, if_true, if_false, reduceIte, Bool.false_eq_true, not_true_eq_false, not_false_eq_true, ite_not, true_and, and_true]; first | exact ⟨rfl, h⟩ | exact h)) (Nat.le_refl _) (Nat.le_refl _) dX6_takeOut_46
    · refine g_aload_n S dX6_takeOut_24 rfl ?_
      refine m_getf S hK 25 (by decide) (S.2.2.2.2 _ (List.mem_of_getElem? (i := 2) rfl)) rfl dX6_takeOut_25 ?_
      refine g_iload_n S dX6_takeOut_28 rfl ?_
      refine m_iald S hK (by decide) (by first | assumption | exact rin c_8 hn.2.2.1) dX6_takeOut_29 ?_
      refine g_iconst S (v := (-1)) dX6_takeOut_30 (by decide) ?_
      refine g_icmp_eq S (tgt := 38) dX6_takeOut_31 (by decide) (fun c_31 => ?_) (fun c_31 => ?_)
      · refine g_iconst S (v := 0) dX6_takeOut_38 (by decide) ?_
        refine g_cVr S (c_goesWell l D ty A mo ad _ _) (cwV 1 S.2.2.2.2 gX6_takeOut_X6_goesWell rfl rfl rfl (by decide +kernel) ⟨Nat.le_of_ble_eq_true rfl, Nat.le_of_ble_eq_true rfl⟩) hK hE (fun H h => h) (m_recv hK) rfl (Nat.le_of_ble_eq_true rfl) dX6_takeOut_39 ⟨Nat.le_of_ble_eq_true rfl, Nat.le_of_ble_eq_true rfl⟩ ?_
        refine g_if_ne S (tgt := 47) dX6_takeOut_42 (by decide) (fun c_42 => ?_) (fun c_42 => ?_)
        · refine g_aload_n S dX6_takeOut_47 rfl ?_
          refine m_getf S hK 21 (by decide) (S.2.2.2.2 _ (List.mem_of_getElem? (i := 1) rfl)) rfl dX6_takeOut_48 ?_
          refine g_iload_n S dX6_takeOut_51 rfl ?_
          refine m_iald S hK (by decide) (by first | assumption | exact rin c_8 hn.2.2.1) dX6_takeOut_52 ?_
          refine g_istore_n S dX6_takeOut_53 (by decide) rfl ?_
          refine g_aload_n S dX6_takeOut_54 rfl ?_
          refine g_iload_n S dX6_takeOut_55 rfl ?_
          refine g_iload_n S dX6_takeOut_56 rfl ?_
          refine g_iconst S (v := 1) dX6_takeOut_57 (by decide) ?_
          refine g_cVv S (c_lose l D ty A mo ad _ _ _ (by exact rin c_8 hn.2.2.1) (by exact hw 23 _)) (cwV 3 S.2.2.2.2 gX6_takeOut_X6_lose rfl rfl rfl (by decide +kernel) ⟨Nat.le_of_ble_eq_true rfl, Nat.le_of_ble_eq_true rfl⟩) hK hE (fun H h => h) (m_recv hK) rfl (Nat.le_of_ble_eq_true rfl) dX6_takeOut_58 ⟨Nat.le_of_ble_eq_true rfl, Nat.le_of_ble_eq_true rfl⟩ ?_
          refine g_iload_n S dX6_takeOut_61 rfl ?_
          exact g_iret S hlk hr (fun H h => (by simp (config := { decide := true }) only [gRet, mTakeOut, c_8, c_21, c_31, if_true, if_false, reduceIte, Bool.false_eq_true, not_true_eq_false, not_false_eq_true, ite_not, true_and, and_true]; first | exact ⟨rfl, h⟩ | exact h)) (Nat.le_refl _) (Nat.le_refl _) dX6_takeOut_62
        · exact absurd c_42 (by decide)
      · refine g_iconst S (v := 2) dX6_takeOut_34 (by decide) ?_
        refine g_goto S (tgt := 39) dX6_takeOut_35 (by decide) ?_
        refine g_cVr S (c_goesWell l D ty A mo ad _ _) (cwV 1 S.2.2.2.2 gX6_takeOut_X6_goesWell rfl rfl rfl (by decide +kernel) ⟨Nat.le_of_ble_eq_true rfl, Nat.le_of_ble_eq_true rfl⟩) hK hE (fun H h => h) (m_recv hK) rfl (Nat.le_of_ble_eq_true rfl) dX6_takeOut_39 ⟨Nat.le_of_ble_eq_true rfl, Nat.le_of_ble_eq_true rfl⟩ ?_
        refine g_if_ne S (tgt := 47) dX6_takeOut_42 (by decide) (fun c_42 => ?_) (fun c_42 => ?_)
        · exact absurd c_42 (by decide)
        · refine g_iconst S (v := 0) dX6_takeOut_45 (by decide) ?_
          exact g_iret S hlk hr (fun H h => (by simp (config := { decide := true }) only [gRet, mTakeOut, c_8, c_21, c_31, if_true, if_false, reduceIte, Bool.false_eq_true, not_true_eq_false, not_false_eq_true, ite_not, true_and, and_true]; first | exact ⟨rfl, h⟩ | exact h)) (Nat.le_refl _) (Nat.le_refl _) dX6_takeOut_46
  · refine g_iconst S (v := 1) dX6_takeOut_11 (by decide) ?_
    refine g_goto S (tgt := 39) dX6_takeOut_12 (by decide) ?_
    refine g_cVr S (c_goesWell l D ty A mo ad _ _) (cwV 1 S.2.2.2.2 gX6_takeOut_X6_goesWell rfl rfl rfl (by decide +kernel) ⟨Nat.le_of_ble_eq_true rfl, Nat.le_of_ble_eq_true rfl⟩) hK hE (fun H h => h) (m_recv hK) rfl (Nat.le_of_ble_eq_true rfl) dX6_takeOut_39 ⟨Nat.le_of_ble_eq_true rfl, Nat.le_of_ble_eq_true rfl⟩ ?_
    refine g_if_ne S (tgt := 47) dX6_takeOut_42 (by decide) (fun c_42 => ?_) (fun c_42 => ?_)
    · exact absurd c_42 (by decide)
    · refine g_iconst S (v := 0) dX6_takeOut_45 (by decide) ?_
      exact g_iret S hlk hr (fun H h => (by simp (config := { decide := true }) only [gRet, mTakeOut, c_8, if_true, if_false, reduceIte, Bool.false_eq_true, not_true_eq_false, not_false_eq_true, ite_not, true_and, and_true]; first | exact ⟨rfl, h⟩ | exact h)) (Nat.le_refl _) (Nat.le_refl _) dX6_takeOut_46

