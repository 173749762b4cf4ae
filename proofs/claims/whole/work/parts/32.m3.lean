def mReceipt (a : MS) (r what : Int32) : Int32 × MS :=
  if mIn r 0 (gS a 20 - 1) = true then
    if mIn what 0 7 = true then
      let b := mS a 0 0
      (if what = 0 then gA (mS a 0 0) 21 r else if what = 1 then gA (mS a 0 0) 22 r else if what = 2 then gA (mS a 0 0) 23 r else if what = 3 then gA (mS a 0 0) 24 r else if what = 4 then gA (mS a 0 0) 25 r
       else if what = 5 then (if ¬ gA (mS a 0 0) 25 r = -1 then gA (mS a 0 0) 26 r else -1) else if what = 6 then (if ¬ gA (mS a 0 0) 25 r = -1 then gA (mS a 0 0) 27 r else -1) else gA (mS a 0 0) 28 r, b)
    else (0, mS a 0 2)
  else (0, mS a 0 1)
def mReceipts (a : MS) : Int32 × MS := (gS a 20, mS a 0 0)
def mDelivery (a : MS) (d what : Int32) : Int32 × MS :=
  if mIn d 0 (gS a 13 - 1) = true then
    if mIn what 0 3 = true then (if what = 0 then gA a 16 d else if ¬ what = 1 then (if ¬ what = 2 then gA a 14 d else gA a 19 d) else gA a 18 d, mS a 0 0)
    else (0, mS a 0 2)
  else (0, mS a 0 1)
def mOfContract (a : MS) (d what : Int32) : Int32 × MS :=
  if mIn d 0 (gS a 33 - 1) = true then
    if mIn what 0 3 = true then (if what = 0 then gA (mS a 0 0) 39 d else if ¬ what = 1 then (if ¬ what = 2 then gA (mS a 0 0) 43 d else gA (mS a 0 0) 42 d) else (if gA (mS a 0 0) 41 d = 0 then 0 else 1), mS a 0 0)
    else (0, mS a 0 2)
  else (0, mS a 0 1)
def mOfSilo (a : MS) (d what : Int32) : Int32 × MS :=
  if mIn d 0 (gS a 7 - 1) = true then
    if mIn what 0 3 = true then (if what = 0 then gA (mS a 0 0) 9 d else if ¬ what = 3 then (if gA (mS a 0 0) 9 d = 0 then -1 else if ¬ what = 1 then gA (mS a 0 0) 11 d else gA (mS a 0 0) 10 d) else gA (mS a 0 0) 12 d, mS a 0 0)
    else (0, mS a 0 2)
  else (0, mS a 0 1)
def mAccount (a : MS) (h : Int32) : Int64 × MS := if mIn h 0 5 = true then (gY a h, mS a 0 0) else (0, mS a 0 1)
def mOwes (a : MS) (h : Int32) : Int32 × MS := if mIn h 0 5 = true then (gA a 6 h, mS a 0 0) else (0, mS a 0 1)
abbrev rmX6_receipts : Room := { frames := 0, cells := 0, slots := 0, locals := 0 }
set_option maxHeartbeats 4000000 in
set_option maxRecDepth 100000 in
theorem c_mreceipts (l : Launch) (D : va_G) (ty : Nat → ClassId) (A : Nat → Prop) (mo : Nat) (ad : Nat → Nat) (a : MS) : Met l yX6_receipts wsX6_receipts rmX6_receipts (gPc D ty false [] 0 A [.ref mo] (hM D ty A mo ad a)) (gQ A (gRet (some (.int (mReceipts a).1)) (hM D ty A mo ad (mReceipts a).2))) 0 0 A := by
  refine g_Met (cc := cX6_receipts) (maxL := 1) (ret := (some .int)) [some (.ref mo)] (by decide) rfl (Nat.le_of_ble_eq_true rfl) rfl ?_
  intro p e s m args below meth c S hlk hr hnm hK hE hP0
  have S : CallFix p m c cX6_receipts 1 s args wsX6_receipts RX6 := S
  refine g_aload_n S dX6_receipts_0 rfl ?_
  refine g_iconst S (v := 0) dX6_receipts_1 (by decide) ?_
  refine m_puts S hK 0 (by decide) (S.2.2.2.2 _ (List.mem_of_getElem? (i := 1) rfl)) dX6_receipts_2 ?_
  refine g_aload_n S dX6_receipts_5 rfl ?_
  refine m_getf S hK 20 (by decide) (S.2.2.2.2 _ (List.mem_of_getElem? (i := 2) rfl)) rfl dX6_receipts_6 ?_
  exact g_iret S hlk hr (fun H h => ⟨rfl, h⟩) (Nat.le_refl _) (Nat.le_refl _) dX6_receipts_9

abbrev rmX6_delivery : Room := { frames := 1, cells := 0, slots := 0, locals := 22 }
set_option maxHeartbeats 4000000 in
set_option maxRecDepth 100000 in
theorem c_mdelivery (l : Launch) (D : va_G) (ty : Nat → ClassId) (A : Nat → Prop) (mo : Nat) (ad : Nat → Nat) (a : MS) (d what : Int32) (hw : mWf a) (hn : mCnt a) (hc : vp_in (gS a 29) 5900) : Met l yX6_delivery wsX6_delivery rmX6_delivery (gPc D ty false [] 0 A [.ref mo, .int d, .int what] (hM D ty A mo ad a)) (gQ A (gRet (some (.int (mDelivery a d what).1)) (hM D ty A mo ad (mDelivery a d what).2))) 0 0 A := by
  refine g_Met (cc := cX6_delivery) (maxL := 4) (ret := (some .int)) [some (.ref mo), some (.int d), some (.int what), none] (by decide) rfl (Nat.le_of_ble_eq_true rfl) rfl ?_
  intro p e s m args below meth c S hlk hr hnm hK hE hP0
  have S : CallFix p m c cX6_delivery 4 s args wsX6_delivery RX6 := S
  refine g_iload_n S dX6_delivery_0 rfl ?_
  refine g_iconst S (v := 0) dX6_delivery_1 (by decide) ?_
  refine g_aload_n S dX6_delivery_2 rfl ?_
  refine m_getf S hK 13 (by decide) (S.2.2.2.2 _ (List.mem_of_getElem? (i := 1) rfl)) rfl dX6_delivery_3 ?_
  refine g_iconst S (v := 1) dX6_delivery_6 (by decide) ?_
  refine g_isub S dX6_delivery_7 ?_
  refine g_cSr S (c_in l D ty A _ _ _ _) (va_cwS 3 S.2.2.2.2 gX6_delivery_X6_in rfl rfl rfl (by decide +kernel) ⟨Nat.le_of_ble_eq_true rfl, Nat.le_of_ble_eq_true rfl⟩) hK hE (fun H h => h) rfl (Nat.le_of_ble_eq_true rfl) dX6_delivery_8 ⟨Nat.le_of_ble_eq_true rfl, Nat.le_of_ble_eq_true rfl⟩ ?_
  refine g_istore_n S dX6_delivery_11 (by decide) rfl ?_
  refine g_aload_n S dX6_delivery_12 rfl ?_
  refine g_iload_n S dX6_delivery_13 rfl ?_
  refine g_ifb_ne S (tgt := 21) dX6_delivery_14 (by decide) (fun c_14 => ?_) (fun c_14 => ?_)
  · refine g_iload_n S dX6_delivery_21 rfl ?_
    refine g_iconst S (v := 0) dX6_delivery_22 (by decide) ?_
    refine g_iconst S (v := 3) dX6_delivery_23 (by decide) ?_
    refine g_cSr S (c_in l D ty A _ _ _ _) (va_cwS 3 S.2.2.2.2 gX6_delivery_X6_in rfl rfl rfl (by decide +kernel) ⟨Nat.le_of_ble_eq_true rfl, Nat.le_of_ble_eq_true rfl⟩) hK hE (fun H h => h) rfl (Nat.le_of_ble_eq_true rfl) dX6_delivery_24 ⟨Nat.le_of_ble_eq_true rfl, Nat.le_of_ble_eq_true rfl⟩ ?_
    refine g_ifb_eq S (tgt := 34) dX6_delivery_27 (by decide) (fun c_27 => ?_) (fun c_27 => ?_)
    · refine g_iconst S (v := 2) dX6_delivery_34 (by decide) ?_
      refine g_cVr S (c_goesWell l D ty A mo ad _ _) (cwV 1 S.2.2.2.2 gX6_delivery_X6_goesWell rfl rfl rfl (by decide +kernel) ⟨Nat.le_of_ble_eq_true rfl, Nat.le_of_ble_eq_true rfl⟩) hK hE (fun H h => h) (m_recv hK) rfl (Nat.le_of_ble_eq_true rfl) dX6_delivery_35 ⟨Nat.le_of_ble_eq_true rfl, Nat.le_of_ble_eq_true rfl⟩ ?_
      refine g_if_ne S (tgt := 43) dX6_delivery_38 (by decide) (fun c_38 => ?_) (fun c_38 => ?_)
      · exact absurd c_38 (by decide)
      · refine g_iconst S (v := 0) dX6_delivery_41 (by decide) ?_
        exact g_iret S hlk hr (fun H h => (by simp (config := { decide := true }) only [gRet, mDelivery, c_14, c_27, if_true, if_false, reduceIte, Bool.false_eq_true, not_true_eq_false, not_false_eq_true, ite_not, true_and, and_true]; first | exact ⟨rfl, h⟩ | exact h)) (Nat.le_refl _) (Nat.le_refl _) dX6_delivery_42
    · refine g_iconst S (v := 0) dX6_delivery_30 (by decide) ?_
      refine g_goto S (tgt := 35) dX6_delivery_31 (by decide) ?_
      refine g_cVr S (c_goesWell l D ty A mo ad _ _) (cwV 1 S.2.2.2.2 gX6_delivery_X6_goesWell rfl rfl rfl (by decide +kernel) ⟨Nat.le_of_ble_eq_true rfl, Nat.le_of_ble_eq_true rfl⟩) hK hE (fun H h => h) (m_recv hK) rfl (Nat.le_of_ble_eq_true rfl) dX6_delivery_35 ⟨Nat.le_of_ble_eq_true rfl, Nat.le_of_ble_eq_true rfl⟩ ?_
      refine g_if_ne S (tgt := 43) dX6_delivery_38 (by decide) (fun c_38 => ?_) (fun c_38 => ?_)
      · refine g_iload_n S dX6_delivery_43 rfl ?_
        refine g_if_ne S (tgt := 56) dX6_delivery_44 (by decide) (fun c_44 => ?_) (fun c_44 => ?_)
        · refine g_iload_n S dX6_delivery_56 rfl ?_
          refine g_iconst S (v := 1) dX6_delivery_57 (by decide) ?_
          refine g_icmp_ne S (tgt := 70) dX6_delivery_58 (by decide) (fun c_58 => ?_) (fun c_58 => ?_)
          · refine g_iload_n S dX6_delivery_70 rfl ?_
            refine g_iconst S (v := 2) dX6_delivery_71 (by decide) ?_
            refine g_icmp_ne S (tgt := 84) dX6_delivery_72 (by decide) (fun c_72 => ?_) (fun c_72 => ?_)
            · refine g_aload_n S dX6_delivery_84 rfl ?_
              refine m_getf S hK 14 (by decide) (S.2.2.2.2 _ (List.mem_of_getElem? (i := 5) rfl)) rfl dX6_delivery_85 ?_
              refine g_iload_n S dX6_delivery_88 rfl ?_
              refine m_iald S hK (by decide) (by first | assumption | exact rin c_14 hn.2.1) dX6_delivery_89 ?_
              exact g_iret S hlk hr (fun H h => (by simp (config := { decide := true }) only [gRet, mDelivery, c_14, c_27, c_44, c_58, c_72, if_true, if_false, reduceIte, Bool.false_eq_true, not_true_eq_false, not_false_eq_true, ite_not, true_and, and_true]; first | exact ⟨rfl, h⟩ | exact h)) (Nat.le_refl _) (Nat.le_refl _) dX6_delivery_90
            · refine g_aload_n S dX6_delivery_75 rfl ?_
              refine m_getf S hK 19 (by decide) (S.2.2.2.2 _ (List.mem_of_getElem? (i := 4) rfl)) rfl dX6_delivery_76 ?_
              refine g_iload_n S dX6_delivery_79 rfl ?_
              refine m_iald S hK (by decide) (by first | assumption | exact rin c_14 hn.2.1) dX6_delivery_80 ?_
              refine g_goto S (tgt := 90) dX6_delivery_81 (by decide) ?_
              exact g_iret S hlk hr (fun H h => (by simp (config := { decide := true }) only [gRet, mDelivery, c_14, c_27, c_44, c_58, c_72, if_true, if_false, reduceIte, Bool.false_eq_true, not_true_eq_false, not_false_eq_true, ite_not, true_and, and_true]; first | exact ⟨rfl, h⟩ | exact h)) (Nat.le_refl _) (Nat.le_refl _) dX6_delivery_90
          · refine g_aload_n S dX6_delivery_61 rfl ?_
            refine m_getf S hK 18 (by decide) (S.2.2.2.2 _ (List.mem_of_getElem? (i := 3) rfl)) rfl dX6_delivery_62 ?_
            refine g_iload_n S dX6_delivery_65 rfl ?_
            refine m_iald S hK (by decide) (by first | assumption | exact rin c_14 hn.2.1) dX6_delivery_66 ?_
            refine g_goto S (tgt := 90) dX6_delivery_67 (by decide) ?_
            exact g_iret S hlk hr (fun H h => (by simp (config := { decide := true }) only [gRet, mDelivery, c_14, c_27, c_44, c_58, if_true, if_false, reduceIte, Bool.false_eq_true, not_true_eq_false, not_false_eq_true, ite_not, true_and, and_true]; first | exact ⟨rfl, h⟩ | exact h)) (Nat.le_refl _) (Nat.le_refl _) dX6_delivery_90
        · refine g_aload_n S dX6_delivery_47 rfl ?_
          refine m_getf S hK 16 (by decide) (S.2.2.2.2 _ (List.mem_of_getElem? (i := 2) rfl)) rfl dX6_delivery_48 ?_
          refine g_iload_n S dX6_delivery_51 rfl ?_
          refine m_iald S hK (by decide) (by first | assumption | exact rin c_14 hn.2.1) dX6_delivery_52 ?_
          refine g_goto S (tgt := 90) dX6_delivery_53 (by decide) ?_
          exact g_iret S hlk hr (fun H h => (by simp (config := { decide := true }) only [gRet, mDelivery, c_14, c_27, c_44, if_true, if_false, reduceIte, Bool.false_eq_true, not_true_eq_false, not_false_eq_true, ite_not, true_and, and_true]; first | exact ⟨rfl, h⟩ | exact h)) (Nat.le_refl _) (Nat.le_refl _) dX6_delivery_90
      · exact absurd c_38 (by decide)
  · refine g_iconst S (v := 1) dX6_delivery_17 (by decide) ?_
    refine g_goto S (tgt := 35) dX6_delivery_18 (by decide) ?_
    refine g_cVr S (c_goesWell l D ty A mo ad _ _) (cwV 1 S.2.2.2.2 gX6_delivery_X6_goesWell rfl rfl rfl (by decide +kernel) ⟨Nat.le_of_ble_eq_true rfl, Nat.le_of_ble_eq_true rfl⟩) hK hE (fun H h => h) (m_recv hK) rfl (Nat.le_of_ble_eq_true rfl) dX6_delivery_35 ⟨Nat.le_of_ble_eq_true rfl, Nat.le_of_ble_eq_true rfl⟩ ?_
    refine g_if_ne S (tgt := 43) dX6_delivery_38 (by decide) (fun c_38 => ?_) (fun c_38 => ?_)
    · exact absurd c_38 (by decide)
    · refine g_iconst S (v := 0) dX6_delivery_41 (by decide) ?_
      exact g_iret S hlk hr (fun H h => (by simp (config := { decide := true }) only [gRet, mDelivery, c_14, if_true, if_false, reduceIte, Bool.false_eq_true, not_true_eq_false, not_false_eq_true, ite_not, true_and, and_true]; first | exact ⟨rfl, h⟩ | exact h)) (Nat.le_refl _) (Nat.le_refl _) dX6_delivery_42

abbrev rmX6_ofContract : Room := { frames := 1, cells := 0, slots := 0, locals := 22 }
set_option maxHeartbeats 4000000 in
set_option maxRecDepth 100000 in
theorem c_mofContract (l : Launch) (D : va_G) (ty : Nat → ClassId) (A : Nat → Prop) (mo : Nat) (ad : Nat → Nat) (a : MS) (d what : Int32) (hw : mWf a) (hn : mCnt a) (hc : vp_in (gS a 29) 5900) : Met l yX6_ofContract wsX6_ofContract rmX6_ofContract (gPc D ty false [] 0 A [.ref mo, .int d, .int what] (hM D ty A mo ad a)) (gQ A (gRet (some (.int (mOfContract a d what).1)) (hM D ty A mo ad (mOfContract a d what).2))) 0 0 A := by
  refine g_Met (cc := cX6_ofContract) (maxL := 4) (ret := (some .int)) [some (.ref mo), some (.int d), some (.int what), none] (by decide) rfl (Nat.le_of_ble_eq_true rfl) rfl ?_
  intro p e s m args below meth c S hlk hr hnm hK hE hP0
  have S : CallFix p m c cX6_ofContract 4 s args wsX6_ofContract RX6 := S
  refine g_iload_n S dX6_ofContract_0 rfl ?_
  refine g_iconst S (v := 0) dX6_ofContract_1 (by decide) ?_
  refine g_aload_n S dX6_ofContract_2 rfl ?_
  refine m_getf S hK 33 (by decide) (S.2.2.2.2 _ (List.mem_of_getElem? (i := 1) rfl)) rfl dX6_ofContract_3 ?_
  refine g_iconst S (v := 1) dX6_ofContract_6 (by decide) ?_
  refine g_isub S dX6_ofContract_7 ?_
  refine g_cSr S (c_in l D ty A _ _ _ _) (va_cwS 3 S.2.2.2.2 gX6_ofContract_X6_in rfl rfl rfl (by decide +kernel) ⟨Nat.le_of_ble_eq_true rfl, Nat.le_of_ble_eq_true rfl⟩) hK hE (fun H h => h) rfl (Nat.le_of_ble_eq_true rfl) dX6_ofContract_8 ⟨Nat.le_of_ble_eq_true rfl, Nat.le_of_ble_eq_true rfl⟩ ?_
  refine g_istore_n S dX6_ofContract_11 (by decide) rfl ?_
  refine g_aload_n S dX6_ofContract_12 rfl ?_
  refine g_iload_n S dX6_ofContract_13 rfl ?_
  refine g_ifb_ne S (tgt := 21) dX6_ofContract_14 (by decide) (fun c_14 => ?_) (fun c_14 => ?_)
  · refine g_iload_n S dX6_ofContract_21 rfl ?_
    refine g_iconst S (v := 0) dX6_ofContract_22 (by decide) ?_
    refine g_iconst S (v := 3) dX6_ofContract_23 (by decide) ?_
    refine g_cSr S (c_in l D ty A _ _ _ _) (va_cwS 3 S.2.2.2.2 gX6_ofContract_X6_in rfl rfl rfl (by decide +kernel) ⟨Nat.le_of_ble_eq_true rfl, Nat.le_of_ble_eq_true rfl⟩) hK hE (fun H h => h) rfl (Nat.le_of_ble_eq_true rfl) dX6_ofContract_24 ⟨Nat.le_of_ble_eq_true rfl, Nat.le_of_ble_eq_true rfl⟩ ?_
    refine g_ifb_eq S (tgt := 34) dX6_ofContract_27 (by decide) (fun c_27 => ?_) (fun c_27 => ?_)
    · refine g_iconst S (v := 2) dX6_ofContract_34 (by decide) ?_
      refine g_cVr S (c_goesWell l D ty A mo ad _ _) (cwV 1 S.2.2.2.2 gX6_ofContract_X6_goesWell rfl rfl rfl (by decide +kernel) ⟨Nat.le_of_ble_eq_true rfl, Nat.le_of_ble_eq_true rfl⟩) hK hE (fun H h => h) (m_recv hK) rfl (Nat.le_of_ble_eq_true rfl) dX6_ofContract_35 ⟨Nat.le_of_ble_eq_true rfl, Nat.le_of_ble_eq_true rfl⟩ ?_
      refine g_if_ne S (tgt := 43) dX6_ofContract_38 (by decide) (fun c_38 => ?_) (fun c_38 => ?_)
      · exact absurd c_38 (by decide)
      · refine g_iconst S (v := 0) dX6_ofContract_41 (by decide) ?_
        exact g_iret S hlk hr (fun H h => (by simp (config := { decide := true }) only [gRet, mOfContract, c_14, c_27, if_true, if_false, reduceIte, Bool.false_eq_true, not_true_eq_false, not_false_eq_true, ite_not, true_and, and_true]; first | exact ⟨rfl, h⟩ | exact h)) (Nat.le_refl _) (Nat.le_refl _) dX6_ofContract_42
    · refine g_iconst S (v := 0) dX6_ofContract_30 (by decide) ?_
      refine g_goto S (tgt := 35) dX6_ofContract_31 (by decide) ?_
      refine g_cVr S (c_goesWell l D ty A mo ad _ _) (cwV 1 S.2.2.2.2 gX6_ofContract_X6_goesWell rfl rfl rfl (by decide +kernel) ⟨Nat.le_of_ble_eq_true rfl, Nat.le_of_ble_eq_true rfl⟩) hK hE (fun H h => h) (m_recv hK) rfl (Nat.le_of_ble_eq_true rfl) dX6_ofContract_35 ⟨Nat.le_of_ble_eq_true rfl, Nat.le_of_ble_eq_true rfl⟩ ?_
      refine g_if_ne S (tgt := 43) dX6_ofContract_38 (by decide) (fun c_38 => ?_) (fun c_38 => ?_)
      · refine g_iload_n S dX6_ofContract_43 rfl ?_
        refine g_if_ne S (tgt := 56) dX6_ofContract_44 (by decide) (fun c_44 => ?_) (fun c_44 => ?_)
        · refine g_iload_n S dX6_ofContract_56 rfl ?_
          refine g_iconst S (v := 1) dX6_ofContract_57 (by decide) ?_
          refine g_icmp_ne S (tgt := 78) dX6_ofContract_58 (by decide) (fun c_58 => ?_) (fun c_58 => ?_)
          · refine g_iload_n S dX6_ofContract_78 rfl ?_
            refine g_iconst S (v := 2) dX6_ofContract_79 (by decide) ?_
            refine g_icmp_ne S (tgt := 92) dX6_ofContract_80 (by decide) (fun c_80 => ?_) (fun c_80 => ?_)
            · refine g_aload_n S dX6_ofContract_92 rfl ?_
              refine m_getf S hK 43 (by decide) (S.2.2.2.2 _ (List.mem_of_getElem? (i := 5) rfl)) rfl dX6_ofContract_93 ?_
              refine g_iload_n S dX6_ofContract_96 rfl ?_
              refine m_iald S hK (by decide) (by first | assumption | exact rin c_14 hn.2.2.2) dX6_ofContract_97 ?_
              exact g_iret S hlk hr (fun H h => (by simp (config := { decide := true }) only [gRet, mOfContract, c_14, c_27, c_44, c_58, c_80, if_true, if_false, reduceIte, Bool.false_eq_true, not_true_eq_false, not_false_eq_true, ite_not, true_and, and_true]; first | exact ⟨rfl, h⟩ | exact h)) (Nat.le_refl _) (Nat.le_refl _) dX6_ofContract_98
            · refine g_aload_n S dX6_ofContract_83 rfl ?_
              refine m_getf S hK 42 (by decide) (S.2.2.2.2 _ (List.mem_of_getElem? (i := 4) rfl)) rfl dX6_ofContract_84 ?_
              refine g_iload_n S dX6_ofContract_87 rfl ?_
              refine m_iald S hK (by decide) (by first | assumption | exact rin c_14 hn.2.2.2) dX6_ofContract_88 ?_
              refine g_goto S (tgt := 98) dX6_ofContract_89 (by decide) ?_
              exact g_iret S hlk hr (fun H h => (by simp (config := { decide := true }) only [gRet, mOfContract, c_14, c_27, c_44, c_58, c_80, if_true, if_false, reduceIte, Bool.false_eq_true, not_true_eq_false, not_false_eq_true, ite_not, true_and, and_true]; first | exact ⟨rfl, h⟩ | exact h)) (Nat.le_refl _) (Nat.le_refl _) dX6_ofContract_98
          · refine g_aload_n S dX6_ofContract_61 rfl ?_
            refine m_getf S hK 41 (by decide) (S.2.2.2.2 _ (List.mem_of_getElem? (i := 3) rfl)) rfl dX6_ofContract_62 ?_
            refine g_iload_n S dX6_ofContract_65 rfl ?_
            refine m_zald S hK (by first | assumption | exact rin c_14 hn.2.2.2) dX6_ofContract_66 ?_
            refine g_if_eq S (tgt := 74) dX6_ofContract_67 (by decide) (fun c_67 => ?_) (fun c_67 => ?_)
            · refine g_iconst S (v := 0) dX6_ofContract_74 (by decide) ?_
              refine g_goto S (tgt := 98) dX6_ofContract_75 (by decide) ?_
              exact g_iret S hlk hr (fun H h => (by simp (config := { decide := true }) only [gRet, mOfContract, c_14, c_27, c_44, c_58, c_67, if_true, if_false, reduceIte, Bool.false_eq_true, not_true_eq_false, not_false_eq_true, ite_not, true_and, and_true]; first | exact ⟨rfl, h⟩ | exact h)) (Nat.le_refl _) (Nat.le_refl _) dX6_ofContract_98
            · refine g_iconst S (v := 1) dX6_ofContract_70 (by decide) ?_
              refine g_goto S (tgt := 98) dX6_ofContract_71 (by decide) ?_
              exact g_iret S hlk hr (fun H h => (by simp (config := { decide := true }) only [gRet, mOfContract, c_14, c_27, c_44, c_58, c_67, if_true, if_false, reduceIte, Bool.false_eq_true, not_true_eq_false, not_false_eq_true, ite_not, true_and, and_true]; first | exact ⟨rfl, h⟩ | exact h)) (Nat.le_refl _) (Nat.le_refl _) dX6_ofContract_98
        · refine g_aload_n S dX6_ofContract_47 rfl ?_
          refine m_getf S hK 39 (by decide) (S.2.2.2.2 _ (List.mem_of_getElem? (i := 2) rfl)) rfl dX6_ofContract_48 ?_
          refine g_iload_n S dX6_ofContract_51 rfl ?_
          refine m_iald S hK (by decide) (by first | assumption | exact rin c_14 hn.2.2.2) dX6_ofContract_52 ?_
          refine g_goto S (tgt := 98) dX6_ofContract_53 (by decide) ?_
          exact g_iret S hlk hr (fun H h => (by simp (config := { decide := true }) only [gRet, mOfContract, c_14, c_27, c_44, if_true, if_false, reduceIte, Bool.false_eq_true, not_true_eq_false, not_false_eq_true, ite_not, true_and, and_true]; first | exact ⟨rfl, h⟩ | exact h)) (Nat.le_refl _) (Nat.le_refl _) dX6_ofContract_98
      · exact absurd c_38 (by decide)
  · refine g_iconst S (v := 1) dX6_ofContract_17 (by decide) ?_
    refine g_goto S (tgt := 35) dX6_ofContract_18 (by decide) ?_
    refine g_cVr S (c_goesWell l D ty A mo ad _ _) (cwV 1 S.2.2.2.2 gX6_ofContract_X6_goesWell rfl rfl rfl (by decide +kernel) ⟨Nat.le_of_ble_eq_true rfl, Nat.le_of_ble_eq_true rfl⟩) hK hE (fun H h => h) (m_recv hK) rfl (Nat.le_of_ble_eq_true rfl) dX6_ofContract_35 ⟨Nat.le_of_ble_eq_true rfl, Nat.le_of_ble_eq_true rfl⟩ ?_
    refine g_if_ne S (tgt := 43) dX6_ofContract_38 (by decide) (fun c_38 => ?_) (fun c_38 => ?_)
    · exact absurd c_38 (by decide)
    · refine g_iconst S (v := 0) dX6_ofContract_41 (by decide) ?_
      exact g_iret S hlk hr (fun H h => (by simp (config := { decide := true }) only [gRet, mOfContract, c_14, if_true, if_false, reduceIte, Bool.false_eq_true, not_true_eq_false, not_false_eq_true, ite_not, true_and, and_true]; first | exact ⟨rfl, h⟩ | exact h)) (Nat.le_refl _) (Nat.le_refl _) dX6_ofContract_42

abbrev rmX6_ofSilo : Room := { frames := 2, cells := 0, slots := 0, locals := 43 }
set_option maxHeartbeats 4000000 in
set_option maxRecDepth 100000 in
theorem c_mofSilo (l : Launch) (D : va_G) (ty : Nat → ClassId) (A : Nat → Prop) (mo : Nat) (ad : Nat → Nat) (a : MS) (d what : Int32) (hw : mWf a) (hn : mCnt a) (hc : vp_in (gS a 29) 5900) : Met l yX6_ofSilo wsX6_ofSilo rmX6_ofSilo (gPc D ty false [] 0 A [.ref mo, .int d, .int what] (hM D ty A mo ad a)) (gQ A (gRet (some (.int (mOfSilo a d what).1)) (hM D ty A mo ad (mOfSilo a d what).2))) 0 0 A := by
  refine g_Met (cc := cX6_ofSilo) (maxL := 5) (ret := (some .int)) [some (.ref mo), some (.int d), some (.int what), none, none] (by decide) rfl (Nat.le_of_ble_eq_true rfl) rfl ?_
  intro p e s m args below meth c S hlk hr hnm hK hE hP0
  have S : CallFix p m c cX6_ofSilo 5 s args wsX6_ofSilo RX6 := S
  refine g_aload_n S dX6_ofSilo_0 rfl ?_
  refine g_iload_n S dX6_ofSilo_1 rfl ?_
  refine g_cVr S (c_isSilo l D ty A mo ad _ _) (cwV 1 S.2.2.2.2 gX6_ofSilo_X6_isSilo rfl rfl rfl (by decide +kernel) ⟨Nat.le_of_ble_eq_true rfl, Nat.le_of_ble_eq_true rfl⟩) hK hE (fun H h => h) (m_recv hK) rfl (Nat.le_of_ble_eq_true rfl) dX6_ofSilo_2 ⟨Nat.le_of_ble_eq_true rfl, Nat.le_of_ble_eq_true rfl⟩ ?_
  refine g_istore_n S dX6_ofSilo_5 (by decide) rfl ?_
  refine g_aload_n S dX6_ofSilo_6 rfl ?_
  refine g_iload_n S dX6_ofSilo_7 rfl ?_
  refine g_ifb_ne S (tgt := 15) dX6_ofSilo_8 (by decide) (fun c_8 => ?_) (fun c_8 => ?_)
  · refine g_iload_n S dX6_ofSilo_15 rfl ?_
    refine g_iconst S (v := 0) dX6_ofSilo_16 (by decide) ?_
    refine g_iconst S (v := 3) dX6_ofSilo_17 (by decide) ?_
    refine g_cSr S (c_in l D ty A _ _ _ _) (va_cwS 3 S.2.2.2.2 gX6_ofSilo_X6_in rfl rfl rfl (by decide +kernel) ⟨Nat.le_of_ble_eq_true rfl, Nat.le_of_ble_eq_true rfl⟩) hK hE (fun H h => h) rfl (Nat.le_of_ble_eq_true rfl) dX6_ofSilo_18 ⟨Nat.le_of_ble_eq_true rfl, Nat.le_of_ble_eq_true rfl⟩ ?_
    refine g_ifb_eq S (tgt := 28) dX6_ofSilo_21 (by decide) (fun c_21 => ?_) (fun c_21 => ?_)
    · refine g_iconst S (v := 2) dX6_ofSilo_28 (by decide) ?_
      refine g_cVr S (c_goesWell l D ty A mo ad _ _) (cwV 1 S.2.2.2.2 gX6_ofSilo_X6_goesWell rfl rfl rfl (by decide +kernel) ⟨Nat.le_of_ble_eq_true rfl, Nat.le_of_ble_eq_true rfl⟩) hK hE (fun H h => h) (m_recv hK) rfl (Nat.le_of_ble_eq_true rfl) dX6_ofSilo_29 ⟨Nat.le_of_ble_eq_true rfl, Nat.le_of_ble_eq_true rfl⟩ ?_
      refine g_if_ne S (tgt := 37) dX6_ofSilo_32 (by decide) (fun c_32 => ?_) (fun c_32 => ?_)
      · exact absurd c_32 (by decide)
      · refine g_iconst S (v := 0) dX6_ofSilo_35 (by decide) ?_
        exact g_iret S hlk hr (fun H h => (by simp (config := { decide := true }) only [gRet, mOfSilo, c_8, c_21, if_true, if_false, reduceIte, Bool.false_eq_true, not_true_eq_false, not_false_eq_true, ite_not, true_and, and_true]; first | exact ⟨rfl, h⟩ | exact h)) (Nat.le_refl _) (Nat.le_refl _) dX6_ofSilo_36
    · refine g_iconst S (v := 0) dX6_ofSilo_24 (by decide) ?_
      refine g_goto S (tgt := 29) dX6_ofSilo_25 (by decide) ?_
      refine g_cVr S (c_goesWell l D ty A mo ad _ _) (cwV 1 S.2.2.2.2 gX6_ofSilo_X6_goesWell rfl rfl rfl (by decide +kernel) ⟨Nat.le_of_ble_eq_true rfl, Nat.le_of_ble_eq_true rfl⟩) hK hE (fun H h => h) (m_recv hK) rfl (Nat.le_of_ble_eq_true rfl) dX6_ofSilo_29 ⟨Nat.le_of_ble_eq_true rfl, Nat.le_of_ble_eq_true rfl⟩ ?_
      refine g_if_ne S (tgt := 37) dX6_ofSilo_32 (by decide) (fun c_32 => ?_) (fun c_32 => ?_)
      · refine g_aload_n S dX6_ofSilo_37 rfl ?_
        refine m_getf S hK 9 (by decide) (S.2.2.2.2 _ (List.mem_of_getElem? (i := 1) rfl)) rfl dX6_ofSilo_38 ?_
        refine g_iload_n S dX6_ofSilo_41 rfl ?_
        refine m_iald S hK (by decide) (by first | assumption | exact rin c_8 hn.1) dX6_ofSilo_42 ?_
        refine g_if_ne S (tgt := 50) dX6_ofSilo_43 (by decide) (fun c_43 => ?_) (fun c_43 => ?_)
        · refine g_iconst S (v := 0) dX6_ofSilo_50 (by decide) ?_
          refine g_istore S dX6_ofSilo_51 (by decide) rfl ?_
          refine g_iload_n S dX6_ofSilo_53 rfl ?_
          refine g_if_ne S (tgt := 66) dX6_ofSilo_54 (by decide) (fun c_54 => ?_) (fun c_54 => ?_)
          · refine g_iload_n S dX6_ofSilo_66 rfl ?_
            refine g_iconst S (v := 3) dX6_ofSilo_67 (by decide) ?_
            refine g_icmp_ne S (tgt := 80) dX6_ofSilo_68 (by decide) (fun c_68 => ?_) (fun c_68 => ?_)
            · refine g_iload S dX6_ofSilo_80 rfl ?_
              refine g_if_eq S (tgt := 89) dX6_ofSilo_82 (by decide) (fun c_82 => ?_) (fun c_82 => ?_)
              · refine g_iload_n S dX6_ofSilo_89 rfl ?_
                refine g_iconst S (v := 1) dX6_ofSilo_90 (by decide) ?_
                refine g_icmp_ne S (tgt := 103) dX6_ofSilo_91 (by decide) (fun c_91 => ?_) (fun c_91 => ?_)
                · refine g_aload_n S dX6_ofSilo_103 rfl ?_
                  refine m_getf S hK 11 (by decide) (S.2.2.2.2 _ (List.mem_of_getElem? (i := 4) rfl)) rfl dX6_ofSilo_104 ?_
                  refine g_iload_n S dX6_ofSilo_107 rfl ?_
                  refine m_iald S hK (by decide) (by first | assumption | exact rin c_8 hn.1) dX6_ofSilo_108 ?_
                  exact g_iret S hlk hr (fun H h => (by simp (config := { decide := true }) only [gRet, mOfSilo, c_8, c_21, c_43, c_54, c_68, c_91, if_true, if_false, reduceIte, Bool.false_eq_true, not_true_eq_false, not_false_eq_true, ite_not, true_and, and_true]; first | exact ⟨rfl, h⟩ | exact h)) (Nat.le_refl _) (Nat.le_refl _) dX6_ofSilo_109
                · refine g_aload_n S dX6_ofSilo_94 rfl ?_
                  refine m_getf S hK 10 (by decide) (S.2.2.2.2 _ (List.mem_of_getElem? (i := 3) rfl)) rfl dX6_ofSilo_95 ?_
                  refine g_iload_n S dX6_ofSilo_98 rfl ?_
                  refine m_iald S hK (by decide) (by first | assumption | exact rin c_8 hn.1) dX6_ofSilo_99 ?_
                  refine g_goto S (tgt := 109) dX6_ofSilo_100 (by decide) ?_
                  exact g_iret S hlk hr (fun H h => (by simp (config := { decide := true }) only [gRet, mOfSilo, c_8, c_21, c_43, c_54, c_68, c_91, if_true, if_false, reduceIte, Bool.false_eq_true, not_true_eq_false, not_false_eq_true, ite_not, true_and, and_true]; first | exact ⟨rfl, h⟩ | exact h)) (Nat.le_refl _) (Nat.le_refl _) dX6_ofSilo_109
              · exact absurd c_82 (by decide)
            · refine g_aload_n S dX6_ofSilo_71 rfl ?_
              refine m_getf S hK 12 (by decide) (S.2.2.2.2 _ (List.mem_of_getElem? (i := 2) rfl)) rfl dX6_ofSilo_72 ?_
              refine g_iload_n S dX6_ofSilo_75 rfl ?_
              refine m_iald S hK (by decide) (by first | assumption | exact rin c_8 hn.1) dX6_ofSilo_76 ?_
              refine g_goto S (tgt := 109) dX6_ofSilo_77 (by decide) ?_
              exact g_iret S hlk hr (fun H h => (by simp (config := { decide := true }) only [gRet, mOfSilo, c_8, c_21, c_43, c_54, c_68, if_true, if_false, reduceIte, Bool.false_eq_true, not_true_eq_false, not_false_eq_true, ite_not, true_and, and_true]; first | exact ⟨rfl, h⟩ | exact h)) (Nat.le_refl _) (Nat.le_refl _) dX6_ofSilo_109
          · refine g_aload_n S dX6_ofSilo_57 rfl ?_
            refine m_getf S hK 9 (by decide) (S.2.2.2.2 _ (List.mem_of_getElem? (i := 1) rfl)) rfl dX6_ofSilo_58 ?_
            refine g_iload_n S dX6_ofSilo_61 rfl ?_
            refine m_iald S hK (by decide) (by first | assumption | exact rin c_8 hn.1) dX6_ofSilo_62 ?_
            refine g_goto S (tgt := 109) dX6_ofSilo_63 (by decide) ?_
            exact g_iret S hlk hr (fun H h => (by simp (config := { decide := true }) only [gRet, mOfSilo, c_8, c_21, c_43, c_54, if_true, if_false, reduceIte, Bool.false_eq_true, not_true_eq_false, not_false_eq_true, ite_not, true_and, and_true]; first | exact ⟨rfl, h⟩ | exact h)) (Nat.le_refl _) (Nat.le_refl _) dX6_ofSilo_109
        · refine g_iconst S (v := 1) dX6_ofSilo_46 (by decide) ?_
          refine g_goto S (tgt := 51) dX6_ofSilo_47 (by decide) ?_
          refine g_istore S dX6_ofSilo_51 (by decide) rfl ?_
          refine g_iload_n S dX6_ofSilo_53 rfl ?_
          refine g_if_ne S (tgt := 66) dX6_ofSilo_54 (by decide) (fun c_54 => ?_) (fun c_54 => ?_)
          · refine g_iload_n S dX6_ofSilo_66 rfl ?_
            refine g_iconst S (v := 3) dX6_ofSilo_67 (by decide) ?_
            refine g_icmp_ne S (tgt := 80) dX6_ofSilo_68 (by decide) (fun c_68 => ?_) (fun c_68 => ?_)
            · refine g_iload S dX6_ofSilo_80 rfl ?_
              refine g_if_eq S (tgt := 89) dX6_ofSilo_82 (by decide) (fun c_82 => ?_) (fun c_82 => ?_)
              · exact absurd c_82 (by decide)
              · refine g_iconst S (v := (-1)) dX6_ofSilo_85 (by decide) ?_
                refine g_goto S (tgt := 109) dX6_ofSilo_86 (by decide) ?_
                exact g_iret S hlk hr (fun H h => (by simp (config := { decide := true }) only [gRet, mOfSilo, c_8, c_21, c_43, c_54, c_68, if_true, if_false, reduceIte, Bool.false_eq_true, not_true_eq_false, not_false_eq_true, ite_not, true_and, and_true]; first | exact ⟨rfl, h⟩ | exact h)) (Nat.le_refl _) (Nat.le_refl _) dX6_ofSilo_109
            · refine g_aload_n S dX6_ofSilo_71 rfl ?_
              refine m_getf S hK 12 (by decide) (S.2.2.2.2 _ (List.mem_of_getElem? (i := 2) rfl)) rfl dX6_ofSilo_72 ?_
              refine g_iload_n S dX6_ofSilo_75 rfl ?_
              refine m_iald S hK (by decide) (by first | assumption | exact rin c_8 hn.1) dX6_ofSilo_76 ?_
              refine g_goto S (tgt := 109) dX6_ofSilo_77 (by decide) ?_
              exact g_iret S hlk hr (fun H h => (by simp (config := { decide := true }) only [gRet, mOfSilo, c_8, c_21, c_43, c_54, c_68, if_true, if_false, reduceIte, Bool.false_eq_true, not_true_eq_false, not_false_eq_true, ite_not, true_and, and_true]; first | exact ⟨rfl, h⟩ | exact h)) (Nat.le_refl _) (Nat.le_refl _) dX6_ofSilo_109
          · refine g_aload_n S dX6_ofSilo_57 rfl ?_
            refine m_getf S hK 9 (by decide) (S.2.2.2.2 _ (List.mem_of_getElem? (i := 1) rfl)) rfl dX6_ofSilo_58 ?_
            refine g_iload_n S dX6_ofSilo_61 rfl ?_
            refine m_iald S hK (by decide) (by first | assumption | exact rin c_8 hn.1) dX6_ofSilo_62 ?_
            refine g_goto S (tgt := 109) dX6_ofSilo_63 (by decide) ?_
            exact g_iret S hlk hr (fun H h => (by simp (config := { decide := true }) only [gRet, mOfSilo, c_8, c_21, c_43, c_54, if_true, if_false, reduceIte, Bool.false_eq_true, not_true_eq_false, not_false_eq_true, ite_not, true_and, and_true]; first | exact ⟨rfl, h⟩ | exact h)) (Nat.le_refl _) (Nat.le_refl _) dX6_ofSilo_109
      · exact absurd c_32 (by decide)
  · refine g_iconst S (v := 1) dX6_ofSilo_11 (by decide) ?_
    refine g_goto S (tgt := 29) dX6_ofSilo_12 (by decide) ?_
    refine g_cVr S (c_goesWell l D ty A mo ad _ _) (cwV 1 S.2.2.2.2 gX6_ofSilo_X6_goesWell rfl rfl rfl (by decide +kernel) ⟨Nat.le_of_ble_eq_true rfl, Nat.le_of_ble_eq_true rfl⟩) hK hE (fun H h => h) (m_recv hK) rfl (Nat.le_of_ble_eq_true rfl) dX6_ofSilo_29 ⟨Nat.le_of_ble_eq_true rfl, Nat.le_of_ble_eq_true rfl⟩ ?_
    refine g_if_ne S (tgt := 37) dX6_ofSilo_32 (by decide) (fun c_32 => ?_) (fun c_32 => ?_)
    · exact absurd c_32 (by decide)
    · refine g_iconst S (v := 0) dX6_ofSilo_35 (by decide) ?_
      exact g_iret S hlk hr (fun H h => (by simp (config := { decide := true }) only [gRet, mOfSilo, c_8, if_true, if_false, reduceIte, Bool.false_eq_true, not_true_eq_false, not_false_eq_true, ite_not, true_and, and_true]; first | exact ⟨rfl, h⟩ | exact h)) (Nat.le_refl _) (Nat.le_refl _) dX6_ofSilo_36

abbrev rmX6_account : Room := { frames := 2, cells := 0, slots := 0, locals := 42 }
set_option maxHeartbeats 4000000 in
set_option maxRecDepth 100000 in
theorem c_maccount (l : Launch) (D : va_G) (ty : Nat → ClassId) (A : Nat → Prop) (mo : Nat) (ad : Nat → Nat) (a : MS) (d : Int32) (hw : mWf a) (hn : mCnt a) (hc : vp_in (gS a 29) 5900) : Met l yX6_account wsX6_account rmX6_account (gPc D ty false [] 0 A [.ref mo, .int d] (hM D ty A mo ad a)) (gQ A (gRet (some (.long (mAccount a d).1)) (hM D ty A mo ad (mAccount a d).2))) 0 0 A := by
  refine g_Met (cc := cX6_account) (maxL := 2) (ret := (some .long)) [some (.ref mo), some (.int d)] (by decide) rfl (Nat.le_of_ble_eq_true rfl) rfl ?_
  intro p e s m args below meth c S hlk hr hnm hK hE hP0
  have S : CallFix p m c cX6_account 2 s args wsX6_account RX6 := S
  refine g_aload_n S dX6_account_0 rfl ?_
  refine g_iload_n S dX6_account_1 rfl ?_
  refine g_cSr S (c_isHolder l D ty A _ _) (va_cwS 1 S.2.2.2.2 gX6_account_X6_isHolder rfl rfl rfl (by decide +kernel) ⟨Nat.le_of_ble_eq_true rfl, Nat.le_of_ble_eq_true rfl⟩) hK hE (fun H h => h) rfl (Nat.le_of_ble_eq_true rfl) dX6_account_2 ⟨Nat.le_of_ble_eq_true rfl, Nat.le_of_ble_eq_true rfl⟩ ?_
  refine g_ifb_eq S (tgt := 12) dX6_account_5 (by decide) (fun c_5 => ?_) (fun c_5 => ?_)
  · refine g_iconst S (v := 1) dX6_account_12 (by decide) ?_
    refine g_cVr S (c_goesWell l D ty A mo ad _ _) (cwV 1 S.2.2.2.2 gX6_account_X6_goesWell rfl rfl rfl (by decide +kernel) ⟨Nat.le_of_ble_eq_true rfl, Nat.le_of_ble_eq_true rfl⟩) hK hE (fun H h => h) (m_recv hK) rfl (Nat.le_of_ble_eq_true rfl) dX6_account_13 ⟨Nat.le_of_ble_eq_true rfl, Nat.le_of_ble_eq_true rfl⟩ ?_
    refine g_if_eq S (tgt := 28) dX6_account_16 (by decide) (fun c_16 => ?_) (fun c_16 => ?_)
    · refine g_lconst S (v := 0) dX6_account_28 (by decide) ?_
      exact g_lret S hlk hr (fun H h => (by simp (config := { decide := true }) only [gRet, mAccount, c_5, if_true, if_false, reduceIte, Bool.false_eq_true, not_true_eq_false, not_false_eq_true, ite_not, true_and, and_true]; first | exact ⟨rfl, h⟩ | exact h)) (Nat.le_refl _) (Nat.le_refl _) dX6_account_29
    · exact absurd c_16 (by decide)
  · refine g_iconst S (v := 0) dX6_account_8 (by decide) ?_
    refine g_goto S (tgt := 13) dX6_account_9 (by decide) ?_
    refine g_cVr S (c_goesWell l D ty A mo ad _ _) (cwV 1 S.2.2.2.2 gX6_account_X6_goesWell rfl rfl rfl (by decide +kernel) ⟨Nat.le_of_ble_eq_true rfl, Nat.le_of_ble_eq_true rfl⟩) hK hE (fun H h => h) (m_recv hK) rfl (Nat.le_of_ble_eq_true rfl) dX6_account_13 ⟨Nat.le_of_ble_eq_true rfl, Nat.le_of_ble_eq_true rfl⟩ ?_
    refine g_if_eq S (tgt := 28) dX6_account_16 (by decide) (fun c_16 => ?_) (fun c_16 => ?_)
    · exact absurd c_16 (by decide)
    · refine g_aload_n S dX6_account_19 rfl ?_
      refine m_getf S hK 5 (by decide) (S.2.2.2.2 _ (List.mem_of_getElem? (i := 1) rfl)) rfl dX6_account_20 ?_
      refine g_iload_n S dX6_account_23 rfl ?_
      refine m_lald S hK (by exact vin_mIn c_5 (by decide)) dX6_account_24 ?_
      refine g_goto S (tgt := 29) dX6_account_25 (by decide) ?_
      exact g_lret S hlk hr (fun H h => (by simp (config := { decide := true }) only [gRet, mAccount, c_5, if_true, if_false, reduceIte, Bool.false_eq_true, not_true_eq_false, not_false_eq_true, ite_not, true_and, and_true]; first | exact ⟨rfl, h⟩ | exact h)) (Nat.le_refl _) (Nat.le_refl _) dX6_account_29

abbrev rmX6_owes : Room := { frames := 2, cells := 0, slots := 0, locals := 42 }
set_option maxHeartbeats 4000000 in
set_option maxRecDepth 100000 in
theorem c_mowes (l : Launch) (D : va_G) (ty : Nat → ClassId) (A : Nat → Prop) (mo : Nat) (ad : Nat → Nat) (a : MS) (d : Int32) (hw : mWf a) (hn : mCnt a) (hc : vp_in (gS a 29) 5900) : Met l yX6_owes wsX6_owes rmX6_owes (gPc D ty false [] 0 A [.ref mo, .int d] (hM D ty A mo ad a)) (gQ A (gRet (some (.int (mOwes a d).1)) (hM D ty A mo ad (mOwes a d).2))) 0 0 A := by
  refine g_Met (cc := cX6_owes) (maxL := 2) (ret := (some .int)) [some (.ref mo), some (.int d)] (by decide) rfl (Nat.le_of_ble_eq_true rfl) rfl ?_
  intro p e s m args below meth c S hlk hr hnm hK hE hP0
  have S : CallFix p m c cX6_owes 2 s args wsX6_owes RX6 := S
  refine g_aload_n S dX6_owes_0 rfl ?_
  refine g_iload_n S dX6_owes_1 rfl ?_
  refine g_cSr S (c_isHolder l D ty A _ _) (va_cwS 1 S.2.2.2.2 gX6_owes_X6_isHolder rfl rfl rfl (by decide +kernel) ⟨Nat.le_of_ble_eq_true rfl, Nat.le_of_ble_eq_true rfl⟩) hK hE (fun H h => h) rfl (Nat.le_of_ble_eq_true rfl) dX6_owes_2 ⟨Nat.le_of_ble_eq_true rfl, Nat.le_of_ble_eq_true rfl⟩ ?_
  refine g_ifb_eq S (tgt := 12) dX6_owes_5 (by decide) (fun c_5 => ?_) (fun c_5 => ?_)
  · refine g_iconst S (v := 1) dX6_owes_12 (by decide) ?_
    refine g_cVr S (c_goesWell l D ty A mo ad _ _) (cwV 1 S.2.2.2.2 gX6_owes_X6_goesWell rfl rfl rfl (by decide +kernel) ⟨Nat.le_of_ble_eq_true rfl, Nat.le_of_ble_eq_true rfl⟩) hK hE (fun H h => h) (m_recv hK) rfl (Nat.le_of_ble_eq_true rfl) dX6_owes_13 ⟨Nat.le_of_ble_eq_true rfl, Nat.le_of_ble_eq_true rfl⟩ ?_
    refine g_if_eq S (tgt := 28) dX6_owes_16 (by decide) (fun c_16 => ?_) (fun c_16 => ?_)
    · refine g_iconst S (v := 0) dX6_owes_28 (by decide) ?_
      exact g_iret S hlk hr (fun H h => (by simp (config := { decide := true }) only [gRet, mOwes, c_5, if_true, if_false, reduceIte, Bool.false_eq_true, not_true_eq_false, not_false_eq_true, ite_not, true_and, and_true]; first | exact ⟨rfl, h⟩ | exact h)) (Nat.le_refl _) (Nat.le_refl _) dX6_owes_29
    · exact absurd c_16 (by decide)
  · refine g_iconst S (v := 0) dX6_owes_8 (by decide) ?_
    refine g_goto S (tgt := 13) dX6_owes_9 (by decide) ?_
    refine g_cVr S (c_goesWell l D ty A mo ad _ _) (cwV 1 S.2.2.2.2 gX6_owes_X6_goesWell rfl rfl rfl (by decide +kernel) ⟨Nat.le_of_ble_eq_true rfl, Nat.le_of_ble_eq_true rfl⟩) hK hE (fun H h => h) (m_recv hK) rfl (Nat.le_of_ble_eq_true rfl) dX6_owes_13 ⟨Nat.le_of_ble_eq_true rfl, Nat.le_of_ble_eq_true rfl⟩ ?_
    refine g_if_eq S (tgt := 28) dX6_owes_16 (by decide) (fun c_16 => ?_) (fun c_16 => ?_)
    · exact absurd c_16 (by decide)
    · refine g_aload_n S dX6_owes_19 rfl ?_
      refine m_getf S hK 6 (by decide) (S.2.2.2.2 _ (List.mem_of_getElem? (i := 1) rfl)) rfl dX6_owes_20 ?_
      refine g_iload_n S dX6_owes_23 rfl ?_
      refine m_iald S hK (by decide) (by exact vin_mIn c_5 (by decide)) dX6_owes_24 ?_
      refine g_goto S (tgt := 29) dX6_owes_25 (by decide) ?_
      exact g_iret S hlk hr (fun H h => (by simp (config := { decide := true }) only [gRet, mOwes, c_5, if_true, if_false, reduceIte, Bool.false_eq_true, not_true_eq_false, not_false_eq_true, ite_not, true_and, and_true]; first | exact ⟨rfl, h⟩ | exact h)) (Nat.le_refl _) (Nat.le_refl _) dX6_owes_29

def mContentAnew (a : MS) (d : Int32) : Int32 × MS :=
  if mIn d 0 (gS a 7 - 1) = true then (mSumF (fun i => if ¬ gA (mS a 0 0) 23 (nI i) = d then 0 else gA (mS a 0 0) 21 (nI i)) 0 (gS a 20).toNatClampNeg 0, mS a 0 0) else (0, mS a 0 1)
def mHolds (a : MS) (who g r : Int32) : Int32 × MS :=
  if mIn who 0 5 = true then
    if mIn g 0 2 = true then
      if mIn r 0 2 = true then (mSumF (fun i => if ¬ gA (mS a 0 0) 22 (nI i) = who then 0 else if mIsOf (mS a 0 0) (gA (mS a 0 0) 23 (nI i)) g r = true then gA (mS a 0 0) 21 (nI i) else 0) 0 (gS a 20).toNatClampNeg 0, mS a 0 0)
      else (0, mS a 0 2)
    else (0, mS a 0 2)
  else (0, mS a 0 1)
def mOwnerOn (a : MS) (r day : Int32) : Int32 × MS :=
  if mIn r 0 (gS a 20 - 1) = true then
    if mIn day 0 (gS a 1) = true then (mLastF (fun i who => if ¬ gA (mS a 0 0) 30 (nI i) = r then who else if day < gA (mS a 0 0) 31 (nI i) then who else gA (mS a 0 0) 32 (nI i)) 0 (gS a 29).toNatClampNeg (-1), mS a 0 0)
    else (0, mS a 0 2)
  else (0, mS a 0 1)
def mSiloFor (a : MS) (g r x : Int32) : Int32 :=
  match mFst (fun s => mIsOf a (nI s) g r && decide (gA a 9 (nI s) + x ≤ gA a 8 (nI s))) 0 (gS a 7).toNatClampNeg with
  | some s => nI s
  | none => match mFst (fun s => decide (gA a 9 (nI s) = 0) && decide (x ≤ gA a 8 (nI s))) 0 (gS a 7).toNatClampNeg with
    | some s => nI s
    | none => -1
abbrev rmX6_contentAnew : Room := { frames := 2, cells := 0, slots := 0, locals := 43 }
set_option maxHeartbeats 4000000 in
set_option maxRecDepth 100000 in
theorem c_mcontentAnew (l : Launch) (D : va_G) (ty : Nat → ClassId) (A : Nat → Prop) (mo : Nat) (ad : Nat → Nat) (a : MS) (d : Int32) (hw : mWf a) (hn : mCnt a) (hc : vp_in (gS a 29) 5900) : Met l yX6_contentAnew wsX6_contentAnew rmX6_contentAnew (gPc D ty false [] 0 A [.ref mo, .int d] (hM D ty A mo ad a)) (gQ A (gRet (some (.int (mContentAnew a d).1)) (hM D ty A mo ad (mContentAnew a d).2))) 0 0 A := by
  refine g_Met (cc := cX6_contentAnew) (maxL := 4) (ret := (some .int)) [some (.ref mo), some (.int d), none, none] (by decide) rfl (Nat.le_of_ble_eq_true rfl) rfl ?_
  intro p e s m args below meth c S hlk hr hnm hK hE hP0
  have S : CallFix p m c cX6_contentAnew 4 s args wsX6_contentAnew RX6 := S
  refine g_aload_n S dX6_contentAnew_0 rfl ?_
  refine g_aload_n S dX6_contentAnew_1 rfl ?_
  refine g_iload_n S dX6_contentAnew_2 rfl ?_
  refine g_cVr S (c_isSilo l D ty A mo ad _ _) (cwV 1 S.2.2.2.2 gX6_contentAnew_X6_isSilo rfl rfl rfl (by decide +kernel) ⟨Nat.le_of_ble_eq_true rfl, Nat.le_of_ble_eq_true rfl⟩) hK hE (fun H h => h) (m_recv hK) rfl (Nat.le_of_ble_eq_true rfl) dX6_contentAnew_3 ⟨Nat.le_of_ble_eq_true rfl, Nat.le_of_ble_eq_true rfl⟩ ?_
  refine g_ifb_eq S (tgt := 13) dX6_contentAnew_6 (by decide) (fun c_6 => ?_) (fun c_6 => ?_)
  · refine g_iconst S (v := 1) dX6_contentAnew_13 (by decide) ?_
    refine g_cVr S (c_goesWell l D ty A mo ad _ _) (cwV 1 S.2.2.2.2 gX6_contentAnew_X6_goesWell rfl rfl rfl (by decide +kernel) ⟨Nat.le_of_ble_eq_true rfl, Nat.le_of_ble_eq_true rfl⟩) hK hE (fun H h => h) (m_recv hK) rfl (Nat.le_of_ble_eq_true rfl) dX6_contentAnew_14 ⟨Nat.le_of_ble_eq_true rfl, Nat.le_of_ble_eq_true rfl⟩ ?_
    refine g_if_ne S (tgt := 22) dX6_contentAnew_17 (by decide) (fun c_17 => ?_) (fun c_17 => ?_)
    · exact absurd c_17 (by decide)
    · refine g_iconst S (v := 0) dX6_contentAnew_20 (by decide) ?_
      exact g_iret S hlk hr (fun H h => (by simp (config := { decide := true }) only [gRet, mContentAnew, c_6, if_true, if_false, reduceIte, Bool.false_eq_true, not_true_eq_false, not_false_eq_true, ite_not, true_and, and_true]; first | exact ⟨rfl, h⟩ | exact h)) (Nat.le_refl _) (Nat.le_refl _) dX6_contentAnew_21
  · refine g_iconst S (v := 0) dX6_contentAnew_9 (by decide) ?_
    refine g_goto S (tgt := 14) dX6_contentAnew_10 (by decide) ?_
    refine g_cVr S (c_goesWell l D ty A mo ad _ _) (cwV 1 S.2.2.2.2 gX6_contentAnew_X6_goesWell rfl rfl rfl (by decide +kernel) ⟨Nat.le_of_ble_eq_true rfl, Nat.le_of_ble_eq_true rfl⟩) hK hE (fun H h => h) (m_recv hK) rfl (Nat.le_of_ble_eq_true rfl) dX6_contentAnew_14 ⟨Nat.le_of_ble_eq_true rfl, Nat.le_of_ble_eq_true rfl⟩ ?_
    refine g_if_ne S (tgt := 22) dX6_contentAnew_17 (by decide) (fun c_17 => ?_) (fun c_17 => ?_)
    · obtain ⟨nr, h80, enr⟩ := vp_in_of hn.2.2.1 (by decide)
      have ecl : (gS a 20).toNatClampNeg = nr := by rw [enr]; exact nI_clamp (by omega)
      have L : ∀ (kk i : Nat) (acc : Int32), i + kk = nr → mSumF (fun i => if ¬ gA (mS a 0 0) 23 (nI i) = d then 0 else gA (mS a 0 0) 21 (nI i)) i kk acc = mSumF (fun i => if ¬ gA (mS a 0 0) 23 (nI i) = d then 0 else gA (mS a 0 0) 21 (nI i)) 0 nr 0 → gW p l e (headSpec wsX6_contentAnew rmX6_contentAnew).room s m args below meth c A (gR below A args s 0 0 (gRet (some (.int (mContentAnew a d).1)) (hM D ty A mo ad (mContentAnew a d).2))) 4 (hM D ty A mo ad (mS a 0 0)) 0 0 26 [some (.ref mo), some (.int d), some (.int acc), some (.int (nI i))] [] := by
        intro kk
        induction kk with
        | zero =>
          intro i acc ei e1
          refine g_iload_n S dX6_contentAnew_26 rfl ?_
          refine g_aload_n S dX6_contentAnew_27 rfl ?_
          refine m_getf S hK 20 (by decide) (S.2.2.2.2 _ (List.mem_of_getElem? (i := 1) rfl)) rfl dX6_contentAnew_28 ?_
          refine g_icmp_ge S (tgt := 63) dX6_contentAnew_31 (by decide) (fun c_31 => ?_) (fun c_31 => ?_)
          · refine g_iload_n S dX6_contentAnew_63 rfl ?_
            exact g_iret S hlk hr (fun H h => (by have e9 : _ := e1; simp only [gRet, mContentAnew, c_6, if_true, if_false, reduceIte, Bool.false_eq_true, not_true_eq_false, not_false_eq_true, true_and, and_true, ecl]; exact ⟨by rw [← e1]; rfl, h⟩)) (Nat.le_refl _) (Nat.le_refl _) dX6_contentAnew_64
          · exact absurd (lp_exit enr (by omega) (by omega)) c_31
        | succ kk ih =>
          intro i acc ei e1
          refine g_iload_n S dX6_contentAnew_26 rfl ?_
          refine g_aload_n S dX6_contentAnew_27 rfl ?_
          refine m_getf S hK 20 (by decide) (S.2.2.2.2 _ (List.mem_of_getElem? (i := 1) rfl)) rfl dX6_contentAnew_28 ?_
          refine g_icmp_ge S (tgt := 63) dX6_contentAnew_31 (by decide) (fun c_31 => ?_) (fun c_31 => ?_)
          · exact absurd c_31 (lp_stay enr (by omega) (by omega))
          · refine g_iload_n S dX6_contentAnew_34 rfl ?_
            refine g_aload_n S dX6_contentAnew_35 rfl ?_
            refine m_getf S hK 23 (by decide) (S.2.2.2.2 _ (List.mem_of_getElem? (i := 2) rfl)) rfl dX6_contentAnew_36 ?_
            refine g_iload_n S dX6_contentAnew_39 rfl ?_
            refine m_iald S hK (by decide) (vin_nI (N := 80) (by omega) (by decide)) dX6_contentAnew_40 ?_
            refine g_iload_n S dX6_contentAnew_41 rfl ?_
            refine g_icmp_ne S (tgt := 54) dX6_contentAnew_42 (by decide) (fun c_42 => ?_) (fun c_42 => ?_)
            · refine g_iconst S (v := 0) dX6_contentAnew_54 (by decide) ?_
              refine g_iadd S dX6_contentAnew_55 ?_
              refine g_istore_n S dX6_contentAnew_56 (by decide) rfl ?_
              refine g_iinc S (v := nI (i + 1)) dX6_contentAnew_57 rfl (nI_inc i) (by decide) rfl ?_
              refine g_goto S (tgt := 26) dX6_contentAnew_60 (by decide) ?_
              exact ih (i + 1) _ (by omega) (by rw [← e1]; simp only [mSumF, c_42, if_true, if_false, reduceIte, Bool.false_eq_true, not_true_eq_false, not_false_eq_true, ite_not, true_and, and_true])
            · refine g_aload_n S dX6_contentAnew_45 rfl ?_
              refine m_getf S hK 21 (by decide) (S.2.2.2.2 _ (List.mem_of_getElem? (i := 3) rfl)) rfl dX6_contentAnew_46 ?_
              refine g_iload_n S dX6_contentAnew_49 rfl ?_
              refine m_iald S hK (by decide) (vin_nI (N := 80) (by omega) (by decide)) dX6_contentAnew_50 ?_
              refine g_goto S (tgt := 55) dX6_contentAnew_51 (by decide) ?_
              refine g_iadd S dX6_contentAnew_55 ?_
              refine g_istore_n S dX6_contentAnew_56 (by decide) rfl ?_
              refine g_iinc S (v := nI (i + 1)) dX6_contentAnew_57 rfl (nI_inc i) (by decide) rfl ?_
              refine g_goto S (tgt := 26) dX6_contentAnew_60 (by decide) ?_
              exact ih (i + 1) _ (by omega) (by rw [← e1]; simp only [mSumF, c_42, if_true, if_false, reduceIte, Bool.false_eq_true, not_true_eq_false, not_false_eq_true, ite_not, true_and, and_true])
      refine g_iconst S (v := 0) dX6_contentAnew_22 (by decide) ?_
      refine g_istore_n S dX6_contentAnew_23 (by decide) rfl ?_
      refine g_iconst S (v := 0) dX6_contentAnew_24 (by decide) ?_
      refine g_istore_n S dX6_contentAnew_25 (by decide) rfl ?_
      exact L nr 0 0 (Nat.zero_add _) rfl
    · exact absurd c_17 (by decide)

abbrev rmX6_holds : Room := { frames := 2, cells := 0, slots := 0, locals := 42 }
set_option maxHeartbeats 4000000 in
set_option maxRecDepth 100000 in
theorem c_mholds (l : Launch) (D : va_G) (ty : Nat → ClassId) (A : Nat → Prop) (mo : Nat) (ad : Nat → Nat) (a : MS) (who g r : Int32) (hw : mWf a) (hn : mCnt a) (hc : vp_in (gS a 29) 5900) : Met l yX6_holds wsX6_holds rmX6_holds (gPc D ty false [] 0 A [.ref mo, .int who, .int g, .int r] (hM D ty A mo ad a)) (gQ A (gRet (some (.int (mHolds a who g r).1)) (hM D ty A mo ad (mHolds a who g r).2))) 0 0 A := by
  refine g_Met (cc := cX6_holds) (maxL := 7) (ret := (some .int)) [some (.ref mo), some (.int who), some (.int g), some (.int r), none, none, none] (by decide) rfl (Nat.le_of_ble_eq_true rfl) rfl ?_
  intro p e s m args below meth c S hlk hr hnm hK hE hP0
  have S : CallFix p m c cX6_holds 7 s args wsX6_holds RX6 := S
  refine g_iload_n S dX6_holds_0 rfl ?_
  refine g_cSr S (c_isHolder l D ty A _ _) (va_cwS 1 S.2.2.2.2 gX6_holds_X6_isHolder rfl rfl rfl (by decide +kernel) ⟨Nat.le_of_ble_eq_true rfl, Nat.le_of_ble_eq_true rfl⟩) hK hE (fun H h => h) rfl (Nat.le_of_ble_eq_true rfl) dX6_holds_1 ⟨Nat.le_of_ble_eq_true rfl, Nat.le_of_ble_eq_true rfl⟩ ?_
  refine g_istore S dX6_holds_4 (by decide) rfl ?_
  refine g_aload_n S dX6_holds_6 rfl ?_
  refine g_iload S dX6_holds_7 rfl ?_
  refine g_ifb_ne S (tgt := 16) dX6_holds_9 (by decide) (fun c_9 => ?_) (fun c_9 => ?_)
  · refine g_iload_n S dX6_holds_16 rfl ?_
    refine g_cSr S (c_isKind l D ty A _ _) (va_cwS 1 S.2.2.2.2 gX6_holds_X6_isKind rfl rfl rfl (by decide +kernel) ⟨Nat.le_of_ble_eq_true rfl, Nat.le_of_ble_eq_true rfl⟩) hK hE (fun H h => h) rfl (Nat.le_of_ble_eq_true rfl) dX6_holds_17 ⟨Nat.le_of_ble_eq_true rfl, Nat.le_of_ble_eq_true rfl⟩ ?_
    refine g_ifb_eq S (tgt := 34) dX6_holds_20 (by decide) (fun c_20 => ?_) (fun c_20 => ?_)
    · refine g_iconst S (v := 2) dX6_holds_34 (by decide) ?_
      refine g_cVr S (c_goesWell l D ty A mo ad _ _) (cwV 1 S.2.2.2.2 gX6_holds_X6_goesWell rfl rfl rfl (by decide +kernel) ⟨Nat.le_of_ble_eq_true rfl, Nat.le_of_ble_eq_true rfl⟩) hK hE (fun H h => h) (m_recv hK) rfl (Nat.le_of_ble_eq_true rfl) dX6_holds_35 ⟨Nat.le_of_ble_eq_true rfl, Nat.le_of_ble_eq_true rfl⟩ ?_
      refine g_if_ne S (tgt := 43) dX6_holds_38 (by decide) (fun c_38 => ?_) (fun c_38 => ?_)
      · exact absurd c_38 (by decide)
      · refine g_iconst S (v := 0) dX6_holds_41 (by decide) ?_
        exact g_iret S hlk hr (fun H h => (by simp (config := { decide := true }) only [gRet, mHolds, c_9, c_20, if_true, if_false, reduceIte, Bool.false_eq_true, not_true_eq_false, not_false_eq_true, ite_not, true_and, and_true]; first | exact ⟨rfl, h⟩ | exact h)) (Nat.le_refl _) (Nat.le_refl _) dX6_holds_42
    · refine g_iload_n S dX6_holds_23 rfl ?_
      refine g_cSr S (c_isKind l D ty A _ _) (va_cwS 1 S.2.2.2.2 gX6_holds_X6_isKind rfl rfl rfl (by decide +kernel) ⟨Nat.le_of_ble_eq_true rfl, Nat.le_of_ble_eq_true rfl⟩) hK hE (fun H h => h) rfl (Nat.le_of_ble_eq_true rfl) dX6_holds_24 ⟨Nat.le_of_ble_eq_true rfl, Nat.le_of_ble_eq_true rfl⟩ ?_
      refine g_ifb_eq S (tgt := 34) dX6_holds_27 (by decide) (fun c_27 => ?_) (fun c_27 => ?_)
      · refine g_iconst S (v := 2) dX6_holds_34 (by decide) ?_
        refine g_cVr S (c_goesWell l D ty A mo ad _ _) (cwV 1 S.2.2.2.2 gX6_holds_X6_goesWell rfl rfl rfl (by decide +kernel) ⟨Nat.le_of_ble_eq_true rfl, Nat.le_of_ble_eq_true rfl⟩) hK hE (fun H h => h) (m_recv hK) rfl (Nat.le_of_ble_eq_true rfl) dX6_holds_35 ⟨Nat.le_of_ble_eq_true rfl, Nat.le_of_ble_eq_true rfl⟩ ?_
        refine g_if_ne S (tgt := 43) dX6_holds_38 (by decide) (fun c_38 => ?_) (fun c_38 => ?_)
        · exact absurd c_38 (by decide)
        · refine g_iconst S (v := 0) dX6_holds_41 (by decide) ?_
          exact g_iret S hlk hr (fun H h => (by simp (config := { decide := true }) only [gRet, mHolds, c_9, c_20, c_27, if_true, if_false, reduceIte, Bool.false_eq_true, not_true_eq_false, not_false_eq_true, ite_not, true_and, and_true]; first | exact ⟨rfl, h⟩ | exact h)) (Nat.le_refl _) (Nat.le_refl _) dX6_holds_42
      · refine g_iconst S (v := 0) dX6_holds_30 (by decide) ?_
        refine g_goto S (tgt := 35) dX6_holds_31 (by decide) ?_
        refine g_cVr S (c_goesWell l D ty A mo ad _ _) (cwV 1 S.2.2.2.2 gX6_holds_X6_goesWell rfl rfl rfl (by decide +kernel) ⟨Nat.le_of_ble_eq_true rfl, Nat.le_of_ble_eq_true rfl⟩) hK hE (fun H h => h) (m_recv hK) rfl (Nat.le_of_ble_eq_true rfl) dX6_holds_35 ⟨Nat.le_of_ble_eq_true rfl, Nat.le_of_ble_eq_true rfl⟩ ?_
        refine g_if_ne S (tgt := 43) dX6_holds_38 (by decide) (fun c_38 => ?_) (fun c_38 => ?_)
        · obtain ⟨nr, h80, enr⟩ := vp_in_of hn.2.2.1 (by decide)
          have ecl : (gS a 20).toNatClampNeg = nr := by rw [enr]; exact nI_clamp (by omega)
          have L : ∀ (kk i : Nat) (acc : Int32), i + kk = nr → mSumF (fun i => if ¬ gA (mS a 0 0) 22 (nI i) = who then 0 else if mIsOf (mS a 0 0) (gA (mS a 0 0) 23 (nI i)) g r = true then gA (mS a 0 0) 21 (nI i) else 0) i kk acc = mSumF (fun i => if ¬ gA (mS a 0 0) 22 (nI i) = who then 0 else if mIsOf (mS a 0 0) (gA (mS a 0 0) 23 (nI i)) g r = true then gA (mS a 0 0) 21 (nI i) else 0) 0 nr 0 → gW p l e (headSpec wsX6_holds rmX6_holds).room s m args below meth c A (gR below A args s 0 0 (gRet (some (.int (mHolds a who g r).1)) (hM D ty A mo ad (mHolds a who g r).2))) 7 (hM D ty A mo ad (mS a 0 0)) 0 0 49 [some (.ref mo), some (.int who), some (.int g), some (.int r), some (.int (b2 (mIn who 0 5))), some (.int acc), some (.int (nI i))] [] := by
            intro kk
            induction kk with
            | zero =>
              intro i acc ei e1
              refine g_iload S dX6_holds_49 rfl ?_
              refine g_aload_n S dX6_holds_51 rfl ?_
              refine m_getf S hK 20 (by decide) (S.2.2.2.2 _ (List.mem_of_getElem? (i := 1) rfl)) rfl dX6_holds_52 ?_
              refine g_icmp_ge S (tgt := 107) dX6_holds_55 (by decide) (fun c_55 => ?_) (fun c_55 => ?_)
              · refine g_iload S dX6_holds_107 rfl ?_
                exact g_iret S hlk hr (fun H h => (by have e9 : _ := e1; simp only [gRet, mHolds, c_9, c_20, c_27, if_true, if_false, reduceIte, Bool.false_eq_true, not_true_eq_false, not_false_eq_true, true_and, and_true, ecl]; exact ⟨by rw [← e1]; rfl, h⟩)) (Nat.le_refl _) (Nat.le_refl _) dX6_holds_109
              · exact absurd (lp_exit enr (by omega) (by omega)) c_55
            | succ kk ih =>
              intro i acc ei e1
              refine g_iload S dX6_holds_49 rfl ?_
              refine g_aload_n S dX6_holds_51 rfl ?_
              refine m_getf S hK 20 (by decide) (S.2.2.2.2 _ (List.mem_of_getElem? (i := 1) rfl)) rfl dX6_holds_52 ?_
              refine g_icmp_ge S (tgt := 107) dX6_holds_55 (by decide) (fun c_55 => ?_) (fun c_55 => ?_)
              · exact absurd c_55 (lp_stay enr (by omega) (by omega))
              · refine g_iload S dX6_holds_58 rfl ?_
                refine g_aload_n S dX6_holds_60 rfl ?_
                refine m_getf S hK 22 (by decide) (S.2.2.2.2 _ (List.mem_of_getElem? (i := 2) rfl)) rfl dX6_holds_61 ?_
                refine g_iload S dX6_holds_64 rfl ?_
                refine m_iald S hK (by decide) (vin_nI (N := 80) (by omega) (by decide)) dX6_holds_66 ?_
                refine g_iload_n S dX6_holds_67 rfl ?_
                refine g_icmp_ne S (tgt := 97) dX6_holds_68 (by decide) (fun c_68 => ?_) (fun c_68 => ?_)
                · refine g_iconst S (v := 0) dX6_holds_97 (by decide) ?_
                  refine g_iadd S dX6_holds_98 ?_
                  refine g_istore S dX6_holds_99 (by decide) rfl ?_
                  refine g_iinc S (v := nI (i + 1)) dX6_holds_101 rfl (nI_inc i) (by decide) rfl ?_
                  refine g_goto S (tgt := 49) dX6_holds_104 (by decide) ?_
                  exact ih (i + 1) _ (by omega) (by rw [← e1]; simp only [mSumF, c_68, if_true, if_false, reduceIte, Bool.false_eq_true, not_true_eq_false, not_false_eq_true, ite_not, true_and, and_true])
                · refine g_aload_n S dX6_holds_71 rfl ?_
                  refine g_aload_n S dX6_holds_72 rfl ?_
                  refine m_getf S hK 23 (by decide) (S.2.2.2.2 _ (List.mem_of_getElem? (i := 3) rfl)) rfl dX6_holds_73 ?_
                  refine g_iload S dX6_holds_76 rfl ?_
                  refine m_iald S hK (by decide) (vin_nI (N := 80) (by omega) (by decide)) dX6_holds_78 ?_
                  refine g_iload_n S dX6_holds_79 rfl ?_
                  refine g_iload_n S dX6_holds_80 rfl ?_
                  refine g_cVr S (c_isOf l D ty A mo ad _ _ _ _ (by exact hw 23 _)) (cwV 3 S.2.2.2.2 gX6_holds_X6_isOf rfl rfl rfl (by decide +kernel) ⟨Nat.le_of_ble_eq_true rfl, Nat.le_of_ble_eq_true rfl⟩) hK hE (fun H h => h) (m_recv hK) rfl (Nat.le_of_ble_eq_true rfl) dX6_holds_81 ⟨Nat.le_of_ble_eq_true rfl, Nat.le_of_ble_eq_true rfl⟩ ?_
                  refine g_ifb_eq S (tgt := 97) dX6_holds_84 (by decide) (fun c_84 => ?_) (fun c_84 => ?_)
                  · refine g_iconst S (v := 0) dX6_holds_97 (by decide) ?_
                    refine g_iadd S dX6_holds_98 ?_
                    refine g_istore S dX6_holds_99 (by decide) rfl ?_
                    refine g_iinc S (v := nI (i + 1)) dX6_holds_101 rfl (nI_inc i) (by decide) rfl ?_
                    refine g_goto S (tgt := 49) dX6_holds_104 (by decide) ?_
                    exact ih (i + 1) _ (by omega) (by rw [← e1]; simp only [mSumF, c_68, c_84, if_true, if_false, reduceIte, Bool.false_eq_true, not_true_eq_false, not_false_eq_true, ite_not, true_and, and_true])
                  · refine g_aload_n S dX6_holds_87 rfl ?_
                    refine m_getf S hK 21 (by decide) (S.2.2.2.2 _ (List.mem_of_getElem? (i := 4) rfl)) rfl dX6_holds_88 ?_
                    refine g_iload S dX6_holds_91 rfl ?_
                    refine m_iald S hK (by decide) (vin_nI (N := 80) (by omega) (by decide)) dX6_holds_93 ?_
                    refine g_goto S (tgt := 98) dX6_holds_94 (by decide) ?_
                    refine g_iadd S dX6_holds_98 ?_
                    refine g_istore S dX6_holds_99 (by decide) rfl ?_
                    refine g_iinc S (v := nI (i + 1)) dX6_holds_101 rfl (nI_inc i) (by decide) rfl ?_
                    refine g_goto S (tgt := 49) dX6_holds_104 (by decide) ?_
                    exact ih (i + 1) _ (by omega) (by rw [← e1]; simp only [mSumF, c_68, c_84, if_true, if_false, reduceIte, Bool.false_eq_true, not_true_eq_false, not_false_eq_true, ite_not, true_and, and_true])
          refine g_iconst S (v := 0) dX6_holds_43 (by decide) ?_
          refine g_istore S dX6_holds_44 (by decide) rfl ?_
          refine g_iconst S (v := 0) dX6_holds_46 (by decide) ?_
          refine g_istore S dX6_holds_47 (by decide) rfl ?_
          exact L nr 0 0 (Nat.zero_add _) rfl
        · exact absurd c_38 (by decide)
  · refine g_iconst S (v := 1) dX6_holds_12 (by decide) ?_
    refine g_goto S (tgt := 35) dX6_holds_13 (by decide) ?_
    refine g_cVr S (c_goesWell l D ty A mo ad _ _) (cwV 1 S.2.2.2.2 gX6_holds_X6_goesWell rfl rfl rfl (by decide +kernel) ⟨Nat.le_of_ble_eq_true rfl, Nat.le_of_ble_eq_true rfl⟩) hK hE (fun H h => h) (m_recv hK) rfl (Nat.le_of_ble_eq_true rfl) dX6_holds_35 ⟨Nat.le_of_ble_eq_true rfl, Nat.le_of_ble_eq_true rfl⟩ ?_
    refine g_if_ne S (tgt := 43) dX6_holds_38 (by decide) (fun c_38 => ?_) (fun c_38 => ?_)
    · exact absurd c_38 (by decide)
    · refine g_iconst S (v := 0) dX6_holds_41 (by decide) ?_
      exact g_iret S hlk hr (fun H h => (by simp (config := { decide := true }) only [gRet, mHolds, c_9, if_true, if_false, reduceIte, Bool.false_eq_true, not_true_eq_false, not_false_eq_true, ite_not, true_and, and_true]; first | exact ⟨rfl, h⟩ | exact h)) (Nat.le_refl _) (Nat.le_refl _) dX6_holds_42

abbrev rmX6_ownerOn : Room := { frames := 2, cells := 0, slots := 0, locals := 43 }
set_option maxHeartbeats 4000000 in
set_option maxRecDepth 100000 in
theorem c_mownerOn (l : Launch) (D : va_G) (ty : Nat → ClassId) (A : Nat → Prop) (mo : Nat) (ad : Nat → Nat) (a : MS) (r day : Int32) (hw : mWf a) (hn : mCnt a) (hc : vp_in (gS a 29) 5900) : Met l yX6_ownerOn wsX6_ownerOn rmX6_ownerOn (gPc D ty false [] 0 A [.ref mo, .int r, .int day] (hM D ty A mo ad a)) (gQ A (gRet (some (.int (mOwnerOn a r day).1)) (hM D ty A mo ad (mOwnerOn a r day).2))) 0 0 A := by
  refine g_Met (cc := cX6_ownerOn) (maxL := 6) (ret := (some .int)) [some (.ref mo), some (.int r), some (.int day), none, none, none] (by decide) rfl (Nat.le_of_ble_eq_true rfl) rfl ?_
  intro p e s m args below meth c S hlk hr hnm hK hE hP0
  have S : CallFix p m c cX6_ownerOn 6 s args wsX6_ownerOn RX6 := S
  refine g_aload_n S dX6_ownerOn_0 rfl ?_
  refine g_iload_n S dX6_ownerOn_1 rfl ?_
  refine g_cVr S (c_isReceipt l D ty A mo ad _ _) (cwV 1 S.2.2.2.2 gX6_ownerOn_X6_isReceipt rfl rfl rfl (by decide +kernel) ⟨Nat.le_of_ble_eq_true rfl, Nat.le_of_ble_eq_true rfl⟩) hK hE (fun H h => h) (m_recv hK) rfl (Nat.le_of_ble_eq_true rfl) dX6_ownerOn_2 ⟨Nat.le_of_ble_eq_true rfl, Nat.le_of_ble_eq_true rfl⟩ ?_
  refine g_istore_n S dX6_ownerOn_5 (by decide) rfl ?_
  refine g_aload_n S dX6_ownerOn_6 rfl ?_
  refine g_iload_n S dX6_ownerOn_7 rfl ?_
  refine g_ifb_ne S (tgt := 15) dX6_ownerOn_8 (by decide) (fun c_8 => ?_) (fun c_8 => ?_)
  · refine g_iload_n S dX6_ownerOn_15 rfl ?_
    refine g_iconst S (v := 0) dX6_ownerOn_16 (by decide) ?_
    refine g_aload_n S dX6_ownerOn_17 rfl ?_
    refine m_getf S hK 1 (by decide) (S.2.2.2.2 _ (List.mem_of_getElem? (i := 1) rfl)) rfl dX6_ownerOn_18 ?_
    refine g_cSr S (c_in l D ty A _ _ _ _) (va_cwS 3 S.2.2.2.2 gX6_ownerOn_X6_in rfl rfl rfl (by decide +kernel) ⟨Nat.le_of_ble_eq_true rfl, Nat.le_of_ble_eq_true rfl⟩) hK hE (fun H h => h) rfl (Nat.le_of_ble_eq_true rfl) dX6_ownerOn_21 ⟨Nat.le_of_ble_eq_true rfl, Nat.le_of_ble_eq_true rfl⟩ ?_
    refine g_ifb_eq S (tgt := 31) dX6_ownerOn_24 (by decide) (fun c_24 => ?_) (fun c_24 => ?_)
    · refine g_iconst S (v := 2) dX6_ownerOn_31 (by decide) ?_
      refine g_cVr S (c_goesWell l D ty A mo ad _ _) (cwV 1 S.2.2.2.2 gX6_ownerOn_X6_goesWell rfl rfl rfl (by decide +kernel) ⟨Nat.le_of_ble_eq_true rfl, Nat.le_of_ble_eq_true rfl⟩) hK hE (fun H h => h) (m_recv hK) rfl (Nat.le_of_ble_eq_true rfl) dX6_ownerOn_32 ⟨Nat.le_of_ble_eq_true rfl, Nat.le_of_ble_eq_true rfl⟩ ?_
      refine g_if_ne S (tgt := 40) dX6_ownerOn_35 (by decide) (fun c_35 => ?_) (fun c_35 => ?_)
      · exact absurd c_35 (by decide)
      · refine g_iconst S (v := 0) dX6_ownerOn_38 (by decide) ?_
        exact g_iret S hlk hr (fun H h => (by simp (config := { decide := true }) only [gRet, mOwnerOn, c_8, c_24, if_true, if_false, reduceIte, Bool.false_eq_true, not_true_eq_false, not_false_eq_true, ite_not, true_and, and_true]; first | exact ⟨rfl, h⟩ | exact h)) (Nat.le_refl _) (Nat.le_refl _) dX6_ownerOn_39
    · refine g_iconst S (v := 0) dX6_ownerOn_27 (by decide) ?_
      refine g_goto S (tgt := 32) dX6_ownerOn_28 (by decide) ?_
      refine g_cVr S (c_goesWell l D ty A mo ad _ _) (cwV 1 S.2.2.2.2 gX6_ownerOn_X6_goesWell rfl rfl rfl (by decide +kernel) ⟨Nat.le_of_ble_eq_true rfl, Nat.le_of_ble_eq_true rfl⟩) hK hE (fun H h => h) (m_recv hK) rfl (Nat.le_of_ble_eq_true rfl) dX6_ownerOn_32 ⟨Nat.le_of_ble_eq_true rfl, Nat.le_of_ble_eq_true rfl⟩ ?_
      refine g_if_ne S (tgt := 40) dX6_ownerOn_35 (by decide) (fun c_35 => ?_) (fun c_35 => ?_)
      · obtain ⟨nr, h80, enr⟩ := vp_in_of hc (by decide)
        have ecl : (gS a 29).toNatClampNeg = nr := by rw [enr]; exact nI_clamp (by omega)
        have L : ∀ (kk i : Nat) (acc : Int32), i + kk = nr → mLastF (fun i who => if ¬ gA (mS a 0 0) 30 (nI i) = r then who else if day < gA (mS a 0 0) 31 (nI i) then who else gA (mS a 0 0) 32 (nI i)) i kk acc = mLastF (fun i who => if ¬ gA (mS a 0 0) 30 (nI i) = r then who else if day < gA (mS a 0 0) 31 (nI i) then who else gA (mS a 0 0) 32 (nI i)) 0 nr (-1) → gW p l e (headSpec wsX6_ownerOn rmX6_ownerOn).room s m args below meth c A (gR below A args s 0 0 (gRet (some (.int (mOwnerOn a r day).1)) (hM D ty A mo ad (mOwnerOn a r day).2))) 6 (hM D ty A mo ad (mS a 0 0)) 0 0 46 [some (.ref mo), some (.int r), some (.int day), some (.int (b2 (mIn r 0 (gS a 20 - 1)))), some (.int acc), some (.int (nI i))] [] := by
          intro kk
          induction kk with
          | zero =>
            intro i acc ei e1
            refine g_iload S dX6_ownerOn_46 rfl ?_
            refine g_aload_n S dX6_ownerOn_48 rfl ?_
            refine m_getf S hK 29 (by decide) (S.2.2.2.2 _ (List.mem_of_getElem? (i := 2) rfl)) rfl dX6_ownerOn_49 ?_
            refine g_icmp_ge S (tgt := 97) dX6_ownerOn_52 (by decide) (fun c_52 => ?_) (fun c_52 => ?_)
            · refine g_iload S dX6_ownerOn_97 rfl ?_
              exact g_iret S hlk hr (fun H h => (by have e9 : _ := e1; simp only [gRet, mOwnerOn, c_8, c_24, if_true, if_false, reduceIte, Bool.false_eq_true, not_true_eq_false, not_false_eq_true, true_and, and_true, ecl]; exact ⟨by rw [← e1]; rfl, h⟩)) (Nat.le_refl _) (Nat.le_refl _) dX6_ownerOn_99
            · exact absurd (lp_exit enr (by omega) (by omega)) c_52
          | succ kk ih =>
            intro i acc ei e1
            refine g_iload S dX6_ownerOn_46 rfl ?_
            refine g_aload_n S dX6_ownerOn_48 rfl ?_
            refine m_getf S hK 29 (by decide) (S.2.2.2.2 _ (List.mem_of_getElem? (i := 2) rfl)) rfl dX6_ownerOn_49 ?_
            refine g_icmp_ge S (tgt := 97) dX6_ownerOn_52 (by decide) (fun c_52 => ?_) (fun c_52 => ?_)
            · exact absurd c_52 (lp_stay enr (by omega) (by omega))
            · refine g_aload_n S dX6_ownerOn_55 rfl ?_
              refine m_getf S hK 30 (by decide) (S.2.2.2.2 _ (List.mem_of_getElem? (i := 3) rfl)) rfl dX6_ownerOn_56 ?_
              refine g_iload S dX6_ownerOn_59 rfl ?_
              refine m_iald S hK (by decide) (vin_nI (N := 6000) (by omega) (by decide)) dX6_ownerOn_61 ?_
              refine g_iload_n S dX6_ownerOn_62 rfl ?_
              refine g_icmp_ne S (tgt := 87) dX6_ownerOn_63 (by decide) (fun c_63 => ?_) (fun c_63 => ?_)
              · refine g_iload S dX6_ownerOn_87 rfl ?_
                refine g_istore S dX6_ownerOn_89 (by decide) rfl ?_
                refine g_iinc S (v := nI (i + 1)) dX6_ownerOn_91 rfl (nI_inc i) (by decide) rfl ?_
                refine g_goto S (tgt := 46) dX6_ownerOn_94 (by decide) ?_
                exact ih (i + 1) _ (by omega) (by rw [← e1]; simp only [mLastF, c_63, if_true, if_false, reduceIte, Bool.false_eq_true, not_true_eq_false, not_false_eq_true, ite_not, true_and, and_true])
              · refine g_aload_n S dX6_ownerOn_66 rfl ?_
                refine m_getf S hK 31 (by decide) (S.2.2.2.2 _ (List.mem_of_getElem? (i := 4) rfl)) rfl dX6_ownerOn_67 ?_
                refine g_iload S dX6_ownerOn_70 rfl ?_
                refine m_iald S hK (by decide) (vin_nI (N := 6000) (by omega) (by decide)) dX6_ownerOn_72 ?_
                refine g_iload_n S dX6_ownerOn_73 rfl ?_
                refine g_icmp_gt S (tgt := 87) dX6_ownerOn_74 (by decide) (fun c_74 => ?_) (fun c_74 => ?_)
                · refine g_iload S dX6_ownerOn_87 rfl ?_
                  refine g_istore S dX6_ownerOn_89 (by decide) rfl ?_
                  refine g_iinc S (v := nI (i + 1)) dX6_ownerOn_91 rfl (nI_inc i) (by decide) rfl ?_
                  refine g_goto S (tgt := 46) dX6_ownerOn_94 (by decide) ?_
                  exact ih (i + 1) _ (by omega) (by rw [← e1]; simp only [mLastF, c_63, c_74, if_true, if_false, reduceIte, Bool.false_eq_true, not_true_eq_false, not_false_eq_true, ite_not, true_and, and_true])
                · refine g_aload_n S dX6_ownerOn_77 rfl ?_
                  refine m_getf S hK 32 (by decide) (S.2.2.2.2 _ (List.mem_of_getElem? (i := 5) rfl)) rfl dX6_ownerOn_78 ?_
                  refine g_iload S dX6_ownerOn_81 rfl ?_
                  refine m_iald S hK (by decide) (vin_nI (N := 6000) (by omega) (by decide)) dX6_ownerOn_83 ?_
                  refine g_goto S (tgt := 89) dX6_ownerOn_84 (by decide) ?_
                  refine g_istore S dX6_ownerOn_89 (by decide) rfl ?_
                  refine g_iinc S (v := nI (i + 1)) dX6_ownerOn_91 rfl (nI_inc i) (by decide) rfl ?_
                  refine g_goto S (tgt := 46) dX6_ownerOn_94 (by decide) ?_
                  exact ih (i + 1) _ (by omega) (by rw [← e1]; simp only [mLastF, c_63, c_74, if_true, if_false, reduceIte, Bool.false_eq_true, not_true_eq_false, not_false_eq_true, ite_not, true_and, and_true])
        refine g_iconst S (v := (-1)) dX6_ownerOn_40 (by decide) ?_
        refine g_istore S dX6_ownerOn_41 (by decide) rfl ?_
        refine g_iconst S (v := 0) dX6_ownerOn_43 (by decide) ?_
        refine g_istore S dX6_ownerOn_44 (by decide) rfl ?_
        exact L nr 0 (-1) (Nat.zero_add _) rfl
      · exact absurd c_35 (by decide)
  · refine g_iconst S (v := 1) dX6_ownerOn_11 (by decide) ?_
    refine g_goto S (tgt := 32) dX6_ownerOn_12 (by decide) ?_
    refine g_cVr S (c_goesWell l D ty A mo ad _ _) (cwV 1 S.2.2.2.2 gX6_ownerOn_X6_goesWell rfl rfl rfl (by decide +kernel) ⟨Nat.le_of_ble_eq_true rfl, Nat.le_of_ble_eq_true rfl⟩) hK hE (fun H h => h) (m_recv hK) rfl (Nat.le_of_ble_eq_true rfl) dX6_ownerOn_32 ⟨Nat.le_of_ble_eq_true rfl, Nat.le_of_ble_eq_true rfl⟩ ?_
    refine g_if_ne S (tgt := 40) dX6_ownerOn_35 (by decide) (fun c_35 => ?_) (fun c_35 => ?_)
    · exact absurd c_35 (by decide)
    · refine g_iconst S (v := 0) dX6_ownerOn_38 (by decide) ?_
      exact g_iret S hlk hr (fun H h => (by simp (config := { decide := true }) only [gRet, mOwnerOn, c_8, if_true, if_false, reduceIte, Bool.false_eq_true, not_true_eq_false, not_false_eq_true, ite_not, true_and, and_true]; first | exact ⟨rfl, h⟩ | exact h)) (Nat.le_refl _) (Nat.le_refl _) dX6_ownerOn_39

