abbrev rmX6_in : Room := { frames := 0, cells := 0, slots := 0, locals := 0 }
set_option maxHeartbeats 4000000 in
set_option maxRecDepth 100000 in
theorem c_in (l : Launch) (D : va_G) (ty : Nat → ClassId) (A : Nat → Prop) (P : Heap → Prop) (v a b : Int32) : Met l yX6_in wsX6_in rmX6_in (gPc D ty false [] 0 A [.int v, .int a, .int b] P) (gQ A (gRet (some (.int (b2 (mIn v a b)))) P)) 0 0 A := by
  refine g_Met (cc := cX6_in) (maxL := 3) (ret := (some .boolean)) [some (.int v), some (.int a), some (.int b)] (by decide) rfl (Nat.le_of_ble_eq_true rfl) rfl ?_
  intro p e s m args below meth c S hlk hr hnm hK hE hP0
  have S : CallFix p m c cX6_in 3 s args wsX6_in RX6 := S
  refine g_iload_n S dX6_in_0 rfl ?_
  refine g_iload_n S dX6_in_1 rfl ?_
  refine g_icmp_lt S (tgt := 14) dX6_in_2 (by decide) (fun c_2 => ?_) (fun c_2 => ?_)
  · refine g_iconst S (v := 0) dX6_in_14 (by decide) ?_
    exact g_zret S hlk hr (by first | rfl | exact nar_b2 _) (fun H h => ⟨by rw [mIn_lo c_2]; rfl, h⟩) (Nat.le_refl _) (Nat.le_refl _) dX6_in_15
  · refine g_iload_n S dX6_in_5 rfl ?_
    refine g_iload_n S dX6_in_6 rfl ?_
    refine g_icmp_gt S (tgt := 14) dX6_in_7 (by decide) (fun c_7 => ?_) (fun c_7 => ?_)
    · refine g_iconst S (v := 0) dX6_in_14 (by decide) ?_
      exact g_zret S hlk hr (by first | rfl | exact nar_b2 _) (fun H h => ⟨by rw [mIn_hi c_7]; rfl, h⟩) (Nat.le_refl _) (Nat.le_refl _) dX6_in_15
    · refine g_iconst S (v := 1) dX6_in_10 (by decide) ?_
      refine g_goto S (tgt := 15) dX6_in_11 (by decide) ?_
      exact g_zret S hlk hr (by first | rfl | exact nar_b2 _) (fun H h => ⟨by rw [mIn_ok c_2 c_7]; rfl, h⟩) (Nat.le_refl _) (Nat.le_refl _) dX6_in_15

abbrev rmX6_isHolder : Room := { frames := 1, cells := 0, slots := 0, locals := 22 }
set_option maxHeartbeats 4000000 in
set_option maxRecDepth 100000 in
theorem c_isHolder (l : Launch) (D : va_G) (ty : Nat → ClassId) (A : Nat → Prop) (P : Heap → Prop) (v : Int32) : Met l yX6_isHolder wsX6_isHolder rmX6_isHolder (gPc D ty false [] 0 A [.int v] P) (gQ A (gRet (some (.int (b2 (mIn v 0 5)))) P)) 0 0 A := by
  refine g_Met (cc := cX6_isHolder) (maxL := 1) (ret := (some .boolean)) [some (.int v)] (by decide) rfl (Nat.le_of_ble_eq_true rfl) rfl ?_
  intro p e s m args below meth c S hlk hr hnm hK hE hP0
  have S : CallFix p m c cX6_isHolder 1 s args wsX6_isHolder RX6 := S
  refine g_iload_n S dX6_isHolder_0 rfl ?_
  refine g_iconst S (v := 0) dX6_isHolder_1 (by decide) ?_
  refine g_iconst S (v := 5) dX6_isHolder_2 (by decide) ?_
  refine g_cSr S (c_in l D ty A _ _ _ _) (va_cwS 3 S.2.2.2.2 gX6_isHolder_X6_in rfl rfl rfl (by decide +kernel) ⟨Nat.le_of_ble_eq_true rfl, Nat.le_of_ble_eq_true rfl⟩) hK hE (fun H h => h) rfl (Nat.le_of_ble_eq_true rfl) dX6_isHolder_3 ⟨Nat.le_of_ble_eq_true rfl, Nat.le_of_ble_eq_true rfl⟩ ?_
  exact g_zret S hlk hr (by first | rfl | exact nar_b2 _) (fun H h => ⟨rfl, h⟩) (Nat.le_refl _) (Nat.le_refl _) dX6_isHolder_6

abbrev rmX6_isKind : Room := { frames := 1, cells := 0, slots := 0, locals := 22 }
set_option maxHeartbeats 4000000 in
set_option maxRecDepth 100000 in
theorem c_isKind (l : Launch) (D : va_G) (ty : Nat → ClassId) (A : Nat → Prop) (P : Heap → Prop) (v : Int32) : Met l yX6_isKind wsX6_isKind rmX6_isKind (gPc D ty false [] 0 A [.int v] P) (gQ A (gRet (some (.int (b2 (mIn v 0 2)))) P)) 0 0 A := by
  refine g_Met (cc := cX6_isKind) (maxL := 1) (ret := (some .boolean)) [some (.int v)] (by decide) rfl (Nat.le_of_ble_eq_true rfl) rfl ?_
  intro p e s m args below meth c S hlk hr hnm hK hE hP0
  have S : CallFix p m c cX6_isKind 1 s args wsX6_isKind RX6 := S
  refine g_iload_n S dX6_isKind_0 rfl ?_
  refine g_iconst S (v := 0) dX6_isKind_1 (by decide) ?_
  refine g_iconst S (v := 2) dX6_isKind_2 (by decide) ?_
  refine g_cSr S (c_in l D ty A _ _ _ _) (va_cwS 3 S.2.2.2.2 gX6_isKind_X6_in rfl rfl rfl (by decide +kernel) ⟨Nat.le_of_ble_eq_true rfl, Nat.le_of_ble_eq_true rfl⟩) hK hE (fun H h => h) rfl (Nat.le_of_ble_eq_true rfl) dX6_isKind_3 ⟨Nat.le_of_ble_eq_true rfl, Nat.le_of_ble_eq_true rfl⟩ ?_
  exact g_zret S hlk hr (by first | rfl | exact nar_b2 _) (fun H h => ⟨rfl, h⟩) (Nat.le_refl _) (Nat.le_refl _) dX6_isKind_6

abbrev rmX6_isReceipt : Room := { frames := 1, cells := 0, slots := 0, locals := 22 }
set_option maxHeartbeats 4000000 in
set_option maxRecDepth 100000 in
theorem c_isReceipt (l : Launch) (D : va_G) (ty : Nat → ClassId) (A : Nat → Prop) (mo : Nat) (ad : Nat → Nat) (a : MS) (v : Int32) : Met l yX6_isReceipt wsX6_isReceipt rmX6_isReceipt (gPc D ty false [] 0 A [.ref mo, .int v] (hM D ty A mo ad a)) (gQ A (gRet (some (.int (b2 (mIn v 0 (gS a 20 - 1))))) (hM D ty A mo ad a))) 0 0 A := by
  refine g_Met (cc := cX6_isReceipt) (maxL := 2) (ret := (some .boolean)) [some (.ref mo), some (.int v)] (by decide) rfl (Nat.le_of_ble_eq_true rfl) rfl ?_
  intro p e s m args below meth c S hlk hr hnm hK hE hP0
  have S : CallFix p m c cX6_isReceipt 2 s args wsX6_isReceipt RX6 := S
  refine g_iload_n S dX6_isReceipt_0 rfl ?_
  refine g_iconst S (v := 0) dX6_isReceipt_1 (by decide) ?_
  refine g_aload_n S dX6_isReceipt_2 rfl ?_
  refine m_getf S hK 20 (by decide) (S.2.2.2.2 _ (List.mem_of_getElem? (i := 1) rfl)) rfl dX6_isReceipt_3 ?_
  refine g_iconst S (v := 1) dX6_isReceipt_6 (by decide) ?_
  refine g_isub S dX6_isReceipt_7 ?_
  refine g_cSr S (c_in l D ty A _ _ _ _) (va_cwS 3 S.2.2.2.2 gX6_isReceipt_X6_in rfl rfl rfl (by decide +kernel) ⟨Nat.le_of_ble_eq_true rfl, Nat.le_of_ble_eq_true rfl⟩) hK hE (fun H h => h) rfl (Nat.le_of_ble_eq_true rfl) dX6_isReceipt_8 ⟨Nat.le_of_ble_eq_true rfl, Nat.le_of_ble_eq_true rfl⟩ ?_
  exact g_zret S hlk hr (by first | rfl | exact nar_b2 _) (fun H h => ⟨rfl, h⟩) (Nat.le_refl _) (Nat.le_refl _) dX6_isReceipt_11

abbrev rmX6_isSilo : Room := { frames := 1, cells := 0, slots := 0, locals := 22 }
set_option maxHeartbeats 4000000 in
set_option maxRecDepth 100000 in
theorem c_isSilo (l : Launch) (D : va_G) (ty : Nat → ClassId) (A : Nat → Prop) (mo : Nat) (ad : Nat → Nat) (a : MS) (v : Int32) : Met l yX6_isSilo wsX6_isSilo rmX6_isSilo (gPc D ty false [] 0 A [.ref mo, .int v] (hM D ty A mo ad a)) (gQ A (gRet (some (.int (b2 (mIn v 0 (gS a 7 - 1))))) (hM D ty A mo ad a))) 0 0 A := by
  refine g_Met (cc := cX6_isSilo) (maxL := 2) (ret := (some .boolean)) [some (.ref mo), some (.int v)] (by decide) rfl (Nat.le_of_ble_eq_true rfl) rfl ?_
  intro p e s m args below meth c S hlk hr hnm hK hE hP0
  have S : CallFix p m c cX6_isSilo 2 s args wsX6_isSilo RX6 := S
  refine g_iload_n S dX6_isSilo_0 rfl ?_
  refine g_iconst S (v := 0) dX6_isSilo_1 (by decide) ?_
  refine g_aload_n S dX6_isSilo_2 rfl ?_
  refine m_getf S hK 7 (by decide) (S.2.2.2.2 _ (List.mem_of_getElem? (i := 1) rfl)) rfl dX6_isSilo_3 ?_
  refine g_iconst S (v := 1) dX6_isSilo_6 (by decide) ?_
  refine g_isub S dX6_isSilo_7 ?_
  refine g_cSr S (c_in l D ty A _ _ _ _) (va_cwS 3 S.2.2.2.2 gX6_isSilo_X6_in rfl rfl rfl (by decide +kernel) ⟨Nat.le_of_ble_eq_true rfl, Nat.le_of_ble_eq_true rfl⟩) hK hE (fun H h => h) rfl (Nat.le_of_ble_eq_true rfl) dX6_isSilo_8 ⟨Nat.le_of_ble_eq_true rfl, Nat.le_of_ble_eq_true rfl⟩ ?_
  exact g_zret S hlk hr (by first | rfl | exact nar_b2 _) (fun H h => ⟨rfl, h⟩) (Nat.le_refl _) (Nat.le_refl _) dX6_isSilo_11

abbrev rmX6_thrown : Room := { frames := 0, cells := 0, slots := 0, locals := 0 }
set_option maxHeartbeats 4000000 in
set_option maxRecDepth 100000 in
theorem c_thrown (l : Launch) (D : va_G) (ty : Nat → ClassId) (A : Nat → Prop) (mo : Nat) (ad : Nat → Nat) (a : MS) : Met l yX6_thrown wsX6_thrown rmX6_thrown (gPc D ty false [] 0 A [.ref mo] (hM D ty A mo ad a)) (gQ A (gRet (some (.int (gS a 0))) (hM D ty A mo ad a))) 0 0 A := by
  refine g_Met (cc := cX6_thrown) (maxL := 1) (ret := (some .int)) [some (.ref mo)] (by decide) rfl (Nat.le_of_ble_eq_true rfl) rfl ?_
  intro p e s m args below meth c S hlk hr hnm hK hE hP0
  have S : CallFix p m c cX6_thrown 1 s args wsX6_thrown RX6 := S
  refine g_aload_n S dX6_thrown_0 rfl ?_
  refine m_getf S hK 0 (by decide) (S.2.2.2.2 _ (List.mem_of_getElem? (i := 1) rfl)) rfl dX6_thrown_1 ?_
  exact g_iret S hlk hr (fun H h => ⟨rfl, h⟩) (Nat.le_refl _) (Nat.le_refl _) dX6_thrown_4

abbrev rmX6_goesWell : Room := { frames := 0, cells := 0, slots := 0, locals := 0 }
set_option maxHeartbeats 4000000 in
set_option maxRecDepth 100000 in
theorem c_goesWell (l : Launch) (D : va_G) (ty : Nat → ClassId) (A : Nat → Prop) (mo : Nat) (ad : Nat → Nat) (a : MS) (x : Int32) : Met l yX6_goesWell wsX6_goesWell rmX6_goesWell (gPc D ty false [] 0 A [.ref mo, .int x] (hM D ty A mo ad a)) (gQ A (gRet (some (.int (b2 (decide (x = 0))))) (hM D ty A mo ad (mS a 0 x)))) 0 0 A := by
  refine g_Met (cc := cX6_goesWell) (maxL := 2) (ret := (some .boolean)) [some (.ref mo), some (.int x)] (by decide) rfl (Nat.le_of_ble_eq_true rfl) rfl ?_
  intro p e s m args below meth c S hlk hr hnm hK hE hP0
  have S : CallFix p m c cX6_goesWell 2 s args wsX6_goesWell RX6 := S
  refine g_aload_n S dX6_goesWell_0 rfl ?_
  refine g_iload_n S dX6_goesWell_1 rfl ?_
  refine m_puts S hK 0 (by decide) (S.2.2.2.2 _ (List.mem_of_getElem? (i := 1) rfl)) dX6_goesWell_2 ?_
  refine g_iload_n S dX6_goesWell_5 rfl ?_
  refine g_if_ne S (tgt := 13) dX6_goesWell_6 (by decide) (fun c_6 => ?_) (fun c_6 => ?_)
  · refine g_iconst S (v := 0) dX6_goesWell_13 (by decide) ?_
    exact g_zret S hlk hr (by first | rfl | exact nar_b2 _) (fun H h => ⟨by simp [b2, c_6], h⟩) (Nat.le_refl _) (Nat.le_refl _) dX6_goesWell_14
  · refine g_iconst S (v := 1) dX6_goesWell_9 (by decide) ?_
    refine g_goto S (tgt := 14) dX6_goesWell_10 (by decide) ?_
    exact g_zret S hlk hr (by first | rfl | exact nar_b2 _) (fun H h => ⟨by simp [b2, c_6], h⟩) (Nat.le_refl _) (Nat.le_refl _) dX6_goesWell_14

/-- pay: the one has less, the other more -/
def mPay (a : MS) (i j : Int32) (x : Int64) : MS := mY (mY a i (gY a i - x)) j (gY (mY a i (gY a i - x)) j + x)
abbrev rmX6_pay : Room := { frames := 0, cells := 0, slots := 0, locals := 0 }
set_option maxHeartbeats 4000000 in
set_option maxRecDepth 100000 in
theorem c_mpay (l : Launch) (D : va_G) (ty : Nat → ClassId) (A : Nat → Prop) (mo : Nat) (ad : Nat → Nat) (a : MS) (i j : Int32) (x : Int64) (hi : vp_in i 6) (hj : vp_in j 6) : Met l yX6_pay wsX6_pay rmX6_pay (gPc D ty false [] 0 A [.ref mo, .int i, .int j, .long x] (hM D ty A mo ad a)) (gQ A (gRet none (hM D ty A mo ad (mPay a i j x)))) 0 0 A := by
  refine g_Met (cc := cX6_pay) (maxL := 5) (ret := none) [some (.ref mo), some (.int i), some (.int j), some (.long x), none] (by decide) rfl (Nat.le_of_ble_eq_true rfl) rfl ?_
  intro p e s m args below meth c S hlk hr hnm hK hE hP0
  have S : CallFix p m c cX6_pay 5 s args wsX6_pay RX6 := S
  refine g_aload_n S dX6_pay_0 rfl ?_
  refine m_getf S hK 5 (by decide) (S.2.2.2.2 _ (List.mem_of_getElem? (i := 1) rfl)) rfl dX6_pay_1 ?_
  refine g_iload_n S dX6_pay_4 rfl ?_
  refine g_dup2_11 S dX6_pay_5 rfl rfl ?_
  refine m_lald S hK (by first | assumption | decide) dX6_pay_6 ?_
  refine g_lload_n S dX6_pay_7 rfl ?_
  refine g_lsub S dX6_pay_8 ?_
  refine m_last S hK (by first | assumption | decide) dX6_pay_9 ?_
  refine g_aload_n S dX6_pay_10 rfl ?_
  refine m_getf S hK 5 (by decide) (S.2.2.2.2 _ (List.mem_of_getElem? (i := 1) rfl)) rfl dX6_pay_11 ?_
  refine g_iload_n S dX6_pay_14 rfl ?_
  refine g_dup2_11 S dX6_pay_15 rfl rfl ?_
  refine m_lald S hK (by first | assumption | decide) dX6_pay_16 ?_
  refine g_lload_n S dX6_pay_17 rfl ?_
  refine g_ladd S dX6_pay_18 ?_
  refine m_last S hK (by first | assumption | decide) dX6_pay_19 ?_
  exact g_vret S hlk hr (fun H h => ⟨rfl, h⟩) (Nat.le_refl _) (Nat.le_refl _) dX6_pay_20

def mBecome (a : MS) (r who : Int32) : MS :=
  mS (mX (mX (mX (mX (mX a 22 r who) 28 r (-1)) 30 (gS a 29) r) 31 (gS a 29) (gS a 1)) 32 (gS a 29) who) 29 (gS a 29 + 1)
abbrev rmX6_become : Room := { frames := 0, cells := 0, slots := 0, locals := 0 }
set_option maxHeartbeats 4000000 in
set_option maxRecDepth 100000 in
theorem c_become (l : Launch) (D : va_G) (ty : Nat → ClassId) (A : Nat → Prop) (mo : Nat) (ad : Nat → Nat) (a : MS) (r who : Int32) (hr0 : vp_in r 80) (hc : vp_in (gS a 29) 6000) : Met l yX6_become wsX6_become rmX6_become (gPc D ty false [] 0 A [.ref mo, .int r, .int who] (hM D ty A mo ad a)) (gQ A (gRet none (hM D ty A mo ad (mBecome a r who)))) 0 0 A := by
  refine g_Met (cc := cX6_become) (maxL := 3) (ret := none) [some (.ref mo), some (.int r), some (.int who)] (by decide) rfl (Nat.le_of_ble_eq_true rfl) rfl ?_
  intro p e s m args below meth c S hlk hr hnm hK hE hP0
  have S : CallFix p m c cX6_become 3 s args wsX6_become RX6 := S
  refine g_aload_n S dX6_become_0 rfl ?_
  refine m_getf S hK 22 (by decide) (S.2.2.2.2 _ (List.mem_of_getElem? (i := 1) rfl)) rfl dX6_become_1 ?_
  refine g_iload_n S dX6_become_4 rfl ?_
  refine g_iload_n S dX6_become_5 rfl ?_
  refine m_iast S hK (by decide) (by first | assumption | exact hc) dX6_become_6 ?_
  refine g_aload_n S dX6_become_7 rfl ?_
  refine m_getf S hK 28 (by decide) (S.2.2.2.2 _ (List.mem_of_getElem? (i := 2) rfl)) rfl dX6_become_8 ?_
  refine g_iload_n S dX6_become_11 rfl ?_
  refine g_iconst S (v := (-1)) dX6_become_12 (by decide) ?_
  refine m_iast S hK (by decide) (by first | assumption | exact hc) dX6_become_13 ?_
  refine g_aload_n S dX6_become_14 rfl ?_
  refine m_getf S hK 30 (by decide) (S.2.2.2.2 _ (List.mem_of_getElem? (i := 3) rfl)) rfl dX6_become_15 ?_
  refine g_aload_n S dX6_become_18 rfl ?_
  refine m_getf S hK 29 (by decide) (S.2.2.2.2 _ (List.mem_of_getElem? (i := 4) rfl)) rfl dX6_become_19 ?_
  refine g_iload_n S dX6_become_22 rfl ?_
  refine m_iast S hK (by decide) (by first | assumption | exact hc) dX6_become_23 ?_
  refine g_aload_n S dX6_become_24 rfl ?_
  refine m_getf S hK 31 (by decide) (S.2.2.2.2 _ (List.mem_of_getElem? (i := 5) rfl)) rfl dX6_become_25 ?_
  refine g_aload_n S dX6_become_28 rfl ?_
  refine m_getf S hK 29 (by decide) (S.2.2.2.2 _ (List.mem_of_getElem? (i := 4) rfl)) rfl dX6_become_29 ?_
  refine g_aload_n S dX6_become_32 rfl ?_
  refine m_getf S hK 1 (by decide) (S.2.2.2.2 _ (List.mem_of_getElem? (i := 6) rfl)) rfl dX6_become_33 ?_
  refine m_iast S hK (by decide) (by first | assumption | exact hc) dX6_become_36 ?_
  refine g_aload_n S dX6_become_37 rfl ?_
  refine m_getf S hK 32 (by decide) (S.2.2.2.2 _ (List.mem_of_getElem? (i := 7) rfl)) rfl dX6_become_38 ?_
  refine g_aload_n S dX6_become_41 rfl ?_
  refine m_getf S hK 29 (by decide) (S.2.2.2.2 _ (List.mem_of_getElem? (i := 4) rfl)) rfl dX6_become_42 ?_
  refine g_iload_n S dX6_become_45 rfl ?_
  refine m_iast S hK (by decide) (by first | assumption | exact hc) dX6_become_46 ?_
  refine g_aload_n S dX6_become_47 rfl ?_
  refine g_dup S dX6_become_48 rfl ?_
  refine m_getf S hK 29 (by decide) (S.2.2.2.2 _ (List.mem_of_getElem? (i := 4) rfl)) rfl dX6_become_49 ?_
  refine g_iconst S (v := 1) dX6_become_52 (by decide) ?_
  refine g_iadd S dX6_become_53 ?_
  refine m_puts S hK 29 (by decide) (S.2.2.2.2 _ (List.mem_of_getElem? (i := 4) rfl)) dX6_become_54 ?_
  exact g_vret S hlk hr (fun H h => ⟨rfl, h⟩) (Nat.le_refl _) (Nat.le_refl _) dX6_become_57

