abbrev rmX6_receipt : Room := { frames := 2, cells := 0, slots := 0, locals := 43 }
set_option maxHeartbeats 4000000 in
set_option maxRecDepth 100000 in
theorem c_mreceipt (l : Launch) (D : va_G) (ty : Nat → ClassId) (A : Nat → Prop) (mo : Nat) (ad : Nat → Nat) (a : MS) (r what : Int32) (hw : mWf a) (hn : mCnt a) (hc : vp_in (gS a 29) 5900) : Met l yX6_receipt wsX6_receipt rmX6_receipt (gPc D ty false [] 0 A [.ref mo, .int r, .int what] (hM D ty A mo ad a)) (gQ A (gRet (some (.int (mReceipt a r what).1)) (hM D ty A mo ad (mReceipt a r what).2))) 0 0 A := by
  refine g_Met (cc := cX6_receipt) (maxL := 5) (ret := (some .int)) [some (.ref mo), some (.int r), some (.int what), none, none] (by decide) rfl (Nat.le_of_ble_eq_true rfl) rfl ?_
  intro p e s m args below meth c S hlk hr hnm hK hE hP0
  have S : CallFix p m c cX6_receipt 5 s args wsX6_receipt RX6 := S
  refine g_aload_n S dX6_receipt_0 rfl ?_
  refine g_iload_n S dX6_receipt_1 rfl ?_
  refine g_cVr S (c_isReceipt l D ty A mo ad _ _) (cwV 1 S.2.2.2.2 gX6_receipt_X6_isReceipt rfl rfl rfl (by decide +kernel) ⟨Nat.le_of_ble_eq_true rfl, Nat.le_of_ble_eq_true rfl⟩) hK hE (fun H h => h) (m_recv hK) rfl (Nat.le_of_ble_eq_true rfl) dX6_receipt_2 ⟨Nat.le_of_ble_eq_true rfl, Nat.le_of_ble_eq_true rfl⟩ ?_
  refine g_istore_n S dX6_receipt_5 (by decide) rfl ?_
  refine g_aload_n S dX6_receipt_6 rfl ?_
  refine g_iload_n S dX6_receipt_7 rfl ?_
  refine g_ifb_ne S (tgt := 15) dX6_receipt_8 (by decide) (fun c_8 => ?_) (fun c_8 => ?_)
  · refine g_iload_n S dX6_receipt_15 rfl ?_
    refine g_iconst S (v := 0) dX6_receipt_16 (by decide) ?_
    refine g_bipush S (v := 7) dX6_receipt_17 (by decide) ?_
    refine g_cSr S (c_in l D ty A _ _ _ _) (va_cwS 3 S.2.2.2.2 gX6_receipt_X6_in rfl rfl rfl (by decide +kernel) ⟨Nat.le_of_ble_eq_true rfl, Nat.le_of_ble_eq_true rfl⟩) hK hE (fun H h => h) rfl (Nat.le_of_ble_eq_true rfl) dX6_receipt_19 ⟨Nat.le_of_ble_eq_true rfl, Nat.le_of_ble_eq_true rfl⟩ ?_
    refine g_ifb_eq S (tgt := 29) dX6_receipt_22 (by decide) (fun c_22 => ?_) (fun c_22 => ?_)
    · refine g_iconst S (v := 2) dX6_receipt_29 (by decide) ?_
      refine g_cVr S (c_goesWell l D ty A mo ad _ _) (cwV 1 S.2.2.2.2 gX6_receipt_X6_goesWell rfl rfl rfl (by decide +kernel) ⟨Nat.le_of_ble_eq_true rfl, Nat.le_of_ble_eq_true rfl⟩) hK hE (fun H h => h) (m_recv hK) rfl (Nat.le_of_ble_eq_true rfl) dX6_receipt_30 ⟨Nat.le_of_ble_eq_true rfl, Nat.le_of_ble_eq_true rfl⟩ ?_
      refine g_if_ne S (tgt := 38) dX6_receipt_33 (by decide) (fun c_33 => ?_) (fun c_33 => ?_)
      · exact absurd c_33 (by decide)
      · refine g_iconst S (v := 0) dX6_receipt_36 (by decide) ?_
        exact g_iret S hlk hr (fun H h => (by simp (config := { decide := true }) only [gRet, mReceipt, c_8, c_22, if_true, if_false, reduceIte, Bool.false_eq_true, not_true_eq_false, not_false_eq_true, ite_not, true_and, and_true]; first | exact ⟨rfl, h⟩ | exact h)) (Nat.le_refl _) (Nat.le_refl _) dX6_receipt_37
    · refine g_iconst S (v := 0) dX6_receipt_25 (by decide) ?_
      refine g_goto S (tgt := 30) dX6_receipt_26 (by decide) ?_
      refine g_cVr S (c_goesWell l D ty A mo ad _ _) (cwV 1 S.2.2.2.2 gX6_receipt_X6_goesWell rfl rfl rfl (by decide +kernel) ⟨Nat.le_of_ble_eq_true rfl, Nat.le_of_ble_eq_true rfl⟩) hK hE (fun H h => h) (m_recv hK) rfl (Nat.le_of_ble_eq_true rfl) dX6_receipt_30 ⟨Nat.le_of_ble_eq_true rfl, Nat.le_of_ble_eq_true rfl⟩ ?_
      refine g_if_ne S (tgt := 38) dX6_receipt_33 (by decide) (fun c_33 => ?_) (fun c_33 => ?_)
      · refine g_aload_n S dX6_receipt_38 rfl ?_
        refine m_getf S hK 25 (by decide) (S.2.2.2.2 _ (List.mem_of_getElem? (i := 1) rfl)) rfl dX6_receipt_39 ?_
        refine g_iload_n S dX6_receipt_42 rfl ?_
        refine m_iald S hK (by decide) (by first | assumption | exact rin c_8 hn.2.2.1) dX6_receipt_43 ?_
        refine g_iconst S (v := (-1)) dX6_receipt_44 (by decide) ?_
        refine g_icmp_eq S (tgt := 52) dX6_receipt_45 (by decide) (fun c_45 => ?_) (fun c_45 => ?_)
        · refine g_iconst S (v := 0) dX6_receipt_52 (by decide) ?_
          refine g_istore S dX6_receipt_53 (by decide) rfl ?_
          refine g_iload_n S dX6_receipt_55 rfl ?_
          rcases what8c c_22 with w9 | w9 | w9 | w9 | w9 | w9 | w9 | w9
          · refine g_tableIn S (tgt := 100) dX6_receipt_56 (by rw [w9]; decide) (by rw [w9]; decide) (by rw [w9]; rfl) (by decide) ?_
            refine g_aload_n S dX6_receipt_100 rfl ?_
            refine m_getf S hK 21 (by decide) (S.2.2.2.2 _ (List.mem_of_getElem? (i := 2) rfl)) rfl dX6_receipt_101 ?_
            refine g_iload_n S dX6_receipt_104 rfl ?_
            refine m_iald S hK (by decide) (by first | assumption | exact rin c_8 hn.2.2.1) dX6_receipt_105 ?_
            exact g_iret S hlk hr (fun H h => (by simp (config := { decide := true }) only [gRet, mReceipt, w9, c_8, c_22, c_45, if_true, if_false, reduceIte, Bool.false_eq_true, not_true_eq_false, not_false_eq_true, ite_not, true_and, and_true]; first | exact ⟨rfl, h⟩ | exact h)) (Nat.le_refl _) (Nat.le_refl _) dX6_receipt_106
          · refine g_tableIn S (tgt := 107) dX6_receipt_56 (by rw [w9]; decide) (by rw [w9]; decide) (by rw [w9]; rfl) (by decide) ?_
            refine g_aload_n S dX6_receipt_107 rfl ?_
            refine m_getf S hK 22 (by decide) (S.2.2.2.2 _ (List.mem_of_getElem? (i := 3) rfl)) rfl dX6_receipt_108 ?_
            refine g_iload_n S dX6_receipt_111 rfl ?_
            refine m_iald S hK (by decide) (by first | assumption | exact rin c_8 hn.2.2.1) dX6_receipt_112 ?_
            exact g_iret S hlk hr (fun H h => (by simp (config := { decide := true }) only [gRet, mReceipt, w9, c_8, c_22, c_45, if_true, if_false, reduceIte, Bool.false_eq_true, not_true_eq_false, not_false_eq_true, ite_not, true_and, and_true]; first | exact ⟨rfl, h⟩ | exact h)) (Nat.le_refl _) (Nat.le_refl _) dX6_receipt_113
          · refine g_tableIn S (tgt := 114) dX6_receipt_56 (by rw [w9]; decide) (by rw [w9]; decide) (by rw [w9]; rfl) (by decide) ?_
            refine g_aload_n S dX6_receipt_114 rfl ?_
            refine m_getf S hK 23 (by decide) (S.2.2.2.2 _ (List.mem_of_getElem? (i := 4) rfl)) rfl dX6_receipt_115 ?_
            refine g_iload_n S dX6_receipt_118 rfl ?_
            refine m_iald S hK (by decide) (by first | assumption | exact rin c_8 hn.2.2.1) dX6_receipt_119 ?_
            exact g_iret S hlk hr (fun H h => (by simp (config := { decide := true }) only [gRet, mReceipt, w9, c_8, c_22, c_45, if_true, if_false, reduceIte, Bool.false_eq_true, not_true_eq_false, not_false_eq_true, ite_not, true_and, and_true]; first | exact ⟨rfl, h⟩ | exact h)) (Nat.le_refl _) (Nat.le_refl _) dX6_receipt_120
          · refine g_tableIn S (tgt := 121) dX6_receipt_56 (by rw [w9]; decide) (by rw [w9]; decide) (by rw [w9]; rfl) (by decide) ?_
            refine g_aload_n S dX6_receipt_121 rfl ?_
            refine m_getf S hK 24 (by decide) (S.2.2.2.2 _ (List.mem_of_getElem? (i := 5) rfl)) rfl dX6_receipt_122 ?_
            refine g_iload_n S dX6_receipt_125 rfl ?_
            refine m_iald S hK (by decide) (by first | assumption | exact rin c_8 hn.2.2.1) dX6_receipt_126 ?_
            exact g_iret S hlk hr (fun H h => (by simp (config := { decide := true }) only [gRet, mReceipt, w9, c_8, c_22, c_45, if_true, if_false, reduceIte, Bool.false_eq_true, not_true_eq_false, not_false_eq_true, ite_not, true_and, and_true]; first | exact ⟨rfl, h⟩ | exact h)) (Nat.le_refl _) (Nat.le_refl _) dX6_receipt_127
          · refine g_tableIn S (tgt := 128) dX6_receipt_56 (by rw [w9]; decide) (by rw [w9]; decide) (by rw [w9]; rfl) (by decide) ?_
            refine g_aload_n S dX6_receipt_128 rfl ?_
            refine m_getf S hK 25 (by decide) (S.2.2.2.2 _ (List.mem_of_getElem? (i := 1) rfl)) rfl dX6_receipt_129 ?_
            refine g_iload_n S dX6_receipt_132 rfl ?_
            refine m_iald S hK (by decide) (by first | assumption | exact rin c_8 hn.2.2.1) dX6_receipt_133 ?_
            exact g_iret S hlk hr (fun H h => (by simp (config := { decide := true }) only [gRet, mReceipt, w9, c_8, c_22, c_45, if_true, if_false, reduceIte, Bool.false_eq_true, not_true_eq_false, not_false_eq_true, ite_not, true_and, and_true]; first | exact ⟨rfl, h⟩ | exact h)) (Nat.le_refl _) (Nat.le_refl _) dX6_receipt_134
          · refine g_tableIn S (tgt := 135) dX6_receipt_56 (by rw [w9]; decide) (by rw [w9]; decide) (by rw [w9]; rfl) (by decide) ?_
            refine g_iload S dX6_receipt_135 rfl ?_
            refine g_if_eq S (tgt := 149) dX6_receipt_137 (by decide) (fun c_137 => ?_) (fun c_137 => ?_)
            · refine g_iconst S (v := (-1)) dX6_receipt_149 (by decide) ?_
              exact g_iret S hlk hr (fun H h => (by simp (config := { decide := true }) only [gRet, mReceipt, w9, c_8, c_22, c_45, if_true, if_false, reduceIte, Bool.false_eq_true, not_true_eq_false, not_false_eq_true, ite_not, true_and, and_true]; first | exact ⟨rfl, h⟩ | exact h)) (Nat.le_refl _) (Nat.le_refl _) dX6_receipt_150
            · exact absurd c_137 (by decide)
          · refine g_tableIn S (tgt := 151) dX6_receipt_56 (by rw [w9]; decide) (by rw [w9]; decide) (by rw [w9]; rfl) (by decide) ?_
            refine g_iload S dX6_receipt_151 rfl ?_
            refine g_if_eq S (tgt := 165) dX6_receipt_153 (by decide) (fun c_153 => ?_) (fun c_153 => ?_)
            · refine g_iconst S (v := (-1)) dX6_receipt_165 (by decide) ?_
              exact g_iret S hlk hr (fun H h => (by simp (config := { decide := true }) only [gRet, mReceipt, w9, c_8, c_22, c_45, if_true, if_false, reduceIte, Bool.false_eq_true, not_true_eq_false, not_false_eq_true, ite_not, true_and, and_true]; first | exact ⟨rfl, h⟩ | exact h)) (Nat.le_refl _) (Nat.le_refl _) dX6_receipt_166
            · exact absurd c_153 (by decide)
          · refine g_tableOut S (tgt := 167) dX6_receipt_56 (by rw [w9]; decide) (by decide) ?_
            refine g_aload_n S dX6_receipt_167 rfl ?_
            refine m_getf S hK 28 (by decide) (S.2.2.2.2 _ (List.mem_of_getElem? (i := 8) rfl)) rfl dX6_receipt_168 ?_
            refine g_iload_n S dX6_receipt_171 rfl ?_
            refine m_iald S hK (by decide) (by first | assumption | exact rin c_8 hn.2.2.1) dX6_receipt_172 ?_
            exact g_iret S hlk hr (fun H h => (by simp (config := { decide := true }) only [gRet, mReceipt, w9, c_8, c_22, c_45, if_true, if_false, reduceIte, Bool.false_eq_true, not_true_eq_false, not_false_eq_true, ite_not, true_and, and_true]; first | exact ⟨rfl, h⟩ | exact h)) (Nat.le_refl _) (Nat.le_refl _) dX6_receipt_173
          -- all cases
        · refine g_iconst S (v := 1) dX6_receipt_48 (by decide) ?_
          refine g_goto S (tgt := 53) dX6_receipt_49 (by decide) ?_
          refine g_istore S dX6_receipt_53 (by decide) rfl ?_
          refine g_iload_n S dX6_receipt_55 rfl ?_
          rcases what8c c_22 with w9 | w9 | w9 | w9 | w9 | w9 | w9 | w9
          · refine g_tableIn S (tgt := 100) dX6_receipt_56 (by rw [w9]; decide) (by rw [w9]; decide) (by rw [w9]; rfl) (by decide) ?_
            refine g_aload_n S dX6_receipt_100 rfl ?_
            refine m_getf S hK 21 (by decide) (S.2.2.2.2 _ (List.mem_of_getElem? (i := 2) rfl)) rfl dX6_receipt_101 ?_
            refine g_iload_n S dX6_receipt_104 rfl ?_
            refine m_iald S hK (by decide) (by first | assumption | exact rin c_8 hn.2.2.1) dX6_receipt_105 ?_
            exact g_iret S hlk hr (fun H h => (by simp (config := { decide := true }) only [gRet, mReceipt, w9, c_8, c_22, c_45, if_true, if_false, reduceIte, Bool.false_eq_true, not_true_eq_false, not_false_eq_true, ite_not, true_and, and_true]; first | exact ⟨rfl, h⟩ | exact h)) (Nat.le_refl _) (Nat.le_refl _) dX6_receipt_106
          · refine g_tableIn S (tgt := 107) dX6_receipt_56 (by rw [w9]; decide) (by rw [w9]; decide) (by rw [w9]; rfl) (by decide) ?_
            refine g_aload_n S dX6_receipt_107 rfl ?_
            refine m_getf S hK 22 (by decide) (S.2.2.2.2 _ (List.mem_of_getElem? (i := 3) rfl)) rfl dX6_receipt_108 ?_
            refine g_iload_n S dX6_receipt_111 rfl ?_
            refine m_iald S hK (by decide) (by first | assumption | exact rin c_8 hn.2.2.1) dX6_receipt_112 ?_
            exact g_iret S hlk hr (fun H h => (by simp (config := { decide := true }) only [gRet, mReceipt, w9, c_8, c_22, c_45, if_true, if_false, reduceIte, Bool.false_eq_true, not_true_eq_false, not_false_eq_true, ite_not, true_and, and_true]; first | exact ⟨rfl, h⟩ | exact h)) (Nat.le_refl _) (Nat.le_refl _) dX6_receipt_113
          · refine g_tableIn S (tgt := 114) dX6_receipt_56 (by rw [w9]; decide) (by rw [w9]; decide) (by rw [w9]; rfl) (by decide) ?_
            refine g_aload_n S dX6_receipt_114 rfl ?_
            refine m_getf S hK 23 (by decide) (S.2.2.2.2 _ (List.mem_of_getElem? (i := 4) rfl)) rfl dX6_receipt_115 ?_
            refine g_iload_n S dX6_receipt_118 rfl ?_
            refine m_iald S hK (by decide) (by first | assumption | exact rin c_8 hn.2.2.1) dX6_receipt_119 ?_
            exact g_iret S hlk hr (fun H h => (by simp (config := { decide := true }) only [gRet, mReceipt, w9, c_8, c_22, c_45, if_true, if_false, reduceIte, Bool.false_eq_true, not_true_eq_false, not_false_eq_true, ite_not, true_and, and_true]; first | exact ⟨rfl, h⟩ | exact h)) (Nat.le_refl _) (Nat.le_refl _) dX6_receipt_120
          · refine g_tableIn S (tgt := 121) dX6_receipt_56 (by rw [w9]; decide) (by rw [w9]; decide) (by rw [w9]; rfl) (by decide) ?_
            refine g_aload_n S dX6_receipt_121 rfl ?_
            refine m_getf S hK 24 (by decide) (S.2.2.2.2 _ (List.mem_of_getElem? (i := 5) rfl)) rfl dX6_receipt_122 ?_
            refine g_iload_n S dX6_receipt_125 rfl ?_
            refine m_iald S hK (by decide) (by first | assumption | exact rin c_8 hn.2.2.1) dX6_receipt_126 ?_
            exact g_iret S hlk hr (fun H h => (by simp (config := { decide := true }) only [gRet, mReceipt, w9, c_8, c_22, c_45, if_true, if_false, reduceIte, Bool.false_eq_true, not_true_eq_false, not_false_eq_true, ite_not, true_and, and_true]; first | exact ⟨rfl, h⟩ | exact h)) (Nat.le_refl _) (Nat.le_refl _) dX6_receipt_127
          · refine g_tableIn S (tgt := 128) dX6_receipt_56 (by rw [w9]; decide) (by rw [w9]; decide) (by rw [w9]; rfl) (by decide) ?_
            refine g_aload_n S dX6_receipt_128 rfl ?_
            refine m_getf S hK 25 (by decide) (S.2.2.2.2 _ (List.mem_of_getElem? (i := 1) rfl)) rfl dX6_receipt_129 ?_
            refine g_iload_n S dX6_receipt_132 rfl ?_
            refine m_iald S hK (by decide) (by first | assumption | exact rin c_8 hn.2.2.1) dX6_receipt_133 ?_
            exact g_iret S hlk hr (fun H h => (by simp (config := { decide := true }) only [gRet, mReceipt, w9, c_8, c_22, c_45, if_true, if_false, reduceIte, Bool.false_eq_true, not_true_eq_false, not_false_eq_true, ite_not, true_and, and_true]; first | exact ⟨rfl, h⟩ | exact h)) (Nat.le_refl _) (Nat.le_refl _) dX6_receipt_134
          · refine g_tableIn S (tgt := 135) dX6_receipt_56 (by rw [w9]; decide) (by rw [w9]; decide) (by rw [w9]; rfl) (by decide) ?_
            refine g_iload S dX6_receipt_135 rfl ?_
            refine g_if_eq S (tgt := 149) dX6_receipt_137 (by decide) (fun c_137 => ?_) (fun c_137 => ?_)
            · exact absurd c_137 (by decide)
            · refine g_aload_n S dX6_receipt_140 rfl ?_
              refine m_getf S hK 26 (by decide) (S.2.2.2.2 _ (List.mem_of_getElem? (i := 6) rfl)) rfl dX6_receipt_141 ?_
              refine g_iload_n S dX6_receipt_144 rfl ?_
              refine m_iald S hK (by decide) (by first | assumption | exact rin c_8 hn.2.2.1) dX6_receipt_145 ?_
              refine g_goto S (tgt := 150) dX6_receipt_146 (by decide) ?_
              exact g_iret S hlk hr (fun H h => (by simp (config := { decide := true }) only [gRet, mReceipt, w9, c_8, c_22, c_45, if_true, if_false, reduceIte, Bool.false_eq_true, not_true_eq_false, not_false_eq_true, ite_not, true_and, and_true]; first | exact ⟨rfl, h⟩ | exact h)) (Nat.le_refl _) (Nat.le_refl _) dX6_receipt_150
          · refine g_tableIn S (tgt := 151) dX6_receipt_56 (by rw [w9]; decide) (by rw [w9]; decide) (by rw [w9]; rfl) (by decide) ?_
            refine g_iload S dX6_receipt_151 rfl ?_
            refine g_if_eq S (tgt := 165) dX6_receipt_153 (by decide) (fun c_153 => ?_) (fun c_153 => ?_)
            · exact absurd c_153 (by decide)
            · refine g_aload_n S dX6_receipt_156 rfl ?_
              refine m_getf S hK 27 (by decide) (S.2.2.2.2 _ (List.mem_of_getElem? (i := 7) rfl)) rfl dX6_receipt_157 ?_
              refine g_iload_n S dX6_receipt_160 rfl ?_
              refine m_iald S hK (by decide) (by first | assumption | exact rin c_8 hn.2.2.1) dX6_receipt_161 ?_
              refine g_goto S (tgt := 166) dX6_receipt_162 (by decide) ?_
              exact g_iret S hlk hr (fun H h => (by simp (config := { decide := true }) only [gRet, mReceipt, w9, c_8, c_22, c_45, if_true, if_false, reduceIte, Bool.false_eq_true, not_true_eq_false, not_false_eq_true, ite_not, true_and, and_true]; first | exact ⟨rfl, h⟩ | exact h)) (Nat.le_refl _) (Nat.le_refl _) dX6_receipt_166
          · refine g_tableOut S (tgt := 167) dX6_receipt_56 (by rw [w9]; decide) (by decide) ?_
            refine g_aload_n S dX6_receipt_167 rfl ?_
            refine m_getf S hK 28 (by decide) (S.2.2.2.2 _ (List.mem_of_getElem? (i := 8) rfl)) rfl dX6_receipt_168 ?_
            refine g_iload_n S dX6_receipt_171 rfl ?_
            refine m_iald S hK (by decide) (by first | assumption | exact rin c_8 hn.2.2.1) dX6_receipt_172 ?_
            exact g_iret S hlk hr (fun H h => (by simp (config := { decide := true }) only [gRet, mReceipt, w9, c_8, c_22, c_45, if_true, if_false, reduceIte, Bool.false_eq_true, not_true_eq_false, not_false_eq_true, ite_not, true_and, and_true]; first | exact ⟨rfl, h⟩ | exact h)) (Nat.le_refl _) (Nat.le_refl _) dX6_receipt_173
          -- all cases
      · exact absurd c_33 (by decide)
  · refine g_iconst S (v := 1) dX6_receipt_11 (by decide) ?_
    refine g_goto S (tgt := 30) dX6_receipt_12 (by decide) ?_
    refine g_cVr S (c_goesWell l D ty A mo ad _ _) (cwV 1 S.2.2.2.2 gX6_receipt_X6_goesWell rfl rfl rfl (by decide +kernel) ⟨Nat.le_of_ble_eq_true rfl, Nat.le_of_ble_eq_true rfl⟩) hK hE (fun H h => h) (m_recv hK) rfl (Nat.le_of_ble_eq_true rfl) dX6_receipt_30 ⟨Nat.le_of_ble_eq_true rfl, Nat.le_of_ble_eq_true rfl⟩ ?_
    refine g_if_ne S (tgt := 38) dX6_receipt_33 (by decide) (fun c_33 => ?_) (fun c_33 => ?_)
    · exact absurd c_33 (by decide)
    · refine g_iconst S (v := 0) dX6_receipt_36 (by decide) ?_
      exact g_iret S hlk hr (fun H h => (by simp (config := { decide := true }) only [gRet, mReceipt, c_8, if_true, if_false, reduceIte, Bool.false_eq_true, not_true_eq_false, not_false_eq_true, ite_not, true_and, and_true]; first | exact ⟨rfl, h⟩ | exact h)) (Nat.le_refl _) (Nat.le_refl _) dX6_receipt_37

abbrev rmX6_siloFor : Room := { frames := 1, cells := 0, slots := 0, locals := 23 }
set_option maxHeartbeats 4000000 in
set_option maxRecDepth 100000 in
theorem c_siloFor (l : Launch) (D : va_G) (ty : Nat → ClassId) (A : Nat → Prop) (mo : Nat) (ad : Nat → Nat) (a : MS) (g r x : Int32) (hn1 : vp_in (gS a 7) 7) : Met l yX6_siloFor wsX6_siloFor rmX6_siloFor (gPc D ty false [] 0 A [.ref mo, .int g, .int r, .int x] (hM D ty A mo ad a)) (gQ A (gRet (some (.int (mSiloFor a g r x))) (hM D ty A mo ad a))) 0 0 A := by
  refine g_Met (cc := cX6_siloFor) (maxL := 5) (ret := (some .int)) [some (.ref mo), some (.int g), some (.int r), some (.int x), none] (by decide) rfl (Nat.le_of_ble_eq_true rfl) rfl ?_
  intro p e s m args below meth c S hlk hr hnm hK hE hP0
  have S : CallFix p m c cX6_siloFor 5 s args wsX6_siloFor RX6 := S
  obtain ⟨nr, h80, enr⟩ := vp_in_of hn1 (by decide)
  have ecl : (gS a 7).toNatClampNeg = nr := by rw [enr]; exact nI_clamp (by omega)
  have L2 : ∀ (kk i : Nat) , i + kk = nr → mFst (fun s => mIsOf a (nI s) g r && decide (gA a 9 (nI s) + x ≤ gA a 8 (nI s))) 0 nr = none → mFst (fun s => decide (gA a 9 (nI s) = 0) && decide (x ≤ gA a 8 (nI s))) i kk = mFst (fun s => decide (gA a 9 (nI s) = 0) && decide (x ≤ gA a 8 (nI s))) 0 nr → gW p l e (headSpec wsX6_siloFor rmX6_siloFor).room s m args below meth c A (gR below A args s 0 0 (gRet (some (.int (mSiloFor a g r x))) (hM D ty A mo ad a))) 5 (hM D ty A mo ad a) 0 0 54 [some (.ref mo), some (.int g), some (.int r), some (.int x), some (.int (nI i))] [] := by
    intro kk
    induction kk with
    | zero =>
      intro i  ei e0 e1
      refine g_iload S dX6_siloFor_54 rfl ?_
      refine g_aload_n S dX6_siloFor_56 rfl ?_
      refine m_getf S hK 7 (by decide) (S.2.2.2.2 _ (List.mem_of_getElem? (i := 1) rfl)) rfl dX6_siloFor_57 ?_
      refine g_icmp_ge S (tgt := 93) dX6_siloFor_60 (by decide) (fun c_60 => ?_) (fun c_60 => ?_)
      · refine g_iconst S (v := (-1)) dX6_siloFor_93 (by decide) ?_
        exact g_iret S hlk hr (fun H h => (by simp only [gRet, mSiloFor, ecl, e0]; rw [← e1]; simp only [mFst]; first | exact ⟨rfl, h⟩ | exact h | exact ⟨trivial, h⟩)) (Nat.le_refl _) (Nat.le_refl _) dX6_siloFor_94
      · exact absurd (lp_exit enr (by omega) (by omega)) c_60
    | succ kk ih =>
      intro i  ei e0 e1
      refine g_iload S dX6_siloFor_54 rfl ?_
      refine g_aload_n S dX6_siloFor_56 rfl ?_
      refine m_getf S hK 7 (by decide) (S.2.2.2.2 _ (List.mem_of_getElem? (i := 1) rfl)) rfl dX6_siloFor_57 ?_
      refine g_icmp_ge S (tgt := 93) dX6_siloFor_60 (by decide) (fun c_60 => ?_) (fun c_60 => ?_)
      · exact absurd c_60 (lp_stay enr (by omega) (by omega))
      · refine g_aload_n S dX6_siloFor_63 rfl ?_
        refine m_getf S hK 9 (by decide) (S.2.2.2.2 _ (List.mem_of_getElem? (i := 2) rfl)) rfl dX6_siloFor_64 ?_
        refine g_iload S dX6_siloFor_67 rfl ?_
        refine m_iald S hK (by decide) (vin_nI (N := 6) (by omega) (by decide)) dX6_siloFor_69 ?_
        refine g_if_ne S (tgt := 87) dX6_siloFor_70 (by decide) (fun c_70 => ?_) (fun c_70 => ?_)
        · refine g_iinc S (v := nI (i + 1)) dX6_siloFor_87 rfl (nI_inc i) (by decide) rfl ?_
          refine g_goto S (tgt := 54) dX6_siloFor_90 (by decide) ?_
          exact ih (i + 1) (by omega) e0 (by rw [← e1]; simp only [mFst, c_70, Bool.and_self, Bool.and_true, Bool.true_and, Bool.and_false, Bool.false_and, decide_true, decide_false, eq_self_iff_true, if_true, if_false, reduceIte, Bool.false_eq_true, not_true_eq_false, not_false_eq_true, ite_not, true_and, and_true])
        · refine g_iload_n S dX6_siloFor_73 rfl ?_
          refine g_aload_n S dX6_siloFor_74 rfl ?_
          refine m_getf S hK 8 (by decide) (S.2.2.2.2 _ (List.mem_of_getElem? (i := 3) rfl)) rfl dX6_siloFor_75 ?_
          refine g_iload S dX6_siloFor_78 rfl ?_
          refine m_iald S hK (by decide) (vin_nI (N := 6) (by omega) (by decide)) dX6_siloFor_80 ?_
          refine g_icmp_gt S (tgt := 87) dX6_siloFor_81 (by decide) (fun c_81 => ?_) (fun c_81 => ?_)
          · refine g_iinc S (v := nI (i + 1)) dX6_siloFor_87 rfl (nI_inc i) (by decide) rfl ?_
            refine g_goto S (tgt := 54) dX6_siloFor_90 (by decide) ?_
            exact ih (i + 1) (by omega) e0 (by rw [← e1]; simp only [mFst, c_70, Int32.not_le.mpr c_81, Bool.and_self, Bool.and_true, Bool.true_and, Bool.and_false, Bool.false_and, decide_true, decide_false, eq_self_iff_true, if_true, if_false, reduceIte, Bool.false_eq_true, not_true_eq_false, not_false_eq_true, ite_not, true_and, and_true])
          · refine g_iload S dX6_siloFor_84 rfl ?_
            exact g_iret S hlk hr (fun H h => (by simp only [gRet, mSiloFor, ecl, e0]; rw [← e1]; simp only [mFst, c_70, Int32.not_lt.mp c_81, Bool.and_self, Bool.and_true, Bool.true_and, Bool.and_false, Bool.false_and, decide_true, decide_false, eq_self_iff_true, if_true, if_false, reduceIte, Bool.false_eq_true, not_true_eq_false, not_false_eq_true, ite_not, true_and, and_true]; first | exact ⟨rfl, h⟩ | exact h)) (Nat.le_refl _) (Nat.le_refl _) dX6_siloFor_86
  have L1 : ∀ (kk i : Nat) , i + kk = nr → mFst (fun s => mIsOf a (nI s) g r && decide (gA a 9 (nI s) + x ≤ gA a 8 (nI s))) i kk = mFst (fun s => mIsOf a (nI s) g r && decide (gA a 9 (nI s) + x ≤ gA a 8 (nI s))) 0 nr → gW p l e (headSpec wsX6_siloFor rmX6_siloFor).room s m args below meth c A (gR below A args s 0 0 (gRet (some (.int (mSiloFor a g r x))) (hM D ty A mo ad a))) 5 (hM D ty A mo ad a) 0 0 3 [some (.ref mo), some (.int g), some (.int r), some (.int x), some (.int (nI i))] [] := by
    intro kk
    induction kk with
    | zero =>
      intro i  ei e1
      refine g_iload S dX6_siloFor_3 rfl ?_
      refine g_aload_n S dX6_siloFor_5 rfl ?_
      refine m_getf S hK 7 (by decide) (S.2.2.2.2 _ (List.mem_of_getElem? (i := 1) rfl)) rfl dX6_siloFor_6 ?_
      refine g_icmp_ge S (tgt := 51) dX6_siloFor_9 (by decide) (fun c_9 => ?_) (fun c_9 => ?_)
      · refine g_iconst S (v := 0) dX6_siloFor_51 (by decide) ?_
        refine g_istore S dX6_siloFor_52 (by decide) rfl ?_
        exact L2 nr 0 (Nat.zero_add _) (by rw [← e1]; rfl) rfl
      · exact absurd (lp_exit enr (by omega) (by omega)) c_9
    | succ kk ih =>
      intro i  ei e1
      refine g_iload S dX6_siloFor_3 rfl ?_
      refine g_aload_n S dX6_siloFor_5 rfl ?_
      refine m_getf S hK 7 (by decide) (S.2.2.2.2 _ (List.mem_of_getElem? (i := 1) rfl)) rfl dX6_siloFor_6 ?_
      refine g_icmp_ge S (tgt := 51) dX6_siloFor_9 (by decide) (fun c_9 => ?_) (fun c_9 => ?_)
      · exact absurd c_9 (lp_stay enr (by omega) (by omega))
      · refine g_aload_n S dX6_siloFor_12 rfl ?_
        refine g_iload S dX6_siloFor_13 rfl ?_
        refine g_iload_n S dX6_siloFor_15 rfl ?_
        refine g_iload_n S dX6_siloFor_16 rfl ?_
        refine g_cVr S (c_isOf l D ty A mo ad _ _ _ _ (by exact vin_nI (N := 6) (by omega) (by decide))) (cwV 3 S.2.2.2.2 gX6_siloFor_X6_isOf rfl rfl rfl (by decide +kernel) ⟨Nat.le_of_ble_eq_true rfl, Nat.le_of_ble_eq_true rfl⟩) hK hE (fun H h => h) (m_recv hK) rfl (Nat.le_of_ble_eq_true rfl) dX6_siloFor_17 ⟨Nat.le_of_ble_eq_true rfl, Nat.le_of_ble_eq_true rfl⟩ ?_
        refine g_ifb_eq S (tgt := 45) dX6_siloFor_20 (by decide) (fun c_20 => ?_) (fun c_20 => ?_)
        · refine g_iinc S (v := nI (i + 1)) dX6_siloFor_45 rfl (nI_inc i) (by decide) rfl ?_
          refine g_goto S (tgt := 3) dX6_siloFor_48 (by decide) ?_
          exact ih (i + 1) (by omega) (by rw [← e1]; simp only [mFst, c_20, Bool.and_self, Bool.and_true, Bool.true_and, Bool.and_false, Bool.false_and, decide_true, decide_false, eq_self_iff_true, if_true, if_false, reduceIte, Bool.false_eq_true, not_true_eq_false, not_false_eq_true, ite_not, true_and, and_true])
        · refine g_aload_n S dX6_siloFor_23 rfl ?_
          refine m_getf S hK 9 (by decide) (S.2.2.2.2 _ (List.mem_of_getElem? (i := 2) rfl)) rfl dX6_siloFor_24 ?_
          refine g_iload S dX6_siloFor_27 rfl ?_
          refine m_iald S hK (by decide) (vin_nI (N := 6) (by omega) (by decide)) dX6_siloFor_29 ?_
          refine g_iload_n S dX6_siloFor_30 rfl ?_
          refine g_iadd S dX6_siloFor_31 ?_
          refine g_aload_n S dX6_siloFor_32 rfl ?_
          refine m_getf S hK 8 (by decide) (S.2.2.2.2 _ (List.mem_of_getElem? (i := 3) rfl)) rfl dX6_siloFor_33 ?_
          refine g_iload S dX6_siloFor_36 rfl ?_
          refine m_iald S hK (by decide) (vin_nI (N := 6) (by omega) (by decide)) dX6_siloFor_38 ?_
          refine g_icmp_gt S (tgt := 45) dX6_siloFor_39 (by decide) (fun c_39 => ?_) (fun c_39 => ?_)
          · refine g_iinc S (v := nI (i + 1)) dX6_siloFor_45 rfl (nI_inc i) (by decide) rfl ?_
            refine g_goto S (tgt := 3) dX6_siloFor_48 (by decide) ?_
            exact ih (i + 1) (by omega) (by rw [← e1]; simp only [mFst, c_20, Int32.not_le.mpr c_39, Bool.and_self, Bool.and_true, Bool.true_and, Bool.and_false, Bool.false_and, decide_true, decide_false, eq_self_iff_true, if_true, if_false, reduceIte, Bool.false_eq_true, not_true_eq_false, not_false_eq_true, ite_not, true_and, and_true])
          · refine g_iload S dX6_siloFor_42 rfl ?_
            exact g_iret S hlk hr (fun H h => (by simp only [gRet, mSiloFor, ecl]; rw [← e1]; simp only [mFst, c_20, Int32.not_lt.mp c_39, Bool.and_self, Bool.and_true, Bool.true_and, Bool.and_false, Bool.false_and, decide_true, decide_false, eq_self_iff_true, if_true, if_false, reduceIte, Bool.false_eq_true, not_true_eq_false, not_false_eq_true, ite_not, true_and, and_true]; first | exact ⟨rfl, h⟩ | exact h)) (Nat.le_refl _) (Nat.le_refl _) dX6_siloFor_44
  refine g_iconst S (v := 0) dX6_siloFor_0 (by decide) ?_
  refine g_istore S dX6_siloFor_1 (by decide) rfl ?_
  exact L1 nr 0 (Nat.zero_add _) rfl

theorem mSiloFor_in {a : MS} {g r x : Int32} (hn : vp_in (gS a 7) 7) (h : ¬ mSiloFor a g r x = -1) : vp_in (mSiloFor a g r x) 6 := by
  obtain ⟨nr, h80, enr⟩ := vp_in_of hn (by decide)
  have ecl : (gS a 7).toNatClampNeg = nr := by rw [enr]; exact nI_clamp (by omega)
  unfold mSiloFor at h ⊢
  rw [ecl] at h ⊢
  split
  · rename_i q hq
    have := mFst_lt _ _ _ hq
    exact vin_nI (N := 6) (by omega) (by decide)
  · rename_i hq
    rw [hq] at h
    split
    · rename_i q2 hq2
      have := mFst_lt _ _ _ hq2
      exact vin_nI (N := 6) (by omega) (by decide)
    · rename_i hq2
      rw [hq2] at h
      exact absurd rfl h
def mGrade (mo : Int32) : Int32 := if 140 < mo then (if 180 < mo then 2 else 1) else 0
def mDeliverS (b : MS) (who g kg gr much s : Int32) : MS :=
  let b := mX b 14 (gS b 13) who
  let b := mX b 15 (gS b 13) kg
  let b := mX b 16 (gS b 13) much
  let b := mX b 17 (gS b 13) g
  let b := mX b 18 (gS b 13) gr
  let b := mX b 19 (gS b 13) s
  let b := mS b 13 (gS b 13 + 1)
  let b := mX b 9 s (gA b 9 s + much)
  let b := mX b 10 s g
  let b := mX b 11 s gr
  mMake b much who s (gS b 13 - 1)
def mDeliver (a : MS) (who g kg mo : Int32) : Int32 × MS :=
  if (mIn who 0 5 && (mIn g 0 2 && (mIn kg 100 40000 && mIn mo 50 300))) = true then
    if 40 ≤ gS a 13 then (0, mS a 0 2)
    else if 80 ≤ gS a 20 then (0, mS a 0 2)
    else if mSiloFor a g (mGrade mo) (mDry kg mo) = -1 then (0, mS a 0 2)
    else (gS a 20, mDeliverS (mS a 0 0) who g kg (mGrade mo) (mDry kg mo) (mSiloFor a g (mGrade mo) (mDry kg mo)))
  else (0, mS a 0 1)
theorem mGrade_2 {mo : Int32} (h : 140 < mo) (h2 : 180 < mo) : 2 = mGrade mo := by rw [mGrade, if_pos h, if_pos h2]
theorem mGrade_1 {mo : Int32} (h : 140 < mo) (h2 : ¬ 180 < mo) : 1 = mGrade mo := by rw [mGrade, if_pos h, if_neg h2]
theorem mGrade_0 {mo : Int32} (h : ¬ 140 < mo) : 0 = mGrade mo := by rw [mGrade, if_neg h]
abbrev rmX6_deliver : Room := { frames := 2, cells := 0, slots := 0, locals := 47 }
set_option maxHeartbeats 4000000 in
set_option maxRecDepth 100000 in
theorem c_mdeliver (l : Launch) (D : va_G) (ty : Nat → ClassId) (A : Nat → Prop) (mo : Nat) (ad : Nat → Nat) (a : MS) (who g kg mo9 : Int32) (hw : mWf a) (hn : mCnt a) (hc : vp_in (gS a 29) 5900) : Met l yX6_deliver wsX6_deliver rmX6_deliver (gPc D ty false [] 0 A [.ref mo, .int who, .int g, .int kg, .int mo9] (hM D ty A mo ad a)) (gQ A (gRet (some (.int (mDeliver a who g kg mo9).1)) (hM D ty A mo ad (mDeliver a who g kg mo9).2))) 0 0 A := by
  refine g_Met (cc := cX6_deliver) (maxL := 10) (ret := (some .int)) [some (.ref mo), some (.int who), some (.int g), some (.int kg), some (.int mo9), none, none, none, none, none] (by decide) rfl (Nat.le_of_ble_eq_true rfl) rfl ?_
  intro p e s m args below meth c S hlk hr hnm hK hE hP0
  have S : CallFix p m c cX6_deliver 10 s args wsX6_deliver RX6 := S
  refine g_iload_n S dX6_deliver_0 rfl ?_
  refine g_cSr S (c_isHolder l D ty A _ _) (va_cwS 1 S.2.2.2.2 gX6_deliver_X6_isHolder rfl rfl rfl (by decide +kernel) ⟨Nat.le_of_ble_eq_true rfl, Nat.le_of_ble_eq_true rfl⟩) hK hE (fun H h => h) rfl (Nat.le_of_ble_eq_true rfl) dX6_deliver_1 ⟨Nat.le_of_ble_eq_true rfl, Nat.le_of_ble_eq_true rfl⟩ ?_
  refine g_ifb_eq S (tgt := 42) dX6_deliver_4 (by decide) (fun c_4 => ?_) (fun c_4 => ?_)
  · refine g_iconst S (v := 0) dX6_deliver_42 (by decide) ?_
    refine g_istore S dX6_deliver_43 (by decide) rfl ?_
    refine g_iload S dX6_deliver_45 rfl ?_
    refine g_if_eq S (tgt := 59) dX6_deliver_47 (by decide) (fun c_47 => ?_) (fun c_47 => ?_)
    · refine g_iconst S (v := 0) dX6_deliver_59 (by decide) ?_
      refine g_istore S dX6_deliver_60 (by decide) rfl ?_
      refine g_iload S dX6_deliver_62 rfl ?_
      refine g_sipush S (v := 140) dX6_deliver_64 (by decide) ?_
      refine g_icmp_gt S (tgt := 74) dX6_deliver_67 (by decide) (fun c_67 => ?_) (fun c_67 => ?_)
      · refine g_iload S dX6_deliver_74 rfl ?_
        refine g_sipush S (v := 180) dX6_deliver_76 (by decide) ?_
        refine g_icmp_gt S (tgt := 86) dX6_deliver_79 (by decide) (fun c_79 => ?_) (fun c_79 => ?_)
        · refine g_iconst S (v := 2) dX6_deliver_86 (by decide) ?_
          refine g_st (congrArg (fun z : Int32 => [Value.int z]) (mGrade_2 c_67 c_79)) ?_
          refine g_istore S dX6_deliver_87 (by decide) rfl ?_
          refine g_iload S dX6_deliver_89 rfl ?_
          refine g_if_eq S (tgt := 106) dX6_deliver_91 (by decide) (fun c_91 => ?_) (fun c_91 => ?_)
          · refine g_iconst S (v := (-1)) dX6_deliver_106 (by decide) ?_
            refine g_istore S dX6_deliver_107 (by decide) rfl ?_
            refine g_iload S dX6_deliver_109 rfl ?_
            refine g_if_eq S (tgt := 142) dX6_deliver_111 (by decide) (fun c_111 => ?_) (fun c_111 => ?_)
            · refine g_iconst S (v := 0) dX6_deliver_142 (by decide) ?_
              refine g_istore S dX6_deliver_143 (by decide) rfl ?_
              refine g_aload_n S dX6_deliver_145 rfl ?_
              refine g_iload S dX6_deliver_146 rfl ?_
              refine g_if_ne S (tgt := 155) dX6_deliver_148 (by decide) (fun c_148 => ?_) (fun c_148 => ?_)
              · exact absurd c_148 (by decide)
              · refine g_iconst S (v := 1) dX6_deliver_151 (by decide) ?_
                refine g_goto S (tgt := 165) dX6_deliver_152 (by decide) ?_
                refine g_cVr S (c_goesWell l D ty A mo ad _ _) (cwV 1 S.2.2.2.2 gX6_deliver_X6_goesWell rfl rfl rfl (by decide +kernel) ⟨Nat.le_of_ble_eq_true rfl, Nat.le_of_ble_eq_true rfl⟩) hK hE (fun H h => h) (m_recv hK) rfl (Nat.le_of_ble_eq_true rfl) dX6_deliver_165 ⟨Nat.le_of_ble_eq_true rfl, Nat.le_of_ble_eq_true rfl⟩ ?_
                refine g_if_ne S (tgt := 173) dX6_deliver_168 (by decide) (fun c_168 => ?_) (fun c_168 => ?_)
                · exact absurd c_168 (by decide)
                · refine g_iconst S (v := 0) dX6_deliver_171 (by decide) ?_
                  exact g_iret S hlk hr (fun H h => (by simp (config := { decide := true }) only [gRet, mDeliver, c_4, c_67, c_79, if_true, if_false, reduceIte, Bool.false_eq_true, not_true_eq_false, not_false_eq_true, ite_not, true_and, and_true, Bool.and_self, Bool.and_true, Bool.true_and, Bool.and_false, Bool.false_and]; first | exact ⟨rfl, h⟩ | exact h)) (Nat.le_refl _) (Nat.le_refl _) dX6_deliver_172
            · exact absurd c_111 (by decide)
          · exact absurd c_91 (by decide)
        · refine g_iconst S (v := 1) dX6_deliver_82 (by decide) ?_
          refine g_goto S (tgt := 87) dX6_deliver_83 (by decide) ?_
          refine g_st (congrArg (fun z : Int32 => [Value.int z]) (mGrade_1 c_67 c_79)) ?_
          refine g_istore S dX6_deliver_87 (by decide) rfl ?_
          refine g_iload S dX6_deliver_89 rfl ?_
          refine g_if_eq S (tgt := 106) dX6_deliver_91 (by decide) (fun c_91 => ?_) (fun c_91 => ?_)
          · refine g_iconst S (v := (-1)) dX6_deliver_106 (by decide) ?_
            refine g_istore S dX6_deliver_107 (by decide) rfl ?_
            refine g_iload S dX6_deliver_109 rfl ?_
            refine g_if_eq S (tgt := 142) dX6_deliver_111 (by decide) (fun c_111 => ?_) (fun c_111 => ?_)
            · refine g_iconst S (v := 0) dX6_deliver_142 (by decide) ?_
              refine g_istore S dX6_deliver_143 (by decide) rfl ?_
              refine g_aload_n S dX6_deliver_145 rfl ?_
              refine g_iload S dX6_deliver_146 rfl ?_
              refine g_if_ne S (tgt := 155) dX6_deliver_148 (by decide) (fun c_148 => ?_) (fun c_148 => ?_)
              · exact absurd c_148 (by decide)
              · refine g_iconst S (v := 1) dX6_deliver_151 (by decide) ?_
                refine g_goto S (tgt := 165) dX6_deliver_152 (by decide) ?_
                refine g_cVr S (c_goesWell l D ty A mo ad _ _) (cwV 1 S.2.2.2.2 gX6_deliver_X6_goesWell rfl rfl rfl (by decide +kernel) ⟨Nat.le_of_ble_eq_true rfl, Nat.le_of_ble_eq_true rfl⟩) hK hE (fun H h => h) (m_recv hK) rfl (Nat.le_of_ble_eq_true rfl) dX6_deliver_165 ⟨Nat.le_of_ble_eq_true rfl, Nat.le_of_ble_eq_true rfl⟩ ?_
                refine g_if_ne S (tgt := 173) dX6_deliver_168 (by decide) (fun c_168 => ?_) (fun c_168 => ?_)
                · exact absurd c_168 (by decide)
                · refine g_iconst S (v := 0) dX6_deliver_171 (by decide) ?_
                  exact g_iret S hlk hr (fun H h => (by simp (config := { decide := true }) only [gRet, mDeliver, c_4, c_67, c_79, if_true, if_false, reduceIte, Bool.false_eq_true, not_true_eq_false, not_false_eq_true, ite_not, true_and, and_true, Bool.and_self, Bool.and_true, Bool.true_and, Bool.and_false, Bool.false_and]; first | exact ⟨rfl, h⟩ | exact h)) (Nat.le_refl _) (Nat.le_refl _) dX6_deliver_172
            · exact absurd c_111 (by decide)
          · exact absurd c_91 (by decide)
      · refine g_iconst S (v := 0) dX6_deliver_70 (by decide) ?_
        refine g_goto S (tgt := 87) dX6_deliver_71 (by decide) ?_
        refine g_st (congrArg (fun z : Int32 => [Value.int z]) (mGrade_0 c_67)) ?_
        refine g_istore S dX6_deliver_87 (by decide) rfl ?_
        refine g_iload S dX6_deliver_89 rfl ?_
        refine g_if_eq S (tgt := 106) dX6_deliver_91 (by decide) (fun c_91 => ?_) (fun c_91 => ?_)
        · refine g_iconst S (v := (-1)) dX6_deliver_106 (by decide) ?_
          refine g_istore S dX6_deliver_107 (by decide) rfl ?_
          refine g_iload S dX6_deliver_109 rfl ?_
          refine g_if_eq S (tgt := 142) dX6_deliver_111 (by decide) (fun c_111 => ?_) (fun c_111 => ?_)
          · refine g_iconst S (v := 0) dX6_deliver_142 (by decide) ?_
            refine g_istore S dX6_deliver_143 (by decide) rfl ?_
            refine g_aload_n S dX6_deliver_145 rfl ?_
            refine g_iload S dX6_deliver_146 rfl ?_
            refine g_if_ne S (tgt := 155) dX6_deliver_148 (by decide) (fun c_148 => ?_) (fun c_148 => ?_)
            · exact absurd c_148 (by decide)
            · refine g_iconst S (v := 1) dX6_deliver_151 (by decide) ?_
              refine g_goto S (tgt := 165) dX6_deliver_152 (by decide) ?_
              refine g_cVr S (c_goesWell l D ty A mo ad _ _) (cwV 1 S.2.2.2.2 gX6_deliver_X6_goesWell rfl rfl rfl (by decide +kernel) ⟨Nat.le_of_ble_eq_true rfl, Nat.le_of_ble_eq_true rfl⟩) hK hE (fun H h => h) (m_recv hK) rfl (Nat.le_of_ble_eq_true rfl) dX6_deliver_165 ⟨Nat.le_of_ble_eq_true rfl, Nat.le_of_ble_eq_true rfl⟩ ?_
              refine g_if_ne S (tgt := 173) dX6_deliver_168 (by decide) (fun c_168 => ?_) (fun c_168 => ?_)
              · exact absurd c_168 (by decide)
              · refine g_iconst S (v := 0) dX6_deliver_171 (by decide) ?_
                exact g_iret S hlk hr (fun H h => (by simp (config := { decide := true }) only [gRet, mDeliver, c_4, c_67, if_true, if_false, reduceIte, Bool.false_eq_true, not_true_eq_false, not_false_eq_true, ite_not, true_and, and_true, Bool.and_self, Bool.and_true, Bool.true_and, Bool.and_false, Bool.false_and]; first | exact ⟨rfl, h⟩ | exact h)) (Nat.le_refl _) (Nat.le_refl _) dX6_deliver_172
          · exact absurd c_111 (by decide)
        · exact absurd c_91 (by decide)
    · exact absurd c_47 (by decide)
  · refine g_iload_n S dX6_deliver_7 rfl ?_
    refine g_cSr S (c_isKind l D ty A _ _) (va_cwS 1 S.2.2.2.2 gX6_deliver_X6_isKind rfl rfl rfl (by decide +kernel) ⟨Nat.le_of_ble_eq_true rfl, Nat.le_of_ble_eq_true rfl⟩) hK hE (fun H h => h) rfl (Nat.le_of_ble_eq_true rfl) dX6_deliver_8 ⟨Nat.le_of_ble_eq_true rfl, Nat.le_of_ble_eq_true rfl⟩ ?_
    refine g_ifb_eq S (tgt := 42) dX6_deliver_11 (by decide) (fun c_11 => ?_) (fun c_11 => ?_)
    · refine g_iconst S (v := 0) dX6_deliver_42 (by decide) ?_
      refine g_istore S dX6_deliver_43 (by decide) rfl ?_
      refine g_iload S dX6_deliver_45 rfl ?_
      refine g_if_eq S (tgt := 59) dX6_deliver_47 (by decide) (fun c_47 => ?_) (fun c_47 => ?_)
      · refine g_iconst S (v := 0) dX6_deliver_59 (by decide) ?_
        refine g_istore S dX6_deliver_60 (by decide) rfl ?_
        refine g_iload S dX6_deliver_62 rfl ?_
        refine g_sipush S (v := 140) dX6_deliver_64 (by decide) ?_
        refine g_icmp_gt S (tgt := 74) dX6_deliver_67 (by decide) (fun c_67 => ?_) (fun c_67 => ?_)
        · refine g_iload S dX6_deliver_74 rfl ?_
          refine g_sipush S (v := 180) dX6_deliver_76 (by decide) ?_
          refine g_icmp_gt S (tgt := 86) dX6_deliver_79 (by decide) (fun c_79 => ?_) (fun c_79 => ?_)
          · refine g_iconst S (v := 2) dX6_deliver_86 (by decide) ?_
            refine g_st (congrArg (fun z : Int32 => [Value.int z]) (mGrade_2 c_67 c_79)) ?_
            refine g_istore S dX6_deliver_87 (by decide) rfl ?_
            refine g_iload S dX6_deliver_89 rfl ?_
            refine g_if_eq S (tgt := 106) dX6_deliver_91 (by decide) (fun c_91 => ?_) (fun c_91 => ?_)
            · refine g_iconst S (v := (-1)) dX6_deliver_106 (by decide) ?_
              refine g_istore S dX6_deliver_107 (by decide) rfl ?_
              refine g_iload S dX6_deliver_109 rfl ?_
              refine g_if_eq S (tgt := 142) dX6_deliver_111 (by decide) (fun c_111 => ?_) (fun c_111 => ?_)
              · refine g_iconst S (v := 0) dX6_deliver_142 (by decide) ?_
                refine g_istore S dX6_deliver_143 (by decide) rfl ?_
                refine g_aload_n S dX6_deliver_145 rfl ?_
                refine g_iload S dX6_deliver_146 rfl ?_
                refine g_if_ne S (tgt := 155) dX6_deliver_148 (by decide) (fun c_148 => ?_) (fun c_148 => ?_)
                · exact absurd c_148 (by decide)
                · refine g_iconst S (v := 1) dX6_deliver_151 (by decide) ?_
                  refine g_goto S (tgt := 165) dX6_deliver_152 (by decide) ?_
                  refine g_cVr S (c_goesWell l D ty A mo ad _ _) (cwV 1 S.2.2.2.2 gX6_deliver_X6_goesWell rfl rfl rfl (by decide +kernel) ⟨Nat.le_of_ble_eq_true rfl, Nat.le_of_ble_eq_true rfl⟩) hK hE (fun H h => h) (m_recv hK) rfl (Nat.le_of_ble_eq_true rfl) dX6_deliver_165 ⟨Nat.le_of_ble_eq_true rfl, Nat.le_of_ble_eq_true rfl⟩ ?_
                  refine g_if_ne S (tgt := 173) dX6_deliver_168 (by decide) (fun c_168 => ?_) (fun c_168 => ?_)
                  · exact absurd c_168 (by decide)
                  · refine g_iconst S (v := 0) dX6_deliver_171 (by decide) ?_
                    exact g_iret S hlk hr (fun H h => (by simp (config := { decide := true }) only [gRet, mDeliver, c_4, c_11, c_67, c_79, if_true, if_false, reduceIte, Bool.false_eq_true, not_true_eq_false, not_false_eq_true, ite_not, true_and, and_true, Bool.and_self, Bool.and_true, Bool.true_and, Bool.and_false, Bool.false_and]; first | exact ⟨rfl, h⟩ | exact h)) (Nat.le_refl _) (Nat.le_refl _) dX6_deliver_172
              · exact absurd c_111 (by decide)
            · exact absurd c_91 (by decide)
          · refine g_iconst S (v := 1) dX6_deliver_82 (by decide) ?_
            refine g_goto S (tgt := 87) dX6_deliver_83 (by decide) ?_
            refine g_st (congrArg (fun z : Int32 => [Value.int z]) (mGrade_1 c_67 c_79)) ?_
            refine g_istore S dX6_deliver_87 (by decide) rfl ?_
            refine g_iload S dX6_deliver_89 rfl ?_
            refine g_if_eq S (tgt := 106) dX6_deliver_91 (by decide) (fun c_91 => ?_) (fun c_91 => ?_)
            · refine g_iconst S (v := (-1)) dX6_deliver_106 (by decide) ?_
              refine g_istore S dX6_deliver_107 (by decide) rfl ?_
              refine g_iload S dX6_deliver_109 rfl ?_
              refine g_if_eq S (tgt := 142) dX6_deliver_111 (by decide) (fun c_111 => ?_) (fun c_111 => ?_)
              · refine g_iconst S (v := 0) dX6_deliver_142 (by decide) ?_
                refine g_istore S dX6_deliver_143 (by decide) rfl ?_
                refine g_aload_n S dX6_deliver_145 rfl ?_
                refine g_iload S dX6_deliver_146 rfl ?_
                refine g_if_ne S (tgt := 155) dX6_deliver_148 (by decide) (fun c_148 => ?_) (fun c_148 => ?_)
                · exact absurd c_148 (by decide)
                · refine g_iconst S (v := 1) dX6_deliver_151 (by decide) ?_
                  refine g_goto S (tgt := 165) dX6_deliver_152 (by decide) ?_
                  refine g_cVr S (c_goesWell l D ty A mo ad _ _) (cwV 1 S.2.2.2.2 gX6_deliver_X6_goesWell rfl rfl rfl (by decide +kernel) ⟨Nat.le_of_ble_eq_true rfl, Nat.le_of_ble_eq_true rfl⟩) hK hE (fun H h => h) (m_recv hK) rfl (Nat.le_of_ble_eq_true rfl) dX6_deliver_165 ⟨Nat.le_of_ble_eq_true rfl, Nat.le_of_ble_eq_true rfl⟩ ?_
                  refine g_if_ne S (tgt := 173) dX6_deliver_168 (by decide) (fun c_168 => ?_) (fun c_168 => ?_)
                  · exact absurd c_168 (by decide)
                  · refine g_iconst S (v := 0) dX6_deliver_171 (by decide) ?_
                    exact g_iret S hlk hr (fun H h => (by simp (config := { decide := true }) only [gRet, mDeliver, c_4, c_11, c_67, c_79, if_true, if_false, reduceIte, Bool.false_eq_true, not_true_eq_false, not_false_eq_true, ite_not, true_and, and_true, Bool.and_self, Bool.and_true, Bool.true_and, Bool.and_false, Bool.false_and]; first | exact ⟨rfl, h⟩ | exact h)) (Nat.le_refl _) (Nat.le_refl _) dX6_deliver_172
              · exact absurd c_111 (by decide)
            · exact absurd c_91 (by decide)
        · refine g_iconst S (v := 0) dX6_deliver_70 (by decide) ?_
          refine g_goto S (tgt := 87) dX6_deliver_71 (by decide) ?_
          refine g_st (congrArg (fun z : Int32 => [Value.int z]) (mGrade_0 c_67)) ?_
          refine g_istore S dX6_deliver_87 (by decide) rfl ?_
          refine g_iload S dX6_deliver_89 rfl ?_
          refine g_if_eq S (tgt := 106) dX6_deliver_91 (by decide) (fun c_91 => ?_) (fun c_91 => ?_)
          · refine g_iconst S (v := (-1)) dX6_deliver_106 (by decide) ?_
            refine g_istore S dX6_deliver_107 (by decide) rfl ?_
            refine g_iload S dX6_deliver_109 rfl ?_
            refine g_if_eq S (tgt := 142) dX6_deliver_111 (by decide) (fun c_111 => ?_) (fun c_111 => ?_)
            · refine g_iconst S (v := 0) dX6_deliver_142 (by decide) ?_
              refine g_istore S dX6_deliver_143 (by decide) rfl ?_
              refine g_aload_n S dX6_deliver_145 rfl ?_
              refine g_iload S dX6_deliver_146 rfl ?_
              refine g_if_ne S (tgt := 155) dX6_deliver_148 (by decide) (fun c_148 => ?_) (fun c_148 => ?_)
              · exact absurd c_148 (by decide)
              · refine g_iconst S (v := 1) dX6_deliver_151 (by decide) ?_
                refine g_goto S (tgt := 165) dX6_deliver_152 (by decide) ?_
                refine g_cVr S (c_goesWell l D ty A mo ad _ _) (cwV 1 S.2.2.2.2 gX6_deliver_X6_goesWell rfl rfl rfl (by decide +kernel) ⟨Nat.le_of_ble_eq_true rfl, Nat.le_of_ble_eq_true rfl⟩) hK hE (fun H h => h) (m_recv hK) rfl (Nat.le_of_ble_eq_true rfl) dX6_deliver_165 ⟨Nat.le_of_ble_eq_true rfl, Nat.le_of_ble_eq_true rfl⟩ ?_
                refine g_if_ne S (tgt := 173) dX6_deliver_168 (by decide) (fun c_168 => ?_) (fun c_168 => ?_)
                · exact absurd c_168 (by decide)
                · refine g_iconst S (v := 0) dX6_deliver_171 (by decide) ?_
                  exact g_iret S hlk hr (fun H h => (by simp (config := { decide := true }) only [gRet, mDeliver, c_4, c_11, c_67, if_true, if_false, reduceIte, Bool.false_eq_true, not_true_eq_false, not_false_eq_true, ite_not, true_and, and_true, Bool.and_self, Bool.and_true, Bool.true_and, Bool.and_false, Bool.false_and]; first | exact ⟨rfl, h⟩ | exact h)) (Nat.le_refl _) (Nat.le_refl _) dX6_deliver_172
            · exact absurd c_111 (by decide)
          · exact absurd c_91 (by decide)
      · exact absurd c_47 (by decide)
    · refine g_iload_n S dX6_deliver_14 rfl ?_
      refine g_bipush S (v := 100) dX6_deliver_15 (by decide) ?_
      refine g_ldc S (S.2.2.2.2 _ (List.mem_of_getElem? (i := 1) rfl)) dX6_deliver_17 ?_
      refine g_cSr S (c_in l D ty A _ _ _ _) (va_cwS 3 S.2.2.2.2 gX6_deliver_X6_in rfl rfl rfl (by decide +kernel) ⟨Nat.le_of_ble_eq_true rfl, Nat.le_of_ble_eq_true rfl⟩) hK hE (fun H h => h) rfl (Nat.le_of_ble_eq_true rfl) dX6_deliver_19 ⟨Nat.le_of_ble_eq_true rfl, Nat.le_of_ble_eq_true rfl⟩ ?_
      refine g_ifb_eq S (tgt := 42) dX6_deliver_22 (by decide) (fun c_22 => ?_) (fun c_22 => ?_)
      · refine g_iconst S (v := 0) dX6_deliver_42 (by decide) ?_
        refine g_istore S dX6_deliver_43 (by decide) rfl ?_
        refine g_iload S dX6_deliver_45 rfl ?_
        refine g_if_eq S (tgt := 59) dX6_deliver_47 (by decide) (fun c_47 => ?_) (fun c_47 => ?_)
        · refine g_iconst S (v := 0) dX6_deliver_59 (by decide) ?_
          refine g_istore S dX6_deliver_60 (by decide) rfl ?_
          refine g_iload S dX6_deliver_62 rfl ?_
          refine g_sipush S (v := 140) dX6_deliver_64 (by decide) ?_
          refine g_icmp_gt S (tgt := 74) dX6_deliver_67 (by decide) (fun c_67 => ?_) (fun c_67 => ?_)
          · refine g_iload S dX6_deliver_74 rfl ?_
            refine g_sipush S (v := 180) dX6_deliver_76 (by decide) ?_
            refine g_icmp_gt S (tgt := 86) dX6_deliver_79 (by decide) (fun c_79 => ?_) (fun c_79 => ?_)
            · refine g_iconst S (v := 2) dX6_deliver_86 (by decide) ?_
              refine g_st (congrArg (fun z : Int32 => [Value.int z]) (mGrade_2 c_67 c_79)) ?_
              refine g_istore S dX6_deliver_87 (by decide) rfl ?_
              refine g_iload S dX6_deliver_89 rfl ?_
              refine g_if_eq S (tgt := 106) dX6_deliver_91 (by decide) (fun c_91 => ?_) (fun c_91 => ?_)
              · refine g_iconst S (v := (-1)) dX6_deliver_106 (by decide) ?_
                refine g_istore S dX6_deliver_107 (by decide) rfl ?_
                refine g_iload S dX6_deliver_109 rfl ?_
                refine g_if_eq S (tgt := 142) dX6_deliver_111 (by decide) (fun c_111 => ?_) (fun c_111 => ?_)
                · refine g_iconst S (v := 0) dX6_deliver_142 (by decide) ?_
                  refine g_istore S dX6_deliver_143 (by decide) rfl ?_
                  refine g_aload_n S dX6_deliver_145 rfl ?_
                  refine g_iload S dX6_deliver_146 rfl ?_
                  refine g_if_ne S (tgt := 155) dX6_deliver_148 (by decide) (fun c_148 => ?_) (fun c_148 => ?_)
                  · exact absurd c_148 (by decide)
                  · refine g_iconst S (v := 1) dX6_deliver_151 (by decide) ?_
                    refine g_goto S (tgt := 165) dX6_deliver_152 (by decide) ?_
                    refine g_cVr S (c_goesWell l D ty A mo ad _ _) (cwV 1 S.2.2.2.2 gX6_deliver_X6_goesWell rfl rfl rfl (by decide +kernel) ⟨Nat.le_of_ble_eq_true rfl, Nat.le_of_ble_eq_true rfl⟩) hK hE (fun H h => h) (m_recv hK) rfl (Nat.le_of_ble_eq_true rfl) dX6_deliver_165 ⟨Nat.le_of_ble_eq_true rfl, Nat.le_of_ble_eq_true rfl⟩ ?_
                    refine g_if_ne S (tgt := 173) dX6_deliver_168 (by decide) (fun c_168 => ?_) (fun c_168 => ?_)
                    · exact absurd c_168 (by decide)
                    · refine g_iconst S (v := 0) dX6_deliver_171 (by decide) ?_
                      exact g_iret S hlk hr (fun H h => (by simp (config := { decide := true }) only [gRet, mDeliver, c_4, c_11, c_22, c_67, c_79, if_true, if_false, reduceIte, Bool.false_eq_true, not_true_eq_false, not_false_eq_true, ite_not, true_and, and_true, Bool.and_self, Bool.and_true, Bool.true_and, Bool.and_false, Bool.false_and]; first | exact ⟨rfl, h⟩ | exact h)) (Nat.le_refl _) (Nat.le_refl _) dX6_deliver_172
                · exact absurd c_111 (by decide)
              · exact absurd c_91 (by decide)
            · refine g_iconst S (v := 1) dX6_deliver_82 (by decide) ?_
              refine g_goto S (tgt := 87) dX6_deliver_83 (by decide) ?_
              refine g_st (congrArg (fun z : Int32 => [Value.int z]) (mGrade_1 c_67 c_79)) ?_
              refine g_istore S dX6_deliver_87 (by decide) rfl ?_
              refine g_iload S dX6_deliver_89 rfl ?_
              refine g_if_eq S (tgt := 106) dX6_deliver_91 (by decide) (fun c_91 => ?_) (fun c_91 => ?_)
              · refine g_iconst S (v := (-1)) dX6_deliver_106 (by decide) ?_
                refine g_istore S dX6_deliver_107 (by decide) rfl ?_
                refine g_iload S dX6_deliver_109 rfl ?_
                refine g_if_eq S (tgt := 142) dX6_deliver_111 (by decide) (fun c_111 => ?_) (fun c_111 => ?_)
                · refine g_iconst S (v := 0) dX6_deliver_142 (by decide) ?_
                  refine g_istore S dX6_deliver_143 (by decide) rfl ?_
                  refine g_aload_n S dX6_deliver_145 rfl ?_
                  refine g_iload S dX6_deliver_146 rfl ?_
                  refine g_if_ne S (tgt := 155) dX6_deliver_148 (by decide) (fun c_148 => ?_) (fun c_148 => ?_)
                  · exact absurd c_148 (by decide)
                  · refine g_iconst S (v := 1) dX6_deliver_151 (by decide) ?_
                    refine g_goto S (tgt := 165) dX6_deliver_152 (by decide) ?_
                    refine g_cVr S (c_goesWell l D ty A mo ad _ _) (cwV 1 S.2.2.2.2 gX6_deliver_X6_goesWell rfl rfl rfl (by decide +kernel) ⟨Nat.le_of_ble_eq_true rfl, Nat.le_of_ble_eq_true rfl⟩) hK hE (fun H h => h) (m_recv hK) rfl (Nat.le_of_ble_eq_true rfl) dX6_deliver_165 ⟨Nat.le_of_ble_eq_true rfl, Nat.le_of_ble_eq_true rfl⟩ ?_
                    refine g_if_ne S (tgt := 173) dX6_deliver_168 (by decide) (fun c_168 => ?_) (fun c_168 => ?_)
                    · exact absurd c_168 (by decide)
                    · refine g_iconst S (v := 0) dX6_deliver_171 (by decide) ?_
                      exact g_iret S hlk hr (fun H h => (by simp (config := { decide := true }) only [gRet, mDeliver, c_4, c_11, c_22, c_67, c_79, if_true, if_false, reduceIte, Bool.false_eq_true, not_true_eq_false, not_false_eq_true, ite_not, true_and, and_true, Bool.and_self, Bool.and_true, Bool.true_and, Bool.and_false, Bool.false_and]; first | exact ⟨rfl, h⟩ | exact h)) (Nat.le_refl _) (Nat.le_refl _) dX6_deliver_172
                · exact absurd c_111 (by decide)
              · exact absurd c_91 (by decide)
          · refine g_iconst S (v := 0) dX6_deliver_70 (by decide) ?_
            refine g_goto S (tgt := 87) dX6_deliver_71 (by decide) ?_
            refine g_st (congrArg (fun z : Int32 => [Value.int z]) (mGrade_0 c_67)) ?_
            refine g_istore S dX6_deliver_87 (by decide) rfl ?_
            refine g_iload S dX6_deliver_89 rfl ?_
            refine g_if_eq S (tgt := 106) dX6_deliver_91 (by decide) (fun c_91 => ?_) (fun c_91 => ?_)
            · refine g_iconst S (v := (-1)) dX6_deliver_106 (by decide) ?_
              refine g_istore S dX6_deliver_107 (by decide) rfl ?_
              refine g_iload S dX6_deliver_109 rfl ?_
              refine g_if_eq S (tgt := 142) dX6_deliver_111 (by decide) (fun c_111 => ?_) (fun c_111 => ?_)
              · refine g_iconst S (v := 0) dX6_deliver_142 (by decide) ?_
                refine g_istore S dX6_deliver_143 (by decide) rfl ?_
                refine g_aload_n S dX6_deliver_145 rfl ?_
                refine g_iload S dX6_deliver_146 rfl ?_
                refine g_if_ne S (tgt := 155) dX6_deliver_148 (by decide) (fun c_148 => ?_) (fun c_148 => ?_)
                · exact absurd c_148 (by decide)
                · refine g_iconst S (v := 1) dX6_deliver_151 (by decide) ?_
                  refine g_goto S (tgt := 165) dX6_deliver_152 (by decide) ?_
                  refine g_cVr S (c_goesWell l D ty A mo ad _ _) (cwV 1 S.2.2.2.2 gX6_deliver_X6_goesWell rfl rfl rfl (by decide +kernel) ⟨Nat.le_of_ble_eq_true rfl, Nat.le_of_ble_eq_true rfl⟩) hK hE (fun H h => h) (m_recv hK) rfl (Nat.le_of_ble_eq_true rfl) dX6_deliver_165 ⟨Nat.le_of_ble_eq_true rfl, Nat.le_of_ble_eq_true rfl⟩ ?_
                  refine g_if_ne S (tgt := 173) dX6_deliver_168 (by decide) (fun c_168 => ?_) (fun c_168 => ?_)
                  · exact absurd c_168 (by decide)
                  · refine g_iconst S (v := 0) dX6_deliver_171 (by decide) ?_
                    exact g_iret S hlk hr (fun H h => (by simp (config := { decide := true }) only [gRet, mDeliver, c_4, c_11, c_22, c_67, if_true, if_false, reduceIte, Bool.false_eq_true, not_true_eq_false, not_false_eq_true, ite_not, true_and, and_true, Bool.and_self, Bool.and_true, Bool.true_and, Bool.and_false, Bool.false_and]; first | exact ⟨rfl, h⟩ | exact h)) (Nat.le_refl _) (Nat.le_refl _) dX6_deliver_172
              · exact absurd c_111 (by decide)
            · exact absurd c_91 (by decide)
        · exact absurd c_47 (by decide)
      · refine g_iload S dX6_deliver_25 rfl ?_
        refine g_bipush S (v := 50) dX6_deliver_27 (by decide) ?_
        refine g_sipush S (v := 300) dX6_deliver_29 (by decide) ?_
        refine g_cSr S (c_in l D ty A _ _ _ _) (va_cwS 3 S.2.2.2.2 gX6_deliver_X6_in rfl rfl rfl (by decide +kernel) ⟨Nat.le_of_ble_eq_true rfl, Nat.le_of_ble_eq_true rfl⟩) hK hE (fun H h => h) rfl (Nat.le_of_ble_eq_true rfl) dX6_deliver_32 ⟨Nat.le_of_ble_eq_true rfl, Nat.le_of_ble_eq_true rfl⟩ ?_
        refine g_ifb_eq S (tgt := 42) dX6_deliver_35 (by decide) (fun c_35 => ?_) (fun c_35 => ?_)
        · refine g_iconst S (v := 0) dX6_deliver_42 (by decide) ?_
          refine g_istore S dX6_deliver_43 (by decide) rfl ?_
          refine g_iload S dX6_deliver_45 rfl ?_
          refine g_if_eq S (tgt := 59) dX6_deliver_47 (by decide) (fun c_47 => ?_) (fun c_47 => ?_)
          · refine g_iconst S (v := 0) dX6_deliver_59 (by decide) ?_
            refine g_istore S dX6_deliver_60 (by decide) rfl ?_
            refine g_iload S dX6_deliver_62 rfl ?_
            refine g_sipush S (v := 140) dX6_deliver_64 (by decide) ?_
            refine g_icmp_gt S (tgt := 74) dX6_deliver_67 (by decide) (fun c_67 => ?_) (fun c_67 => ?_)
            · refine g_iload S dX6_deliver_74 rfl ?_
              refine g_sipush S (v := 180) dX6_deliver_76 (by decide) ?_
              refine g_icmp_gt S (tgt := 86) dX6_deliver_79 (by decide) (fun c_79 => ?_) (fun c_79 => ?_)
              · refine g_iconst S (v := 2) dX6_deliver_86 (by decide) ?_
                refine g_st (congrArg (fun z : Int32 => [Value.int z]) (mGrade_2 c_67 c_79)) ?_
                refine g_istore S dX6_deliver_87 (by decide) rfl ?_
                refine g_iload S dX6_deliver_89 rfl ?_
                refine g_if_eq S (tgt := 106) dX6_deliver_91 (by decide) (fun c_91 => ?_) (fun c_91 => ?_)
                · refine g_iconst S (v := (-1)) dX6_deliver_106 (by decide) ?_
                  refine g_istore S dX6_deliver_107 (by decide) rfl ?_
                  refine g_iload S dX6_deliver_109 rfl ?_
                  refine g_if_eq S (tgt := 142) dX6_deliver_111 (by decide) (fun c_111 => ?_) (fun c_111 => ?_)
                  · refine g_iconst S (v := 0) dX6_deliver_142 (by decide) ?_
                    refine g_istore S dX6_deliver_143 (by decide) rfl ?_
                    refine g_aload_n S dX6_deliver_145 rfl ?_
                    refine g_iload S dX6_deliver_146 rfl ?_
                    refine g_if_ne S (tgt := 155) dX6_deliver_148 (by decide) (fun c_148 => ?_) (fun c_148 => ?_)
                    · exact absurd c_148 (by decide)
                    · refine g_iconst S (v := 1) dX6_deliver_151 (by decide) ?_
                      refine g_goto S (tgt := 165) dX6_deliver_152 (by decide) ?_
                      refine g_cVr S (c_goesWell l D ty A mo ad _ _) (cwV 1 S.2.2.2.2 gX6_deliver_X6_goesWell rfl rfl rfl (by decide +kernel) ⟨Nat.le_of_ble_eq_true rfl, Nat.le_of_ble_eq_true rfl⟩) hK hE (fun H h => h) (m_recv hK) rfl (Nat.le_of_ble_eq_true rfl) dX6_deliver_165 ⟨Nat.le_of_ble_eq_true rfl, Nat.le_of_ble_eq_true rfl⟩ ?_
                      refine g_if_ne S (tgt := 173) dX6_deliver_168 (by decide) (fun c_168 => ?_) (fun c_168 => ?_)
                      · exact absurd c_168 (by decide)
                      · refine g_iconst S (v := 0) dX6_deliver_171 (by decide) ?_
                        exact g_iret S hlk hr (fun H h => (by simp (config := { decide := true }) only [gRet, mDeliver, c_4, c_11, c_22, c_35, c_67, c_79, if_true, if_false, reduceIte, Bool.false_eq_true, not_true_eq_false, not_false_eq_true, ite_not, true_and, and_true, Bool.and_self, Bool.and_true, Bool.true_and, Bool.and_false, Bool.false_and]; first | exact ⟨rfl, h⟩ | exact h)) (Nat.le_refl _) (Nat.le_refl _) dX6_deliver_172
                  · exact absurd c_111 (by decide)
                · exact absurd c_91 (by decide)
              · refine g_iconst S (v := 1) dX6_deliver_82 (by decide) ?_
                refine g_goto S (tgt := 87) dX6_deliver_83 (by decide) ?_
                refine g_st (congrArg (fun z : Int32 => [Value.int z]) (mGrade_1 c_67 c_79)) ?_
                refine g_istore S dX6_deliver_87 (by decide) rfl ?_
                refine g_iload S dX6_deliver_89 rfl ?_
                refine g_if_eq S (tgt := 106) dX6_deliver_91 (by decide) (fun c_91 => ?_) (fun c_91 => ?_)
                · refine g_iconst S (v := (-1)) dX6_deliver_106 (by decide) ?_
                  refine g_istore S dX6_deliver_107 (by decide) rfl ?_
                  refine g_iload S dX6_deliver_109 rfl ?_
                  refine g_if_eq S (tgt := 142) dX6_deliver_111 (by decide) (fun c_111 => ?_) (fun c_111 => ?_)
                  · refine g_iconst S (v := 0) dX6_deliver_142 (by decide) ?_
                    refine g_istore S dX6_deliver_143 (by decide) rfl ?_
                    refine g_aload_n S dX6_deliver_145 rfl ?_
                    refine g_iload S dX6_deliver_146 rfl ?_
                    refine g_if_ne S (tgt := 155) dX6_deliver_148 (by decide) (fun c_148 => ?_) (fun c_148 => ?_)
                    · exact absurd c_148 (by decide)
                    · refine g_iconst S (v := 1) dX6_deliver_151 (by decide) ?_
                      refine g_goto S (tgt := 165) dX6_deliver_152 (by decide) ?_
                      refine g_cVr S (c_goesWell l D ty A mo ad _ _) (cwV 1 S.2.2.2.2 gX6_deliver_X6_goesWell rfl rfl rfl (by decide +kernel) ⟨Nat.le_of_ble_eq_true rfl, Nat.le_of_ble_eq_true rfl⟩) hK hE (fun H h => h) (m_recv hK) rfl (Nat.le_of_ble_eq_true rfl) dX6_deliver_165 ⟨Nat.le_of_ble_eq_true rfl, Nat.le_of_ble_eq_true rfl⟩ ?_
                      refine g_if_ne S (tgt := 173) dX6_deliver_168 (by decide) (fun c_168 => ?_) (fun c_168 => ?_)
                      · exact absurd c_168 (by decide)
                      · refine g_iconst S (v := 0) dX6_deliver_171 (by decide) ?_
                        exact g_iret S hlk hr (fun H h => (by simp (config := { decide := true }) only [gRet, mDeliver, c_4, c_11, c_22, c_35, c_67, c_79, if_true, if_false, reduceIte, Bool.false_eq_true, not_true_eq_false, not_false_eq_true, ite_not, true_and, and_true, Bool.and_self, Bool.and_true, Bool.true_and, Bool.and_false, Bool.false_and]; first | exact ⟨rfl, h⟩ | exact h)) (Nat.le_refl _) (Nat.le_refl _) dX6_deliver_172
                  · exact absurd c_111 (by decide)
                · exact absurd c_91 (by decide)
            · refine g_iconst S (v := 0) dX6_deliver_70 (by decide) ?_
              refine g_goto S (tgt := 87) dX6_deliver_71 (by decide) ?_
              refine g_st (congrArg (fun z : Int32 => [Value.int z]) (mGrade_0 c_67)) ?_
              refine g_istore S dX6_deliver_87 (by decide) rfl ?_
              refine g_iload S dX6_deliver_89 rfl ?_
              refine g_if_eq S (tgt := 106) dX6_deliver_91 (by decide) (fun c_91 => ?_) (fun c_91 => ?_)
              · refine g_iconst S (v := (-1)) dX6_deliver_106 (by decide) ?_
                refine g_istore S dX6_deliver_107 (by decide) rfl ?_
                refine g_iload S dX6_deliver_109 rfl ?_
                refine g_if_eq S (tgt := 142) dX6_deliver_111 (by decide) (fun c_111 => ?_) (fun c_111 => ?_)
                · refine g_iconst S (v := 0) dX6_deliver_142 (by decide) ?_
                  refine g_istore S dX6_deliver_143 (by decide) rfl ?_
                  refine g_aload_n S dX6_deliver_145 rfl ?_
                  refine g_iload S dX6_deliver_146 rfl ?_
                  refine g_if_ne S (tgt := 155) dX6_deliver_148 (by decide) (fun c_148 => ?_) (fun c_148 => ?_)
                  · exact absurd c_148 (by decide)
                  · refine g_iconst S (v := 1) dX6_deliver_151 (by decide) ?_
                    refine g_goto S (tgt := 165) dX6_deliver_152 (by decide) ?_
                    refine g_cVr S (c_goesWell l D ty A mo ad _ _) (cwV 1 S.2.2.2.2 gX6_deliver_X6_goesWell rfl rfl rfl (by decide +kernel) ⟨Nat.le_of_ble_eq_true rfl, Nat.le_of_ble_eq_true rfl⟩) hK hE (fun H h => h) (m_recv hK) rfl (Nat.le_of_ble_eq_true rfl) dX6_deliver_165 ⟨Nat.le_of_ble_eq_true rfl, Nat.le_of_ble_eq_true rfl⟩ ?_
                    refine g_if_ne S (tgt := 173) dX6_deliver_168 (by decide) (fun c_168 => ?_) (fun c_168 => ?_)
                    · exact absurd c_168 (by decide)
                    · refine g_iconst S (v := 0) dX6_deliver_171 (by decide) ?_
                      exact g_iret S hlk hr (fun H h => (by simp (config := { decide := true }) only [gRet, mDeliver, c_4, c_11, c_22, c_35, c_67, if_true, if_false, reduceIte, Bool.false_eq_true, not_true_eq_false, not_false_eq_true, ite_not, true_and, and_true, Bool.and_self, Bool.and_true, Bool.true_and, Bool.and_false, Bool.false_and]; first | exact ⟨rfl, h⟩ | exact h)) (Nat.le_refl _) (Nat.le_refl _) dX6_deliver_172
                · exact absurd c_111 (by decide)
              · exact absurd c_91 (by decide)
          · exact absurd c_47 (by decide)
        · refine g_iconst S (v := 1) dX6_deliver_38 (by decide) ?_
          refine g_goto S (tgt := 43) dX6_deliver_39 (by decide) ?_
          refine g_istore S dX6_deliver_43 (by decide) rfl ?_
          refine g_iload S dX6_deliver_45 rfl ?_
          refine g_if_eq S (tgt := 59) dX6_deliver_47 (by decide) (fun c_47 => ?_) (fun c_47 => ?_)
          · exact absurd c_47 (by decide)
          · refine g_iload_n S dX6_deliver_50 rfl ?_
            refine g_iload S dX6_deliver_51 rfl ?_
            refine g_cSr S (c_dryOf l D ty A _ _ _) (va_cwS 2 S.2.2.2.2 gX6_deliver_X6_dryOf rfl rfl rfl (by decide +kernel) ⟨Nat.le_of_ble_eq_true rfl, Nat.le_of_ble_eq_true rfl⟩) hK hE (fun H h => h) rfl (Nat.le_of_ble_eq_true rfl) dX6_deliver_53 ⟨Nat.le_of_ble_eq_true rfl, Nat.le_of_ble_eq_true rfl⟩ ?_
            refine g_goto S (tgt := 60) dX6_deliver_56 (by decide) ?_
            refine g_istore S dX6_deliver_60 (by decide) rfl ?_
            refine g_iload S dX6_deliver_62 rfl ?_
            refine g_sipush S (v := 140) dX6_deliver_64 (by decide) ?_
            refine g_icmp_gt S (tgt := 74) dX6_deliver_67 (by decide) (fun c_67 => ?_) (fun c_67 => ?_)
            · refine g_iload S dX6_deliver_74 rfl ?_
              refine g_sipush S (v := 180) dX6_deliver_76 (by decide) ?_
              refine g_icmp_gt S (tgt := 86) dX6_deliver_79 (by decide) (fun c_79 => ?_) (fun c_79 => ?_)
              · refine g_iconst S (v := 2) dX6_deliver_86 (by decide) ?_
                refine g_st (congrArg (fun z : Int32 => [Value.int z]) (mGrade_2 c_67 c_79)) ?_
                refine g_istore S dX6_deliver_87 (by decide) rfl ?_
                refine g_iload S dX6_deliver_89 rfl ?_
                refine g_if_eq S (tgt := 106) dX6_deliver_91 (by decide) (fun c_91 => ?_) (fun c_91 => ?_)
                · exact absurd c_91 (by decide)
                · refine g_aload_n S dX6_deliver_94 rfl ?_
                  refine g_iload_n S dX6_deliver_95 rfl ?_
                  refine g_iload S dX6_deliver_96 rfl ?_
                  refine g_iload S dX6_deliver_98 rfl ?_
                  refine g_cVr S (c_siloFor l D ty A mo ad _ _ _ _ (by exact hn.1)) (cwV 3 S.2.2.2.2 gX6_deliver_X6_siloFor rfl rfl rfl (by decide +kernel) ⟨Nat.le_of_ble_eq_true rfl, Nat.le_of_ble_eq_true rfl⟩) hK hE (fun H h => h) (m_recv hK) rfl (Nat.le_of_ble_eq_true rfl) dX6_deliver_100 ⟨Nat.le_of_ble_eq_true rfl, Nat.le_of_ble_eq_true rfl⟩ ?_
                  refine g_goto S (tgt := 107) dX6_deliver_103 (by decide) ?_
                  refine g_istore S dX6_deliver_107 (by decide) rfl ?_
                  refine g_iload S dX6_deliver_109 rfl ?_
                  refine g_if_eq S (tgt := 142) dX6_deliver_111 (by decide) (fun c_111 => ?_) (fun c_111 => ?_)
                  · exact absurd c_111 (by decide)
                  · refine g_aload_n S dX6_deliver_114 rfl ?_
                    refine m_getf S hK 13 (by decide) (S.2.2.2.2 _ (List.mem_of_getElem? (i := 2) rfl)) rfl dX6_deliver_115 ?_
                    refine g_bipush S (v := 40) dX6_deliver_118 (by decide) ?_
                    refine g_icmp_ge S (tgt := 142) dX6_deliver_120 (by decide) (fun c_120 => ?_) (fun c_120 => ?_)
                    · refine g_iconst S (v := 0) dX6_deliver_142 (by decide) ?_
                      refine g_istore S dX6_deliver_143 (by decide) rfl ?_
                      refine g_aload_n S dX6_deliver_145 rfl ?_
                      refine g_iload S dX6_deliver_146 rfl ?_
                      refine g_if_ne S (tgt := 155) dX6_deliver_148 (by decide) (fun c_148 => ?_) (fun c_148 => ?_)
                      · refine g_iload S dX6_deliver_155 rfl ?_
                        refine g_if_eq S (tgt := 164) dX6_deliver_157 (by decide) (fun c_157 => ?_) (fun c_157 => ?_)
                        · refine g_iconst S (v := 2) dX6_deliver_164 (by decide) ?_
                          refine g_cVr S (c_goesWell l D ty A mo ad _ _) (cwV 1 S.2.2.2.2 gX6_deliver_X6_goesWell rfl rfl rfl (by decide +kernel) ⟨Nat.le_of_ble_eq_true rfl, Nat.le_of_ble_eq_true rfl⟩) hK hE (fun H h => h) (m_recv hK) rfl (Nat.le_of_ble_eq_true rfl) dX6_deliver_165 ⟨Nat.le_of_ble_eq_true rfl, Nat.le_of_ble_eq_true rfl⟩ ?_
                          refine g_if_ne S (tgt := 173) dX6_deliver_168 (by decide) (fun c_168 => ?_) (fun c_168 => ?_)
                          · exact absurd c_168 (by decide)
                          · refine g_iconst S (v := 0) dX6_deliver_171 (by decide) ?_
                            exact g_iret S hlk hr (fun H h => (by simp (config := { decide := true }) only [gRet, mDeliver, c_4, c_11, c_22, c_35, c_67, c_79, c_120, if_true, if_false, reduceIte, Bool.false_eq_true, not_true_eq_false, not_false_eq_true, ite_not, true_and, and_true, Bool.and_self, Bool.and_true, Bool.true_and, Bool.and_false, Bool.false_and]; first | exact ⟨rfl, h⟩ | exact h)) (Nat.le_refl _) (Nat.le_refl _) dX6_deliver_172
                        · exact absurd c_157 (by decide)
                      · exact absurd c_148 (by decide)
                    · refine g_aload_n S dX6_deliver_123 rfl ?_
                      refine m_getf S hK 20 (by decide) (S.2.2.2.2 _ (List.mem_of_getElem? (i := 3) rfl)) rfl dX6_deliver_124 ?_
                      refine g_bipush S (v := 80) dX6_deliver_127 (by decide) ?_
                      refine g_icmp_ge S (tgt := 142) dX6_deliver_129 (by decide) (fun c_129 => ?_) (fun c_129 => ?_)
                      · refine g_iconst S (v := 0) dX6_deliver_142 (by decide) ?_
                        refine g_istore S dX6_deliver_143 (by decide) rfl ?_
                        refine g_aload_n S dX6_deliver_145 rfl ?_
                        refine g_iload S dX6_deliver_146 rfl ?_
                        refine g_if_ne S (tgt := 155) dX6_deliver_148 (by decide) (fun c_148 => ?_) (fun c_148 => ?_)
                        · refine g_iload S dX6_deliver_155 rfl ?_
                          refine g_if_eq S (tgt := 164) dX6_deliver_157 (by decide) (fun c_157 => ?_) (fun c_157 => ?_)
                          · refine g_iconst S (v := 2) dX6_deliver_164 (by decide) ?_
                            refine g_cVr S (c_goesWell l D ty A mo ad _ _) (cwV 1 S.2.2.2.2 gX6_deliver_X6_goesWell rfl rfl rfl (by decide +kernel) ⟨Nat.le_of_ble_eq_true rfl, Nat.le_of_ble_eq_true rfl⟩) hK hE (fun H h => h) (m_recv hK) rfl (Nat.le_of_ble_eq_true rfl) dX6_deliver_165 ⟨Nat.le_of_ble_eq_true rfl, Nat.le_of_ble_eq_true rfl⟩ ?_
                            refine g_if_ne S (tgt := 173) dX6_deliver_168 (by decide) (fun c_168 => ?_) (fun c_168 => ?_)
                            · exact absurd c_168 (by decide)
                            · refine g_iconst S (v := 0) dX6_deliver_171 (by decide) ?_
                              exact g_iret S hlk hr (fun H h => (by simp (config := { decide := true }) only [gRet, mDeliver, c_4, c_11, c_22, c_35, c_67, c_79, c_120, c_129, if_true, if_false, reduceIte, Bool.false_eq_true, not_true_eq_false, not_false_eq_true, ite_not, true_and, and_true, Bool.and_self, Bool.and_true, Bool.true_and, Bool.and_false, Bool.false_and]; first | exact ⟨rfl, h⟩ | exact h)) (Nat.le_refl _) (Nat.le_refl _) dX6_deliver_172
                          · exact absurd c_157 (by decide)
                        · exact absurd c_148 (by decide)
                      · refine g_iload S dX6_deliver_132 rfl ?_
                        refine g_iconst S (v := (-1)) dX6_deliver_134 (by decide) ?_
                        refine g_icmp_eq S (tgt := 142) dX6_deliver_135 (by decide) (fun c_135 => ?_) (fun c_135 => ?_)
                        · refine g_iconst S (v := 0) dX6_deliver_142 (by decide) ?_
                          refine g_istore S dX6_deliver_143 (by decide) rfl ?_
                          refine g_aload_n S dX6_deliver_145 rfl ?_
                          refine g_iload S dX6_deliver_146 rfl ?_
                          refine g_if_ne S (tgt := 155) dX6_deliver_148 (by decide) (fun c_148 => ?_) (fun c_148 => ?_)
                          · refine g_iload S dX6_deliver_155 rfl ?_
                            refine g_if_eq S (tgt := 164) dX6_deliver_157 (by decide) (fun c_157 => ?_) (fun c_157 => ?_)
                            · refine g_iconst S (v := 2) dX6_deliver_164 (by decide) ?_
                              refine g_cVr S (c_goesWell l D ty A mo ad _ _) (cwV 1 S.2.2.2.2 gX6_deliver_X6_goesWell rfl rfl rfl (by decide +kernel) ⟨Nat.le_of_ble_eq_true rfl, Nat.le_of_ble_eq_true rfl⟩) hK hE (fun H h => h) (m_recv hK) rfl (Nat.le_of_ble_eq_true rfl) dX6_deliver_165 ⟨Nat.le_of_ble_eq_true rfl, Nat.le_of_ble_eq_true rfl⟩ ?_
                              refine g_if_ne S (tgt := 173) dX6_deliver_168 (by decide) (fun c_168 => ?_) (fun c_168 => ?_)
                              · exact absurd c_168 (by decide)
                              · refine g_iconst S (v := 0) dX6_deliver_171 (by decide) ?_
                                exact g_iret S hlk hr (fun H h => (by simp (config := { decide := true }) only [gRet, mDeliver, c_4, c_11, c_22, c_35, c_67, c_79, c_120, c_129, c_135, if_true, if_false, reduceIte, Bool.false_eq_true, not_true_eq_false, not_false_eq_true, ite_not, true_and, and_true, Bool.and_self, Bool.and_true, Bool.true_and, Bool.and_false, Bool.false_and]; first | exact ⟨rfl, h⟩ | exact h)) (Nat.le_refl _) (Nat.le_refl _) dX6_deliver_172
                            · exact absurd c_157 (by decide)
                          · exact absurd c_148 (by decide)
                        · refine g_iconst S (v := 1) dX6_deliver_138 (by decide) ?_
                          refine g_goto S (tgt := 143) dX6_deliver_139 (by decide) ?_
                          refine g_istore S dX6_deliver_143 (by decide) rfl ?_
                          refine g_aload_n S dX6_deliver_145 rfl ?_
                          refine g_iload S dX6_deliver_146 rfl ?_
                          refine g_if_ne S (tgt := 155) dX6_deliver_148 (by decide) (fun c_148 => ?_) (fun c_148 => ?_)
                          · refine g_iload S dX6_deliver_155 rfl ?_
                            refine g_if_eq S (tgt := 164) dX6_deliver_157 (by decide) (fun c_157 => ?_) (fun c_157 => ?_)
                            · exact absurd c_157 (by decide)
                            · refine g_iconst S (v := 0) dX6_deliver_160 (by decide) ?_
                              refine g_goto S (tgt := 165) dX6_deliver_161 (by decide) ?_
                              refine g_cVr S (c_goesWell l D ty A mo ad _ _) (cwV 1 S.2.2.2.2 gX6_deliver_X6_goesWell rfl rfl rfl (by decide +kernel) ⟨Nat.le_of_ble_eq_true rfl, Nat.le_of_ble_eq_true rfl⟩) hK hE (fun H h => h) (m_recv hK) rfl (Nat.le_of_ble_eq_true rfl) dX6_deliver_165 ⟨Nat.le_of_ble_eq_true rfl, Nat.le_of_ble_eq_true rfl⟩ ?_
                              refine g_if_ne S (tgt := 173) dX6_deliver_168 (by decide) (fun c_168 => ?_) (fun c_168 => ?_)
                              · refine g_aload_n S dX6_deliver_173 rfl ?_
                                refine m_getf S hK 14 (by decide) (S.2.2.2.2 _ (List.mem_of_getElem? (i := 4) rfl)) rfl dX6_deliver_174 ?_
                                refine g_aload_n S dX6_deliver_177 rfl ?_
                                refine m_getf S hK 13 (by decide) (S.2.2.2.2 _ (List.mem_of_getElem? (i := 2) rfl)) rfl dX6_deliver_178 ?_
                                refine g_iload_n S dX6_deliver_181 rfl ?_
                                refine m_iast S hK (by decide) (by first | exact vin_lt hn.2.1 (by decide) c_120 | exact mSiloFor_in hn.1 c_135) dX6_deliver_182 ?_
                                refine g_aload_n S dX6_deliver_183 rfl ?_
                                refine m_getf S hK 15 (by decide) (S.2.2.2.2 _ (List.mem_of_getElem? (i := 5) rfl)) rfl dX6_deliver_184 ?_
                                refine g_aload_n S dX6_deliver_187 rfl ?_
                                refine m_getf S hK 13 (by decide) (S.2.2.2.2 _ (List.mem_of_getElem? (i := 2) rfl)) rfl dX6_deliver_188 ?_
                                refine g_iload_n S dX6_deliver_191 rfl ?_
                                refine m_iast S hK (by decide) (by first | exact vin_lt hn.2.1 (by decide) c_120 | exact mSiloFor_in hn.1 c_135) dX6_deliver_192 ?_
                                refine g_aload_n S dX6_deliver_193 rfl ?_
                                refine m_getf S hK 16 (by decide) (S.2.2.2.2 _ (List.mem_of_getElem? (i := 6) rfl)) rfl dX6_deliver_194 ?_
                                refine g_aload_n S dX6_deliver_197 rfl ?_
                                refine m_getf S hK 13 (by decide) (S.2.2.2.2 _ (List.mem_of_getElem? (i := 2) rfl)) rfl dX6_deliver_198 ?_
                                refine g_iload S dX6_deliver_201 rfl ?_
                                refine m_iast S hK (by decide) (by first | exact vin_lt hn.2.1 (by decide) c_120 | exact mSiloFor_in hn.1 c_135) dX6_deliver_203 ?_
                                refine g_aload_n S dX6_deliver_204 rfl ?_
                                refine m_getf S hK 17 (by decide) (S.2.2.2.2 _ (List.mem_of_getElem? (i := 7) rfl)) rfl dX6_deliver_205 ?_
                                refine g_aload_n S dX6_deliver_208 rfl ?_
                                refine m_getf S hK 13 (by decide) (S.2.2.2.2 _ (List.mem_of_getElem? (i := 2) rfl)) rfl dX6_deliver_209 ?_
                                refine g_iload_n S dX6_deliver_212 rfl ?_
                                refine m_iast S hK (by decide) (by first | exact vin_lt hn.2.1 (by decide) c_120 | exact mSiloFor_in hn.1 c_135) dX6_deliver_213 ?_
                                refine g_aload_n S dX6_deliver_214 rfl ?_
                                refine m_getf S hK 18 (by decide) (S.2.2.2.2 _ (List.mem_of_getElem? (i := 8) rfl)) rfl dX6_deliver_215 ?_
                                refine g_aload_n S dX6_deliver_218 rfl ?_
                                refine m_getf S hK 13 (by decide) (S.2.2.2.2 _ (List.mem_of_getElem? (i := 2) rfl)) rfl dX6_deliver_219 ?_
                                refine g_iload S dX6_deliver_222 rfl ?_
                                refine m_iast S hK (by decide) (by first | exact vin_lt hn.2.1 (by decide) c_120 | exact mSiloFor_in hn.1 c_135) dX6_deliver_224 ?_
                                refine g_aload_n S dX6_deliver_225 rfl ?_
                                refine m_getf S hK 19 (by decide) (S.2.2.2.2 _ (List.mem_of_getElem? (i := 9) rfl)) rfl dX6_deliver_226 ?_
                                refine g_aload_n S dX6_deliver_229 rfl ?_
                                refine m_getf S hK 13 (by decide) (S.2.2.2.2 _ (List.mem_of_getElem? (i := 2) rfl)) rfl dX6_deliver_230 ?_
                                refine g_iload S dX6_deliver_233 rfl ?_
                                refine m_iast S hK (by decide) (by first | exact vin_lt hn.2.1 (by decide) c_120 | exact mSiloFor_in hn.1 c_135) dX6_deliver_235 ?_
                                refine g_aload_n S dX6_deliver_236 rfl ?_
                                refine g_dup S dX6_deliver_237 rfl ?_
                                refine m_getf S hK 13 (by decide) (S.2.2.2.2 _ (List.mem_of_getElem? (i := 2) rfl)) rfl dX6_deliver_238 ?_
                                refine g_iconst S (v := 1) dX6_deliver_241 (by decide) ?_
                                refine g_iadd S dX6_deliver_242 ?_
                                refine m_puts S hK 13 (by decide) (S.2.2.2.2 _ (List.mem_of_getElem? (i := 2) rfl)) dX6_deliver_243 ?_
                                refine g_aload_n S dX6_deliver_246 rfl ?_
                                refine m_getf S hK 9 (by decide) (S.2.2.2.2 _ (List.mem_of_getElem? (i := 10) rfl)) rfl dX6_deliver_247 ?_
                                refine g_iload S dX6_deliver_250 rfl ?_
                                refine g_dup2_11 S dX6_deliver_252 rfl rfl ?_
                                refine m_iald S hK (by decide) (by first | exact vin_lt hn.2.1 (by decide) c_120 | exact mSiloFor_in hn.1 c_135) dX6_deliver_253 ?_
                                refine g_iload S dX6_deliver_254 rfl ?_
                                refine g_iadd S dX6_deliver_256 ?_
                                refine m_iast S hK (by decide) (by first | exact vin_lt hn.2.1 (by decide) c_120 | exact mSiloFor_in hn.1 c_135) dX6_deliver_257 ?_
                                refine g_aload_n S dX6_deliver_258 rfl ?_
                                refine m_getf S hK 10 (by decide) (S.2.2.2.2 _ (List.mem_of_getElem? (i := 11) rfl)) rfl dX6_deliver_259 ?_
                                refine g_iload S dX6_deliver_262 rfl ?_
                                refine g_iload_n S dX6_deliver_264 rfl ?_
                                refine m_iast S hK (by decide) (by first | exact vin_lt hn.2.1 (by decide) c_120 | exact mSiloFor_in hn.1 c_135) dX6_deliver_265 ?_
                                refine g_aload_n S dX6_deliver_266 rfl ?_
                                refine m_getf S hK 11 (by decide) (S.2.2.2.2 _ (List.mem_of_getElem? (i := 12) rfl)) rfl dX6_deliver_267 ?_
                                refine g_iload S dX6_deliver_270 rfl ?_
                                refine g_iload S dX6_deliver_272 rfl ?_
                                refine m_iast S hK (by decide) (by first | exact vin_lt hn.2.1 (by decide) c_120 | exact mSiloFor_in hn.1 c_135) dX6_deliver_274 ?_
                                refine g_aload_n S dX6_deliver_275 rfl ?_
                                refine g_iload S dX6_deliver_276 rfl ?_
                                refine g_iload_n S dX6_deliver_278 rfl ?_
                                refine g_iload S dX6_deliver_279 rfl ?_
                                refine g_aload_n S dX6_deliver_281 rfl ?_
                                refine m_getf S hK 13 (by decide) (S.2.2.2.2 _ (List.mem_of_getElem? (i := 2) rfl)) rfl dX6_deliver_282 ?_
                                refine g_iconst S (v := 1) dX6_deliver_285 (by decide) ?_
                                refine g_isub S dX6_deliver_286 ?_
                                refine g_cVr S (c_make l D ty A mo ad _ _ _ _ _ (by exact vin_lt hn.2.2.1 (by decide) c_129) (by exact (vin_mono hc (by decide)))) (cwV 4 S.2.2.2.2 gX6_deliver_X6_make rfl rfl rfl (by decide +kernel) ⟨Nat.le_of_ble_eq_true rfl, Nat.le_of_ble_eq_true rfl⟩) hK hE (fun H h => h) (m_recv hK) rfl (Nat.le_of_ble_eq_true rfl) dX6_deliver_287 ⟨Nat.le_of_ble_eq_true rfl, Nat.le_of_ble_eq_true rfl⟩ ?_
                                exact g_iret S hlk hr (fun H h => (by simp (config := { decide := true }) only [gRet, mDeliver, c_4, c_11, c_22, c_35, c_67, c_79, c_120, c_129, c_135, if_true, if_false, reduceIte, Bool.false_eq_true, not_true_eq_false, not_false_eq_true, ite_not, true_and, and_true, Bool.and_self, Bool.and_true, Bool.true_and, Bool.and_false, Bool.false_and]; first | exact ⟨rfl, h⟩ | exact h)) (Nat.le_refl _) (Nat.le_refl _) dX6_deliver_290
                              · exact absurd c_168 (by decide)
                          · exact absurd c_148 (by decide)
              · refine g_iconst S (v := 1) dX6_deliver_82 (by decide) ?_
                refine g_goto S (tgt := 87) dX6_deliver_83 (by decide) ?_
                refine g_st (congrArg (fun z : Int32 => [Value.int z]) (mGrade_1 c_67 c_79)) ?_
                refine g_istore S dX6_deliver_87 (by decide) rfl ?_
                refine g_iload S dX6_deliver_89 rfl ?_
                refine g_if_eq S (tgt := 106) dX6_deliver_91 (by decide) (fun c_91 => ?_) (fun c_91 => ?_)
                · exact absurd c_91 (by decide)
                · refine g_aload_n S dX6_deliver_94 rfl ?_
                  refine g_iload_n S dX6_deliver_95 rfl ?_
                  refine g_iload S dX6_deliver_96 rfl ?_
                  refine g_iload S dX6_deliver_98 rfl ?_
                  refine g_cVr S (c_siloFor l D ty A mo ad _ _ _ _ (by exact hn.1)) (cwV 3 S.2.2.2.2 gX6_deliver_X6_siloFor rfl rfl rfl (by decide +kernel) ⟨Nat.le_of_ble_eq_true rfl, Nat.le_of_ble_eq_true rfl⟩) hK hE (fun H h => h) (m_recv hK) rfl (Nat.le_of_ble_eq_true rfl) dX6_deliver_100 ⟨Nat.le_of_ble_eq_true rfl, Nat.le_of_ble_eq_true rfl⟩ ?_
                  refine g_goto S (tgt := 107) dX6_deliver_103 (by decide) ?_
                  refine g_istore S dX6_deliver_107 (by decide) rfl ?_
                  refine g_iload S dX6_deliver_109 rfl ?_
                  refine g_if_eq S (tgt := 142) dX6_deliver_111 (by decide) (fun c_111 => ?_) (fun c_111 => ?_)
                  · exact absurd c_111 (by decide)
                  · refine g_aload_n S dX6_deliver_114 rfl ?_
                    refine m_getf S hK 13 (by decide) (S.2.2.2.2 _ (List.mem_of_getElem? (i := 2) rfl)) rfl dX6_deliver_115 ?_
                    refine g_bipush S (v := 40) dX6_deliver_118 (by decide) ?_
                    refine g_icmp_ge S (tgt := 142) dX6_deliver_120 (by decide) (fun c_120 => ?_) (fun c_120 => ?_)
                    · refine g_iconst S (v := 0) dX6_deliver_142 (by decide) ?_
                      refine g_istore S dX6_deliver_143 (by decide) rfl ?_
                      refine g_aload_n S dX6_deliver_145 rfl ?_
                      refine g_iload S dX6_deliver_146 rfl ?_
                      refine g_if_ne S (tgt := 155) dX6_deliver_148 (by decide) (fun c_148 => ?_) (fun c_148 => ?_)
                      · refine g_iload S dX6_deliver_155 rfl ?_
                        refine g_if_eq S (tgt := 164) dX6_deliver_157 (by decide) (fun c_157 => ?_) (fun c_157 => ?_)
                        · refine g_iconst S (v := 2) dX6_deliver_164 (by decide) ?_
                          refine g_cVr S (c_goesWell l D ty A mo ad _ _) (cwV 1 S.2.2.2.2 gX6_deliver_X6_goesWell rfl rfl rfl (by decide +kernel) ⟨Nat.le_of_ble_eq_true rfl, Nat.le_of_ble_eq_true rfl⟩) hK hE (fun H h => h) (m_recv hK) rfl (Nat.le_of_ble_eq_true rfl) dX6_deliver_165 ⟨Nat.le_of_ble_eq_true rfl, Nat.le_of_ble_eq_true rfl⟩ ?_
                          refine g_if_ne S (tgt := 173) dX6_deliver_168 (by decide) (fun c_168 => ?_) (fun c_168 => ?_)
                          · exact absurd c_168 (by decide)
                          · refine g_iconst S (v := 0) dX6_deliver_171 (by decide) ?_
                            exact g_iret S hlk hr (fun H h => (by simp (config := { decide := true }) only [gRet, mDeliver, c_4, c_11, c_22, c_35, c_67, c_79, c_120, if_true, if_false, reduceIte, Bool.false_eq_true, not_true_eq_false, not_false_eq_true, ite_not, true_and, and_true, Bool.and_self, Bool.and_true, Bool.true_and, Bool.and_false, Bool.false_and]; first | exact ⟨rfl, h⟩ | exact h)) (Nat.le_refl _) (Nat.le_refl _) dX6_deliver_172
                        · exact absurd c_157 (by decide)
                      · exact absurd c_148 (by decide)
                    · refine g_aload_n S dX6_deliver_123 rfl ?_
                      refine m_getf S hK 20 (by decide) (S.2.2.2.2 _ (List.mem_of_getElem? (i := 3) rfl)) rfl dX6_deliver_124 ?_
                      refine g_bipush S (v := 80) dX6_deliver_127 (by decide) ?_
                      refine g_icmp_ge S (tgt := 142) dX6_deliver_129 (by decide) (fun c_129 => ?_) (fun c_129 => ?_)
                      · refine g_iconst S (v := 0) dX6_deliver_142 (by decide) ?_
                        refine g_istore S dX6_deliver_143 (by decide) rfl ?_
                        refine g_aload_n S dX6_deliver_145 rfl ?_
                        refine g_iload S dX6_deliver_146 rfl ?_
                        refine g_if_ne S (tgt := 155) dX6_deliver_148 (by decide) (fun c_148 => ?_) (fun c_148 => ?_)
                        · refine g_iload S dX6_deliver_155 rfl ?_
                          refine g_if_eq S (tgt := 164) dX6_deliver_157 (by decide) (fun c_157 => ?_) (fun c_157 => ?_)
                          · refine g_iconst S (v := 2) dX6_deliver_164 (by decide) ?_
                            refine g_cVr S (c_goesWell l D ty A mo ad _ _) (cwV 1 S.2.2.2.2 gX6_deliver_X6_goesWell rfl rfl rfl (by decide +kernel) ⟨Nat.le_of_ble_eq_true rfl, Nat.le_of_ble_eq_true rfl⟩) hK hE (fun H h => h) (m_recv hK) rfl (Nat.le_of_ble_eq_true rfl) dX6_deliver_165 ⟨Nat.le_of_ble_eq_true rfl, Nat.le_of_ble_eq_true rfl⟩ ?_
                            refine g_if_ne S (tgt := 173) dX6_deliver_168 (by decide) (fun c_168 => ?_) (fun c_168 => ?_)
                            · exact absurd c_168 (by decide)
                            · refine g_iconst S (v := 0) dX6_deliver_171 (by decide) ?_
                              exact g_iret S hlk hr (fun H h => (by simp (config := { decide := true }) only [gRet, mDeliver, c_4, c_11, c_22, c_35, c_67, c_79, c_120, c_129, if_true, if_false, reduceIte, Bool.false_eq_true, not_true_eq_false, not_false_eq_true, ite_not, true_and, and_true, Bool.and_self, Bool.and_true, Bool.true_and, Bool.and_false, Bool.false_and]; first | exact ⟨rfl, h⟩ | exact h)) (Nat.le_refl _) (Nat.le_refl _) dX6_deliver_172
                          · exact absurd c_157 (by decide)
                        · exact absurd c_148 (by decide)
                      · refine g_iload S dX6_deliver_132 rfl ?_
                        refine g_iconst S (v := (-1)) dX6_deliver_134 (by decide) ?_
                        refine g_icmp_eq S (tgt := 142) dX6_deliver_135 (by decide) (fun c_135 => ?_) (fun c_135 => ?_)
                        · refine g_iconst S (v := 0) dX6_deliver_142 (by decide) ?_
                          refine g_istore S dX6_deliver_143 (by decide) rfl ?_
                          refine g_aload_n S dX6_deliver_145 rfl ?_
                          refine g_iload S dX6_deliver_146 rfl ?_
                          refine g_if_ne S (tgt := 155) dX6_deliver_148 (by decide) (fun c_148 => ?_) (fun c_148 => ?_)
                          · refine g_iload S dX6_deliver_155 rfl ?_
                            refine g_if_eq S (tgt := 164) dX6_deliver_157 (by decide) (fun c_157 => ?_) (fun c_157 => ?_)
                            · refine g_iconst S (v := 2) dX6_deliver_164 (by decide) ?_
                              refine g_cVr S (c_goesWell l D ty A mo ad _ _) (cwV 1 S.2.2.2.2 gX6_deliver_X6_goesWell rfl rfl rfl (by decide +kernel) ⟨Nat.le_of_ble_eq_true rfl, Nat.le_of_ble_eq_true rfl⟩) hK hE (fun H h => h) (m_recv hK) rfl (Nat.le_of_ble_eq_true rfl) dX6_deliver_165 ⟨Nat.le_of_ble_eq_true rfl, Nat.le_of_ble_eq_true rfl⟩ ?_
                              refine g_if_ne S (tgt := 173) dX6_deliver_168 (by decide) (fun c_168 => ?_) (fun c_168 => ?_)
                              · exact absurd c_168 (by decide)
                              · refine g_iconst S (v := 0) dX6_deliver_171 (by decide) ?_
                                exact g_iret S hlk hr (fun H h => (by simp (config := { decide := true }) only [gRet, mDeliver, c_4, c_11, c_22, c_35, c_67, c_79, c_120, c_129, c_135, if_true, if_false, reduceIte, Bool.false_eq_true, not_true_eq_false, not_false_eq_true, ite_not, true_and, and_true, Bool.and_self, Bool.and_true, Bool.true_and, Bool.and_false, Bool.false_and]; first | exact ⟨rfl, h⟩ | exact h)) (Nat.le_refl _) (Nat.le_refl _) dX6_deliver_172
                            · exact absurd c_157 (by decide)
                          · exact absurd c_148 (by decide)
                        · refine g_iconst S (v := 1) dX6_deliver_138 (by decide) ?_
                          refine g_goto S (tgt := 143) dX6_deliver_139 (by decide) ?_
                          refine g_istore S dX6_deliver_143 (by decide) rfl ?_
                          refine g_aload_n S dX6_deliver_145 rfl ?_
                          refine g_iload S dX6_deliver_146 rfl ?_
                          refine g_if_ne S (tgt := 155) dX6_deliver_148 (by decide) (fun c_148 => ?_) (fun c_148 => ?_)
                          · refine g_iload S dX6_deliver_155 rfl ?_
                            refine g_if_eq S (tgt := 164) dX6_deliver_157 (by decide) (fun c_157 => ?_) (fun c_157 => ?_)
                            · exact absurd c_157 (by decide)
                            · refine g_iconst S (v := 0) dX6_deliver_160 (by decide) ?_
                              refine g_goto S (tgt := 165) dX6_deliver_161 (by decide) ?_
                              refine g_cVr S (c_goesWell l D ty A mo ad _ _) (cwV 1 S.2.2.2.2 gX6_deliver_X6_goesWell rfl rfl rfl (by decide +kernel) ⟨Nat.le_of_ble_eq_true rfl, Nat.le_of_ble_eq_true rfl⟩) hK hE (fun H h => h) (m_recv hK) rfl (Nat.le_of_ble_eq_true rfl) dX6_deliver_165 ⟨Nat.le_of_ble_eq_true rfl, Nat.le_of_ble_eq_true rfl⟩ ?_
                              refine g_if_ne S (tgt := 173) dX6_deliver_168 (by decide) (fun c_168 => ?_) (fun c_168 => ?_)
                              · refine g_aload_n S dX6_deliver_173 rfl ?_
                                refine m_getf S hK 14 (by decide) (S.2.2.2.2 _ (List.mem_of_getElem? (i := 4) rfl)) rfl dX6_deliver_174 ?_
                                refine g_aload_n S dX6_deliver_177 rfl ?_
                                refine m_getf S hK 13 (by decide) (S.2.2.2.2 _ (List.mem_of_getElem? (i := 2) rfl)) rfl dX6_deliver_178 ?_
                                refine g_iload_n S dX6_deliver_181 rfl ?_
                                refine m_iast S hK (by decide) (by first | exact vin_lt hn.2.1 (by decide) c_120 | exact mSiloFor_in hn.1 c_135) dX6_deliver_182 ?_
                                refine g_aload_n S dX6_deliver_183 rfl ?_
                                refine m_getf S hK 15 (by decide) (S.2.2.2.2 _ (List.mem_of_getElem? (i := 5) rfl)) rfl dX6_deliver_184 ?_
                                refine g_aload_n S dX6_deliver_187 rfl ?_
                                refine m_getf S hK 13 (by decide) (S.2.2.2.2 _ (List.mem_of_getElem? (i := 2) rfl)) rfl dX6_deliver_188 ?_
                                refine g_iload_n S dX6_deliver_191 rfl ?_
                                refine m_iast S hK (by decide) (by first | exact vin_lt hn.2.1 (by decide) c_120 | exact mSiloFor_in hn.1 c_135) dX6_deliver_192 ?_
                                refine g_aload_n S dX6_deliver_193 rfl ?_
                                refine m_getf S hK 16 (by decide) (S.2.2.2.2 _ (List.mem_of_getElem? (i := 6) rfl)) rfl dX6_deliver_194 ?_
                                refine g_aload_n S dX6_deliver_197 rfl ?_
                                refine m_getf S hK 13 (by decide) (S.2.2.2.2 _ (List.mem_of_getElem? (i := 2) rfl)) rfl dX6_deliver_198 ?_
                                refine g_iload S dX6_deliver_201 rfl ?_
                                refine m_iast S hK (by decide) (by first | exact vin_lt hn.2.1 (by decide) c_120 | exact mSiloFor_in hn.1 c_135) dX6_deliver_203 ?_
                                refine g_aload_n S dX6_deliver_204 rfl ?_
                                refine m_getf S hK 17 (by decide) (S.2.2.2.2 _ (List.mem_of_getElem? (i := 7) rfl)) rfl dX6_deliver_205 ?_
                                refine g_aload_n S dX6_deliver_208 rfl ?_
                                refine m_getf S hK 13 (by decide) (S.2.2.2.2 _ (List.mem_of_getElem? (i := 2) rfl)) rfl dX6_deliver_209 ?_
                                refine g_iload_n S dX6_deliver_212 rfl ?_
                                refine m_iast S hK (by decide) (by first | exact vin_lt hn.2.1 (by decide) c_120 | exact mSiloFor_in hn.1 c_135) dX6_deliver_213 ?_
                                refine g_aload_n S dX6_deliver_214 rfl ?_
                                refine m_getf S hK 18 (by decide) (S.2.2.2.2 _ (List.mem_of_getElem? (i := 8) rfl)) rfl dX6_deliver_215 ?_
                                refine g_aload_n S dX6_deliver_218 rfl ?_
                                refine m_getf S hK 13 (by decide) (S.2.2.2.2 _ (List.mem_of_getElem? (i := 2) rfl)) rfl dX6_deliver_219 ?_
                                refine g_iload S dX6_deliver_222 rfl ?_
                                refine m_iast S hK (by decide) (by first | exact vin_lt hn.2.1 (by decide) c_120 | exact mSiloFor_in hn.1 c_135) dX6_deliver_224 ?_
                                refine g_aload_n S dX6_deliver_225 rfl ?_
                                refine m_getf S hK 19 (by decide) (S.2.2.2.2 _ (List.mem_of_getElem? (i := 9) rfl)) rfl dX6_deliver_226 ?_
                                refine g_aload_n S dX6_deliver_229 rfl ?_
                                refine m_getf S hK 13 (by decide) (S.2.2.2.2 _ (List.mem_of_getElem? (i := 2) rfl)) rfl dX6_deliver_230 ?_
                                refine g_iload S dX6_deliver_233 rfl ?_
                                refine m_iast S hK (by decide) (by first | exact vin_lt hn.2.1 (by decide) c_120 | exact mSiloFor_in hn.1 c_135) dX6_deliver_235 ?_
                                refine g_aload_n S dX6_deliver_236 rfl ?_
                                refine g_dup S dX6_deliver_237 rfl ?_
                                refine m_getf S hK 13 (by decide) (S.2.2.2.2 _ (List.mem_of_getElem? (i := 2) rfl)) rfl dX6_deliver_238 ?_
                                refine g_iconst S (v := 1) dX6_deliver_241 (by decide) ?_
                                refine g_iadd S dX6_deliver_242 ?_
                                refine m_puts S hK 13 (by decide) (S.2.2.2.2 _ (List.mem_of_getElem? (i := 2) rfl)) dX6_deliver_243 ?_
                                refine g_aload_n S dX6_deliver_246 rfl ?_
                                refine m_getf S hK 9 (by decide) (S.2.2.2.2 _ (List.mem_of_getElem? (i := 10) rfl)) rfl dX6_deliver_247 ?_
                                refine g_iload S dX6_deliver_250 rfl ?_
                                refine g_dup2_11 S dX6_deliver_252 rfl rfl ?_
                                refine m_iald S hK (by decide) (by first | exact vin_lt hn.2.1 (by decide) c_120 | exact mSiloFor_in hn.1 c_135) dX6_deliver_253 ?_
                                refine g_iload S dX6_deliver_254 rfl ?_
                                refine g_iadd S dX6_deliver_256 ?_
                                refine m_iast S hK (by decide) (by first | exact vin_lt hn.2.1 (by decide) c_120 | exact mSiloFor_in hn.1 c_135) dX6_deliver_257 ?_
                                refine g_aload_n S dX6_deliver_258 rfl ?_
                                refine m_getf S hK 10 (by decide) (S.2.2.2.2 _ (List.mem_of_getElem? (i := 11) rfl)) rfl dX6_deliver_259 ?_
                                refine g_iload S dX6_deliver_262 rfl ?_
                                refine g_iload_n S dX6_deliver_264 rfl ?_
                                refine m_iast S hK (by decide) (by first | exact vin_lt hn.2.1 (by decide) c_120 | exact mSiloFor_in hn.1 c_135) dX6_deliver_265 ?_
                                refine g_aload_n S dX6_deliver_266 rfl ?_
                                refine m_getf S hK 11 (by decide) (S.2.2.2.2 _ (List.mem_of_getElem? (i := 12) rfl)) rfl dX6_deliver_267 ?_
                                refine g_iload S dX6_deliver_270 rfl ?_
                                refine g_iload S dX6_deliver_272 rfl ?_
                                refine m_iast S hK (by decide) (by first | exact vin_lt hn.2.1 (by decide) c_120 | exact mSiloFor_in hn.1 c_135) dX6_deliver_274 ?_
                                refine g_aload_n S dX6_deliver_275 rfl ?_
                                refine g_iload S dX6_deliver_276 rfl ?_
                                refine g_iload_n S dX6_deliver_278 rfl ?_
                                refine g_iload S dX6_deliver_279 rfl ?_
                                refine g_aload_n S dX6_deliver_281 rfl ?_
                                refine m_getf S hK 13 (by decide) (S.2.2.2.2 _ (List.mem_of_getElem? (i := 2) rfl)) rfl dX6_deliver_282 ?_
                                refine g_iconst S (v := 1) dX6_deliver_285 (by decide) ?_
                                refine g_isub S dX6_deliver_286 ?_
                                refine g_cVr S (c_make l D ty A mo ad _ _ _ _ _ (by exact vin_lt hn.2.2.1 (by decide) c_129) (by exact (vin_mono hc (by decide)))) (cwV 4 S.2.2.2.2 gX6_deliver_X6_make rfl rfl rfl (by decide +kernel) ⟨Nat.le_of_ble_eq_true rfl, Nat.le_of_ble_eq_true rfl⟩) hK hE (fun H h => h) (m_recv hK) rfl (Nat.le_of_ble_eq_true rfl) dX6_deliver_287 ⟨Nat.le_of_ble_eq_true rfl, Nat.le_of_ble_eq_true rfl⟩ ?_
                                exact g_iret S hlk hr (fun H h => (by simp (config := { decide := true }) only [gRet, mDeliver, c_4, c_11, c_22, c_35, c_67, c_79, c_120, c_129, c_135, if_true, if_false, reduceIte, Bool.false_eq_true, not_true_eq_false, not_false_eq_true, ite_not, true_and, and_true, Bool.and_self, Bool.and_true, Bool.true_and, Bool.and_false, Bool.false_and]; first | exact ⟨rfl, h⟩ | exact h)) (Nat.le_refl _) (Nat.le_refl _) dX6_deliver_290
                              · exact absurd c_168 (by decide)
                          · exact absurd c_148 (by decide)
            · refine g_iconst S (v := 0) dX6_deliver_70 (by decide) ?_
              refine g_goto S (tgt := 87) dX6_deliver_71 (by decide) ?_
              refine g_st (congrArg (fun z : Int32 => [Value.int z]) (mGrade_0 c_67)) ?_
              refine g_istore S dX6_deliver_87 (by decide) rfl ?_
              refine g_iload S dX6_deliver_89 rfl ?_
              refine g_if_eq S (tgt := 106) dX6_deliver_91 (by decide) (fun c_91 => ?_) (fun c_91 => ?_)
              · exact absurd c_91 (by decide)
              · refine g_aload_n S dX6_deliver_94 rfl ?_
                refine g_iload_n S dX6_deliver_95 rfl ?_
                refine g_iload S dX6_deliver_96 rfl ?_
                refine g_iload S dX6_deliver_98 rfl ?_
                refine g_cVr S (c_siloFor l D ty A mo ad _ _ _ _ (by exact hn.1)) (cwV 3 S.2.2.2.2 gX6_deliver_X6_siloFor rfl rfl rfl (by decide +kernel) ⟨Nat.le_of_ble_eq_true rfl, Nat.le_of_ble_eq_true rfl⟩) hK hE (fun H h => h) (m_recv hK) rfl (Nat.le_of_ble_eq_true rfl) dX6_deliver_100 ⟨Nat.le_of_ble_eq_true rfl, Nat.le_of_ble_eq_true rfl⟩ ?_
                refine g_goto S (tgt := 107) dX6_deliver_103 (by decide) ?_
                refine g_istore S dX6_deliver_107 (by decide) rfl ?_
                refine g_iload S dX6_deliver_109 rfl ?_
                refine g_if_eq S (tgt := 142) dX6_deliver_111 (by decide) (fun c_111 => ?_) (fun c_111 => ?_)
                · exact absurd c_111 (by decide)
                · refine g_aload_n S dX6_deliver_114 rfl ?_
                  refine m_getf S hK 13 (by decide) (S.2.2.2.2 _ (List.mem_of_getElem? (i := 2) rfl)) rfl dX6_deliver_115 ?_
                  refine g_bipush S (v := 40) dX6_deliver_118 (by decide) ?_
                  refine g_icmp_ge S (tgt := 142) dX6_deliver_120 (by decide) (fun c_120 => ?_) (fun c_120 => ?_)
                  · refine g_iconst S (v := 0) dX6_deliver_142 (by decide) ?_
                    refine g_istore S dX6_deliver_143 (by decide) rfl ?_
                    refine g_aload_n S dX6_deliver_145 rfl ?_
                    refine g_iload S dX6_deliver_146 rfl ?_
                    refine g_if_ne S (tgt := 155) dX6_deliver_148 (by decide) (fun c_148 => ?_) (fun c_148 => ?_)
                    · refine g_iload S dX6_deliver_155 rfl ?_
                      refine g_if_eq S (tgt := 164) dX6_deliver_157 (by decide) (fun c_157 => ?_) (fun c_157 => ?_)
                      · refine g_iconst S (v := 2) dX6_deliver_164 (by decide) ?_
                        refine g_cVr S (c_goesWell l D ty A mo ad _ _) (cwV 1 S.2.2.2.2 gX6_deliver_X6_goesWell rfl rfl rfl (by decide +kernel) ⟨Nat.le_of_ble_eq_true rfl, Nat.le_of_ble_eq_true rfl⟩) hK hE (fun H h => h) (m_recv hK) rfl (Nat.le_of_ble_eq_true rfl) dX6_deliver_165 ⟨Nat.le_of_ble_eq_true rfl, Nat.le_of_ble_eq_true rfl⟩ ?_
                        refine g_if_ne S (tgt := 173) dX6_deliver_168 (by decide) (fun c_168 => ?_) (fun c_168 => ?_)
                        · exact absurd c_168 (by decide)
                        · refine g_iconst S (v := 0) dX6_deliver_171 (by decide) ?_
                          exact g_iret S hlk hr (fun H h => (by simp (config := { decide := true }) only [gRet, mDeliver, c_4, c_11, c_22, c_35, c_67, c_120, if_true, if_false, reduceIte, Bool.false_eq_true, not_true_eq_false, not_false_eq_true, ite_not, true_and, and_true, Bool.and_self, Bool.and_true, Bool.true_and, Bool.and_false, Bool.false_and]; first | exact ⟨rfl, h⟩ | exact h)) (Nat.le_refl _) (Nat.le_refl _) dX6_deliver_172
                      · exact absurd c_157 (by decide)
                    · exact absurd c_148 (by decide)
                  · refine g_aload_n S dX6_deliver_123 rfl ?_
                    refine m_getf S hK 20 (by decide) (S.2.2.2.2 _ (List.mem_of_getElem? (i := 3) rfl)) rfl dX6_deliver_124 ?_
                    refine g_bipush S (v := 80) dX6_deliver_127 (by decide) ?_
                    refine g_icmp_ge S (tgt := 142) dX6_deliver_129 (by decide) (fun c_129 => ?_) (fun c_129 => ?_)
                    · refine g_iconst S (v := 0) dX6_deliver_142 (by decide) ?_
                      refine g_istore S dX6_deliver_143 (by decide) rfl ?_
                      refine g_aload_n S dX6_deliver_145 rfl ?_
                      refine g_iload S dX6_deliver_146 rfl ?_
                      refine g_if_ne S (tgt := 155) dX6_deliver_148 (by decide) (fun c_148 => ?_) (fun c_148 => ?_)
                      · refine g_iload S dX6_deliver_155 rfl ?_
                        refine g_if_eq S (tgt := 164) dX6_deliver_157 (by decide) (fun c_157 => ?_) (fun c_157 => ?_)
                        · refine g_iconst S (v := 2) dX6_deliver_164 (by decide) ?_
                          refine g_cVr S (c_goesWell l D ty A mo ad _ _) (cwV 1 S.2.2.2.2 gX6_deliver_X6_goesWell rfl rfl rfl (by decide +kernel) ⟨Nat.le_of_ble_eq_true rfl, Nat.le_of_ble_eq_true rfl⟩) hK hE (fun H h => h) (m_recv hK) rfl (Nat.le_of_ble_eq_true rfl) dX6_deliver_165 ⟨Nat.le_of_ble_eq_true rfl, Nat.le_of_ble_eq_true rfl⟩ ?_
                          refine g_if_ne S (tgt := 173) dX6_deliver_168 (by decide) (fun c_168 => ?_) (fun c_168 => ?_)
                          · exact absurd c_168 (by decide)
                          · refine g_iconst S (v := 0) dX6_deliver_171 (by decide) ?_
                            exact g_iret S hlk hr (fun H h => (by simp (config := { decide := true }) only [gRet, mDeliver, c_4, c_11, c_22, c_35, c_67, c_120, c_129, if_true, if_false, reduceIte, Bool.false_eq_true, not_true_eq_false, not_false_eq_true, ite_not, true_and, and_true, Bool.and_self, Bool.and_true, Bool.true_and, Bool.and_false, Bool.false_and]; first | exact ⟨rfl, h⟩ | exact h)) (Nat.le_refl _) (Nat.le_refl _) dX6_deliver_172
                        · exact absurd c_157 (by decide)
                      · exact absurd c_148 (by decide)
                    · refine g_iload S dX6_deliver_132 rfl ?_
                      refine g_iconst S (v := (-1)) dX6_deliver_134 (by decide) ?_
                      refine g_icmp_eq S (tgt := 142) dX6_deliver_135 (by decide) (fun c_135 => ?_) (fun c_135 => ?_)
                      · refine g_iconst S (v := 0) dX6_deliver_142 (by decide) ?_
                        refine g_istore S dX6_deliver_143 (by decide) rfl ?_
                        refine g_aload_n S dX6_deliver_145 rfl ?_
                        refine g_iload S dX6_deliver_146 rfl ?_
                        refine g_if_ne S (tgt := 155) dX6_deliver_148 (by decide) (fun c_148 => ?_) (fun c_148 => ?_)
                        · refine g_iload S dX6_deliver_155 rfl ?_
                          refine g_if_eq S (tgt := 164) dX6_deliver_157 (by decide) (fun c_157 => ?_) (fun c_157 => ?_)
                          · refine g_iconst S (v := 2) dX6_deliver_164 (by decide) ?_
                            refine g_cVr S (c_goesWell l D ty A mo ad _ _) (cwV 1 S.2.2.2.2 gX6_deliver_X6_goesWell rfl rfl rfl (by decide +kernel) ⟨Nat.le_of_ble_eq_true rfl, Nat.le_of_ble_eq_true rfl⟩) hK hE (fun H h => h) (m_recv hK) rfl (Nat.le_of_ble_eq_true rfl) dX6_deliver_165 ⟨Nat.le_of_ble_eq_true rfl, Nat.le_of_ble_eq_true rfl⟩ ?_
                            refine g_if_ne S (tgt := 173) dX6_deliver_168 (by decide) (fun c_168 => ?_) (fun c_168 => ?_)
                            · exact absurd c_168 (by decide)
                            · refine g_iconst S (v := 0) dX6_deliver_171 (by decide) ?_
                              exact g_iret S hlk hr (fun H h => (by simp (config := { decide := true }) only [gRet, mDeliver, c_4, c_11, c_22, c_35, c_67, c_120, c_129, c_135, if_true, if_false, reduceIte, Bool.false_eq_true, not_true_eq_false, not_false_eq_true, ite_not, true_and, and_true, Bool.and_self, Bool.and_true, Bool.true_and, Bool.and_false, Bool.false_and]; first | exact ⟨rfl, h⟩ | exact h)) (Nat.le_refl _) (Nat.le_refl _) dX6_deliver_172
                          · exact absurd c_157 (by decide)
                        · exact absurd c_148 (by decide)
                      · refine g_iconst S (v := 1) dX6_deliver_138 (by decide) ?_
                        refine g_goto S (tgt := 143) dX6_deliver_139 (by decide) ?_
                        refine g_istore S dX6_deliver_143 (by decide) rfl ?_
                        refine g_aload_n S dX6_deliver_145 rfl ?_
                        refine g_iload S dX6_deliver_146 rfl ?_
                        refine g_if_ne S (tgt := 155) dX6_deliver_148 (by decide) (fun c_148 => ?_) (fun c_148 => ?_)
                        · refine g_iload S dX6_deliver_155 rfl ?_
                          refine g_if_eq S (tgt := 164) dX6_deliver_157 (by decide) (fun c_157 => ?_) (fun c_157 => ?_)
                          · exact absurd c_157 (by decide)
                          · refine g_iconst S (v := 0) dX6_deliver_160 (by decide) ?_
                            refine g_goto S (tgt := 165) dX6_deliver_161 (by decide) ?_
                            refine g_cVr S (c_goesWell l D ty A mo ad _ _) (cwV 1 S.2.2.2.2 gX6_deliver_X6_goesWell rfl rfl rfl (by decide +kernel) ⟨Nat.le_of_ble_eq_true rfl, Nat.le_of_ble_eq_true rfl⟩) hK hE (fun H h => h) (m_recv hK) rfl (Nat.le_of_ble_eq_true rfl) dX6_deliver_165 ⟨Nat.le_of_ble_eq_true rfl, Nat.le_of_ble_eq_true rfl⟩ ?_
                            refine g_if_ne S (tgt := 173) dX6_deliver_168 (by decide) (fun c_168 => ?_) (fun c_168 => ?_)
                            · refine g_aload_n S dX6_deliver_173 rfl ?_
                              refine m_getf S hK 14 (by decide) (S.2.2.2.2 _ (List.mem_of_getElem? (i := 4) rfl)) rfl dX6_deliver_174 ?_
                              refine g_aload_n S dX6_deliver_177 rfl ?_
                              refine m_getf S hK 13 (by decide) (S.2.2.2.2 _ (List.mem_of_getElem? (i := 2) rfl)) rfl dX6_deliver_178 ?_
                              refine g_iload_n S dX6_deliver_181 rfl ?_
                              refine m_iast S hK (by decide) (by first | exact vin_lt hn.2.1 (by decide) c_120 | exact mSiloFor_in hn.1 c_135) dX6_deliver_182 ?_
                              refine g_aload_n S dX6_deliver_183 rfl ?_
                              refine m_getf S hK 15 (by decide) (S.2.2.2.2 _ (List.mem_of_getElem? (i := 5) rfl)) rfl dX6_deliver_184 ?_
                              refine g_aload_n S dX6_deliver_187 rfl ?_
                              refine m_getf S hK 13 (by decide) (S.2.2.2.2 _ (List.mem_of_getElem? (i := 2) rfl)) rfl dX6_deliver_188 ?_
                              refine g_iload_n S dX6_deliver_191 rfl ?_
                              refine m_iast S hK (by decide) (by first | exact vin_lt hn.2.1 (by decide) c_120 | exact mSiloFor_in hn.1 c_135) dX6_deliver_192 ?_
                              refine g_aload_n S dX6_deliver_193 rfl ?_
                              refine m_getf S hK 16 (by decide) (S.2.2.2.2 _ (List.mem_of_getElem? (i := 6) rfl)) rfl dX6_deliver_194 ?_
                              refine g_aload_n S dX6_deliver_197 rfl ?_
                              refine m_getf S hK 13 (by decide) (S.2.2.2.2 _ (List.mem_of_getElem? (i := 2) rfl)) rfl dX6_deliver_198 ?_
                              refine g_iload S dX6_deliver_201 rfl ?_
                              refine m_iast S hK (by decide) (by first | exact vin_lt hn.2.1 (by decide) c_120 | exact mSiloFor_in hn.1 c_135) dX6_deliver_203 ?_
                              refine g_aload_n S dX6_deliver_204 rfl ?_
                              refine m_getf S hK 17 (by decide) (S.2.2.2.2 _ (List.mem_of_getElem? (i := 7) rfl)) rfl dX6_deliver_205 ?_
                              refine g_aload_n S dX6_deliver_208 rfl ?_
                              refine m_getf S hK 13 (by decide) (S.2.2.2.2 _ (List.mem_of_getElem? (i := 2) rfl)) rfl dX6_deliver_209 ?_
                              refine g_iload_n S dX6_deliver_212 rfl ?_
                              refine m_iast S hK (by decide) (by first | exact vin_lt hn.2.1 (by decide) c_120 | exact mSiloFor_in hn.1 c_135) dX6_deliver_213 ?_
                              refine g_aload_n S dX6_deliver_214 rfl ?_
                              refine m_getf S hK 18 (by decide) (S.2.2.2.2 _ (List.mem_of_getElem? (i := 8) rfl)) rfl dX6_deliver_215 ?_
                              refine g_aload_n S dX6_deliver_218 rfl ?_
                              refine m_getf S hK 13 (by decide) (S.2.2.2.2 _ (List.mem_of_getElem? (i := 2) rfl)) rfl dX6_deliver_219 ?_
                              refine g_iload S dX6_deliver_222 rfl ?_
                              refine m_iast S hK (by decide) (by first | exact vin_lt hn.2.1 (by decide) c_120 | exact mSiloFor_in hn.1 c_135) dX6_deliver_224 ?_
                              refine g_aload_n S dX6_deliver_225 rfl ?_
                              refine m_getf S hK 19 (by decide) (S.2.2.2.2 _ (List.mem_of_getElem? (i := 9) rfl)) rfl dX6_deliver_226 ?_
                              refine g_aload_n S dX6_deliver_229 rfl ?_
                              refine m_getf S hK 13 (by decide) (S.2.2.2.2 _ (List.mem_of_getElem? (i := 2) rfl)) rfl dX6_deliver_230 ?_
                              refine g_iload S dX6_deliver_233 rfl ?_
                              refine m_iast S hK (by decide) (by first | exact vin_lt hn.2.1 (by decide) c_120 | exact mSiloFor_in hn.1 c_135) dX6_deliver_235 ?_
                              refine g_aload_n S dX6_deliver_236 rfl ?_
                              refine g_dup S dX6_deliver_237 rfl ?_
                              refine m_getf S hK 13 (by decide) (S.2.2.2.2 _ (List.mem_of_getElem? (i := 2) rfl)) rfl dX6_deliver_238 ?_
                              refine g_iconst S (v := 1) dX6_deliver_241 (by decide) ?_
                              refine g_iadd S dX6_deliver_242 ?_
                              refine m_puts S hK 13 (by decide) (S.2.2.2.2 _ (List.mem_of_getElem? (i := 2) rfl)) dX6_deliver_243 ?_
                              refine g_aload_n S dX6_deliver_246 rfl ?_
                              refine m_getf S hK 9 (by decide) (S.2.2.2.2 _ (List.mem_of_getElem? (i := 10) rfl)) rfl dX6_deliver_247 ?_
                              refine g_iload S dX6_deliver_250 rfl ?_
                              refine g_dup2_11 S dX6_deliver_252 rfl rfl ?_
                              refine m_iald S hK (by decide) (by first | exact vin_lt hn.2.1 (by decide) c_120 | exact mSiloFor_in hn.1 c_135) dX6_deliver_253 ?_
                              refine g_iload S dX6_deliver_254 rfl ?_
                              refine g_iadd S dX6_deliver_256 ?_
                              refine m_iast S hK (by decide) (by first | exact vin_lt hn.2.1 (by decide) c_120 | exact mSiloFor_in hn.1 c_135) dX6_deliver_257 ?_
                              refine g_aload_n S dX6_deliver_258 rfl ?_
                              refine m_getf S hK 10 (by decide) (S.2.2.2.2 _ (List.mem_of_getElem? (i := 11) rfl)) rfl dX6_deliver_259 ?_
                              refine g_iload S dX6_deliver_262 rfl ?_
                              refine g_iload_n S dX6_deliver_264 rfl ?_
                              refine m_iast S hK (by decide) (by first | exact vin_lt hn.2.1 (by decide) c_120 | exact mSiloFor_in hn.1 c_135) dX6_deliver_265 ?_
                              refine g_aload_n S dX6_deliver_266 rfl ?_
                              refine m_getf S hK 11 (by decide) (S.2.2.2.2 _ (List.mem_of_getElem? (i := 12) rfl)) rfl dX6_deliver_267 ?_
                              refine g_iload S dX6_deliver_270 rfl ?_
                              refine g_iload S dX6_deliver_272 rfl ?_
                              refine m_iast S hK (by decide) (by first | exact vin_lt hn.2.1 (by decide) c_120 | exact mSiloFor_in hn.1 c_135) dX6_deliver_274 ?_
                              refine g_aload_n S dX6_deliver_275 rfl ?_
                              refine g_iload S dX6_deliver_276 rfl ?_
                              refine g_iload_n S dX6_deliver_278 rfl ?_
                              refine g_iload S dX6_deliver_279 rfl ?_
                              refine g_aload_n S dX6_deliver_281 rfl ?_
                              refine m_getf S hK 13 (by decide) (S.2.2.2.2 _ (List.mem_of_getElem? (i := 2) rfl)) rfl dX6_deliver_282 ?_
                              refine g_iconst S (v := 1) dX6_deliver_285 (by decide) ?_
                              refine g_isub S dX6_deliver_286 ?_
                              refine g_cVr S (c_make l D ty A mo ad _ _ _ _ _ (by exact vin_lt hn.2.2.1 (by decide) c_129) (by exact (vin_mono hc (by decide)))) (cwV 4 S.2.2.2.2 gX6_deliver_X6_make rfl rfl rfl (by decide +kernel) ⟨Nat.le_of_ble_eq_true rfl, Nat.le_of_ble_eq_true rfl⟩) hK hE (fun H h => h) (m_recv hK) rfl (Nat.le_of_ble_eq_true rfl) dX6_deliver_287 ⟨Nat.le_of_ble_eq_true rfl, Nat.le_of_ble_eq_true rfl⟩ ?_
                              exact g_iret S hlk hr (fun H h => (by simp (config := { decide := true }) only [gRet, mDeliver, c_4, c_11, c_22, c_35, c_67, c_120, c_129, c_135, if_true, if_false, reduceIte, Bool.false_eq_true, not_true_eq_false, not_false_eq_true, ite_not, true_and, and_true, Bool.and_self, Bool.and_true, Bool.true_and, Bool.and_false, Bool.false_and]; first | exact ⟨rfl, h⟩ | exact h)) (Nat.le_refl _) (Nat.le_refl _) dX6_deliver_290
                            · exact absurd c_168 (by decide)
                        · exact absurd c_148 (by decide)

def mContractS (b : MS) (one other g r kg days cents : Int32) : MS :=
  let b := mX b 34 (gS b 33) one
  let b := mX b 35 (gS b 33) other
  let b := mX b 36 (gS b 33) g
  let b := mX b 37 (gS b 33) r
  let b := mX b 38 (gS b 33) kg
  let b := mX b 39 (gS b 33) (gS b 1 + days)
  let b := mX b 40 (gS b 33) cents
  mS b 33 (gS b 33 + 1)
def mContract (a : MS) (one other g r kg days cents : Int32) : Int32 × MS :=
  if (mIn one 0 5 && (mIn other 0 5 && (decide (¬ one = other) && (mIn g 0 2 && (mIn r 0 2 && (mIn kg 1 100000 && (mIn days 1 100 && mIn cents 0 1000))))))) = true then
    if ¬ gS a 33 = 30 then (gS (mContractS (mS a 0 0) one other g r kg days cents) 33 - 1, mContractS (mS a 0 0) one other g r kg days cents) else (0, mS a 0 2)
  else (0, mS a 0 1)
abbrev rmX6_contract : Room := { frames := 2, cells := 0, slots := 0, locals := 42 }
set_option maxHeartbeats 4000000 in
set_option maxRecDepth 100000 in
theorem c_mcontract (l : Launch) (D : va_G) (ty : Nat → ClassId) (A : Nat → Prop) (mo : Nat) (ad : Nat → Nat) (a : MS) (one other g r kg days cents : Int32) (hw : mWf a) (hn : mCnt a) (hc : vp_in (gS a 29) 5900) : Met l yX6_contract wsX6_contract rmX6_contract (gPc D ty false [] 0 A [.ref mo, .int one, .int other, .int g, .int r, .int kg, .int days, .int cents] (hM D ty A mo ad a)) (gQ A (gRet (some (.int (mContract a one other g r kg days cents).1)) (hM D ty A mo ad (mContract a one other g r kg days cents).2))) 0 0 A := by
  refine g_Met (cc := cX6_contract) (maxL := 9) (ret := (some .int)) [some (.ref mo), some (.int one), some (.int other), some (.int g), some (.int r), some (.int kg), some (.int days), some (.int cents), none] (by decide) rfl (Nat.le_of_ble_eq_true rfl) rfl ?_
  intro p e s m args below meth c S hlk hr hnm hK hE hP0
  have S : CallFix p m c cX6_contract 9 s args wsX6_contract RX6 := S
  refine g_iload_n S dX6_contract_0 rfl ?_
  refine g_cSr S (c_isHolder l D ty A _ _) (va_cwS 1 S.2.2.2.2 gX6_contract_X6_isHolder rfl rfl rfl (by decide +kernel) ⟨Nat.le_of_ble_eq_true rfl, Nat.le_of_ble_eq_true rfl⟩) hK hE (fun H h => h) rfl (Nat.le_of_ble_eq_true rfl) dX6_contract_1 ⟨Nat.le_of_ble_eq_true rfl, Nat.le_of_ble_eq_true rfl⟩ ?_
  refine g_ifb_eq S (tgt := 38) dX6_contract_4 (by decide) (fun c_4 => ?_) (fun c_4 => ?_)
  · refine g_iconst S (v := 0) dX6_contract_38 (by decide) ?_
    refine g_istore S dX6_contract_39 (by decide) rfl ?_
    refine g_iload S dX6_contract_41 rfl ?_
    refine g_if_eq S (tgt := 84) dX6_contract_43 (by decide) (fun c_43 => ?_) (fun c_43 => ?_)
    · refine g_iconst S (v := 0) dX6_contract_84 (by decide) ?_
      refine g_istore S dX6_contract_85 (by decide) rfl ?_
      refine g_aload_n S dX6_contract_87 rfl ?_
      refine g_iload S dX6_contract_88 rfl ?_
      refine g_if_ne S (tgt := 97) dX6_contract_90 (by decide) (fun c_90 => ?_) (fun c_90 => ?_)
      · exact absurd c_90 (by decide)
      · refine g_iconst S (v := 1) dX6_contract_93 (by decide) ?_
        refine g_goto S (tgt := 111) dX6_contract_94 (by decide) ?_
        refine g_cVr S (c_goesWell l D ty A mo ad _ _) (cwV 1 S.2.2.2.2 gX6_contract_X6_goesWell rfl rfl rfl (by decide +kernel) ⟨Nat.le_of_ble_eq_true rfl, Nat.le_of_ble_eq_true rfl⟩) hK hE (fun H h => h) (m_recv hK) rfl (Nat.le_of_ble_eq_true rfl) dX6_contract_111 ⟨Nat.le_of_ble_eq_true rfl, Nat.le_of_ble_eq_true rfl⟩ ?_
        refine g_if_ne S (tgt := 119) dX6_contract_114 (by decide) (fun c_114 => ?_) (fun c_114 => ?_)
        · exact absurd c_114 (by decide)
        · refine g_iconst S (v := 0) dX6_contract_117 (by decide) ?_
          exact g_iret S hlk hr (fun H h => (by simp (config := { decide := true }) only [gRet, mContract, c_4, if_true, if_false, reduceIte, Bool.false_eq_true, not_true_eq_false, not_false_eq_true, ite_not, true_and, and_true, Bool.and_self, Bool.and_true, Bool.true_and, Bool.and_false, Bool.false_and, decide_true, decide_false, eq_self_iff_true]; first | exact ⟨rfl, h⟩ | exact h)) (Nat.le_refl _) (Nat.le_refl _) dX6_contract_118
    · exact absurd c_43 (by decide)
  · refine g_iload_n S dX6_contract_7 rfl ?_
    refine g_cSr S (c_isHolder l D ty A _ _) (va_cwS 1 S.2.2.2.2 gX6_contract_X6_isHolder rfl rfl rfl (by decide +kernel) ⟨Nat.le_of_ble_eq_true rfl, Nat.le_of_ble_eq_true rfl⟩) hK hE (fun H h => h) rfl (Nat.le_of_ble_eq_true rfl) dX6_contract_8 ⟨Nat.le_of_ble_eq_true rfl, Nat.le_of_ble_eq_true rfl⟩ ?_
    refine g_ifb_eq S (tgt := 38) dX6_contract_11 (by decide) (fun c_11 => ?_) (fun c_11 => ?_)
    · refine g_iconst S (v := 0) dX6_contract_38 (by decide) ?_
      refine g_istore S dX6_contract_39 (by decide) rfl ?_
      refine g_iload S dX6_contract_41 rfl ?_
      refine g_if_eq S (tgt := 84) dX6_contract_43 (by decide) (fun c_43 => ?_) (fun c_43 => ?_)
      · refine g_iconst S (v := 0) dX6_contract_84 (by decide) ?_
        refine g_istore S dX6_contract_85 (by decide) rfl ?_
        refine g_aload_n S dX6_contract_87 rfl ?_
        refine g_iload S dX6_contract_88 rfl ?_
        refine g_if_ne S (tgt := 97) dX6_contract_90 (by decide) (fun c_90 => ?_) (fun c_90 => ?_)
        · exact absurd c_90 (by decide)
        · refine g_iconst S (v := 1) dX6_contract_93 (by decide) ?_
          refine g_goto S (tgt := 111) dX6_contract_94 (by decide) ?_
          refine g_cVr S (c_goesWell l D ty A mo ad _ _) (cwV 1 S.2.2.2.2 gX6_contract_X6_goesWell rfl rfl rfl (by decide +kernel) ⟨Nat.le_of_ble_eq_true rfl, Nat.le_of_ble_eq_true rfl⟩) hK hE (fun H h => h) (m_recv hK) rfl (Nat.le_of_ble_eq_true rfl) dX6_contract_111 ⟨Nat.le_of_ble_eq_true rfl, Nat.le_of_ble_eq_true rfl⟩ ?_
          refine g_if_ne S (tgt := 119) dX6_contract_114 (by decide) (fun c_114 => ?_) (fun c_114 => ?_)
          · exact absurd c_114 (by decide)
          · refine g_iconst S (v := 0) dX6_contract_117 (by decide) ?_
            exact g_iret S hlk hr (fun H h => (by simp (config := { decide := true }) only [gRet, mContract, c_4, c_11, if_true, if_false, reduceIte, Bool.false_eq_true, not_true_eq_false, not_false_eq_true, ite_not, true_and, and_true, Bool.and_self, Bool.and_true, Bool.true_and, Bool.and_false, Bool.false_and, decide_true, decide_false, eq_self_iff_true]; first | exact ⟨rfl, h⟩ | exact h)) (Nat.le_refl _) (Nat.le_refl _) dX6_contract_118
      · exact absurd c_43 (by decide)
    · refine g_iload_n S dX6_contract_14 rfl ?_
      refine g_iload_n S dX6_contract_15 rfl ?_
      refine g_icmp_eq S (tgt := 38) dX6_contract_16 (by decide) (fun c_16 => ?_) (fun c_16 => ?_)
      · refine g_iconst S (v := 0) dX6_contract_38 (by decide) ?_
        refine g_istore S dX6_contract_39 (by decide) rfl ?_
        refine g_iload S dX6_contract_41 rfl ?_
        refine g_if_eq S (tgt := 84) dX6_contract_43 (by decide) (fun c_43 => ?_) (fun c_43 => ?_)
        · refine g_iconst S (v := 0) dX6_contract_84 (by decide) ?_
          refine g_istore S dX6_contract_85 (by decide) rfl ?_
          refine g_aload_n S dX6_contract_87 rfl ?_
          refine g_iload S dX6_contract_88 rfl ?_
          refine g_if_ne S (tgt := 97) dX6_contract_90 (by decide) (fun c_90 => ?_) (fun c_90 => ?_)
          · exact absurd c_90 (by decide)
          · refine g_iconst S (v := 1) dX6_contract_93 (by decide) ?_
            refine g_goto S (tgt := 111) dX6_contract_94 (by decide) ?_
            refine g_cVr S (c_goesWell l D ty A mo ad _ _) (cwV 1 S.2.2.2.2 gX6_contract_X6_goesWell rfl rfl rfl (by decide +kernel) ⟨Nat.le_of_ble_eq_true rfl, Nat.le_of_ble_eq_true rfl⟩) hK hE (fun H h => h) (m_recv hK) rfl (Nat.le_of_ble_eq_true rfl) dX6_contract_111 ⟨Nat.le_of_ble_eq_true rfl, Nat.le_of_ble_eq_true rfl⟩ ?_
            refine g_if_ne S (tgt := 119) dX6_contract_114 (by decide) (fun c_114 => ?_) (fun c_114 => ?_)
            · exact absurd c_114 (by decide)
            · refine g_iconst S (v := 0) dX6_contract_117 (by decide) ?_
              exact g_iret S hlk hr (fun H h => (by simp (config := { decide := true }) only [gRet, mContract, c_4, c_11, c_16, if_true, if_false, reduceIte, Bool.false_eq_true, not_true_eq_false, not_false_eq_true, ite_not, true_and, and_true, Bool.and_self, Bool.and_true, Bool.true_and, Bool.and_false, Bool.false_and, decide_true, decide_false, eq_self_iff_true]; first | exact ⟨rfl, h⟩ | exact h)) (Nat.le_refl _) (Nat.le_refl _) dX6_contract_118
        · exact absurd c_43 (by decide)
      · refine g_iload_n S dX6_contract_19 rfl ?_
        refine g_cSr S (c_isKind l D ty A _ _) (va_cwS 1 S.2.2.2.2 gX6_contract_X6_isKind rfl rfl rfl (by decide +kernel) ⟨Nat.le_of_ble_eq_true rfl, Nat.le_of_ble_eq_true rfl⟩) hK hE (fun H h => h) rfl (Nat.le_of_ble_eq_true rfl) dX6_contract_20 ⟨Nat.le_of_ble_eq_true rfl, Nat.le_of_ble_eq_true rfl⟩ ?_
        refine g_ifb_eq S (tgt := 38) dX6_contract_23 (by decide) (fun c_23 => ?_) (fun c_23 => ?_)
        · refine g_iconst S (v := 0) dX6_contract_38 (by decide) ?_
          refine g_istore S dX6_contract_39 (by decide) rfl ?_
          refine g_iload S dX6_contract_41 rfl ?_
          refine g_if_eq S (tgt := 84) dX6_contract_43 (by decide) (fun c_43 => ?_) (fun c_43 => ?_)
          · refine g_iconst S (v := 0) dX6_contract_84 (by decide) ?_
            refine g_istore S dX6_contract_85 (by decide) rfl ?_
            refine g_aload_n S dX6_contract_87 rfl ?_
            refine g_iload S dX6_contract_88 rfl ?_
            refine g_if_ne S (tgt := 97) dX6_contract_90 (by decide) (fun c_90 => ?_) (fun c_90 => ?_)
            · exact absurd c_90 (by decide)
            · refine g_iconst S (v := 1) dX6_contract_93 (by decide) ?_
              refine g_goto S (tgt := 111) dX6_contract_94 (by decide) ?_
              refine g_cVr S (c_goesWell l D ty A mo ad _ _) (cwV 1 S.2.2.2.2 gX6_contract_X6_goesWell rfl rfl rfl (by decide +kernel) ⟨Nat.le_of_ble_eq_true rfl, Nat.le_of_ble_eq_true rfl⟩) hK hE (fun H h => h) (m_recv hK) rfl (Nat.le_of_ble_eq_true rfl) dX6_contract_111 ⟨Nat.le_of_ble_eq_true rfl, Nat.le_of_ble_eq_true rfl⟩ ?_
              refine g_if_ne S (tgt := 119) dX6_contract_114 (by decide) (fun c_114 => ?_) (fun c_114 => ?_)
              · exact absurd c_114 (by decide)
              · refine g_iconst S (v := 0) dX6_contract_117 (by decide) ?_
                exact g_iret S hlk hr (fun H h => (by simp (config := { decide := true }) only [gRet, mContract, c_4, c_11, c_16, c_23, if_true, if_false, reduceIte, Bool.false_eq_true, not_true_eq_false, not_false_eq_true, ite_not, true_and, and_true, Bool.and_self, Bool.and_true, Bool.true_and, Bool.and_false, Bool.false_and, decide_true, decide_false, eq_self_iff_true]; first | exact ⟨rfl, h⟩ | exact h)) (Nat.le_refl _) (Nat.le_refl _) dX6_contract_118
          · exact absurd c_43 (by decide)
        · refine g_iload S dX6_contract_26 rfl ?_
          refine g_cSr S (c_isKind l D ty A _ _) (va_cwS 1 S.2.2.2.2 gX6_contract_X6_isKind rfl rfl rfl (by decide +kernel) ⟨Nat.le_of_ble_eq_true rfl, Nat.le_of_ble_eq_true rfl⟩) hK hE (fun H h => h) rfl (Nat.le_of_ble_eq_true rfl) dX6_contract_28 ⟨Nat.le_of_ble_eq_true rfl, Nat.le_of_ble_eq_true rfl⟩ ?_
          refine g_ifb_eq S (tgt := 38) dX6_contract_31 (by decide) (fun c_31 => ?_) (fun c_31 => ?_)
          · refine g_iconst S (v := 0) dX6_contract_38 (by decide) ?_
            refine g_istore S dX6_contract_39 (by decide) rfl ?_
            refine g_iload S dX6_contract_41 rfl ?_
            refine g_if_eq S (tgt := 84) dX6_contract_43 (by decide) (fun c_43 => ?_) (fun c_43 => ?_)
            · refine g_iconst S (v := 0) dX6_contract_84 (by decide) ?_
              refine g_istore S dX6_contract_85 (by decide) rfl ?_
              refine g_aload_n S dX6_contract_87 rfl ?_
              refine g_iload S dX6_contract_88 rfl ?_
              refine g_if_ne S (tgt := 97) dX6_contract_90 (by decide) (fun c_90 => ?_) (fun c_90 => ?_)
              · exact absurd c_90 (by decide)
              · refine g_iconst S (v := 1) dX6_contract_93 (by decide) ?_
                refine g_goto S (tgt := 111) dX6_contract_94 (by decide) ?_
                refine g_cVr S (c_goesWell l D ty A mo ad _ _) (cwV 1 S.2.2.2.2 gX6_contract_X6_goesWell rfl rfl rfl (by decide +kernel) ⟨Nat.le_of_ble_eq_true rfl, Nat.le_of_ble_eq_true rfl⟩) hK hE (fun H h => h) (m_recv hK) rfl (Nat.le_of_ble_eq_true rfl) dX6_contract_111 ⟨Nat.le_of_ble_eq_true rfl, Nat.le_of_ble_eq_true rfl⟩ ?_
                refine g_if_ne S (tgt := 119) dX6_contract_114 (by decide) (fun c_114 => ?_) (fun c_114 => ?_)
                · exact absurd c_114 (by decide)
                · refine g_iconst S (v := 0) dX6_contract_117 (by decide) ?_
                  exact g_iret S hlk hr (fun H h => (by simp (config := { decide := true }) only [gRet, mContract, c_4, c_11, c_16, c_23, c_31, if_true, if_false, reduceIte, Bool.false_eq_true, not_true_eq_false, not_false_eq_true, ite_not, true_and, and_true, Bool.and_self, Bool.and_true, Bool.true_and, Bool.and_false, Bool.false_and, decide_true, decide_false, eq_self_iff_true]; first | exact ⟨rfl, h⟩ | exact h)) (Nat.le_refl _) (Nat.le_refl _) dX6_contract_118
            · exact absurd c_43 (by decide)
          · refine g_iconst S (v := 1) dX6_contract_34 (by decide) ?_
            refine g_goto S (tgt := 39) dX6_contract_35 (by decide) ?_
            refine g_istore S dX6_contract_39 (by decide) rfl ?_
            refine g_iload S dX6_contract_41 rfl ?_
            refine g_if_eq S (tgt := 84) dX6_contract_43 (by decide) (fun c_43 => ?_) (fun c_43 => ?_)
            · exact absurd c_43 (by decide)
            · refine g_iload S dX6_contract_46 rfl ?_
              refine g_iconst S (v := 1) dX6_contract_48 (by decide) ?_
              refine g_ldc S (S.2.2.2.2 _ (List.mem_of_getElem? (i := 1) rfl)) dX6_contract_49 ?_
              refine g_cSr S (c_in l D ty A _ _ _ _) (va_cwS 3 S.2.2.2.2 gX6_contract_X6_in rfl rfl rfl (by decide +kernel) ⟨Nat.le_of_ble_eq_true rfl, Nat.le_of_ble_eq_true rfl⟩) hK hE (fun H h => h) rfl (Nat.le_of_ble_eq_true rfl) dX6_contract_51 ⟨Nat.le_of_ble_eq_true rfl, Nat.le_of_ble_eq_true rfl⟩ ?_
              refine g_ifb_eq S (tgt := 84) dX6_contract_54 (by decide) (fun c_54 => ?_) (fun c_54 => ?_)
              · refine g_iconst S (v := 0) dX6_contract_84 (by decide) ?_
                refine g_istore S dX6_contract_85 (by decide) rfl ?_
                refine g_aload_n S dX6_contract_87 rfl ?_
                refine g_iload S dX6_contract_88 rfl ?_
                refine g_if_ne S (tgt := 97) dX6_contract_90 (by decide) (fun c_90 => ?_) (fun c_90 => ?_)
                · exact absurd c_90 (by decide)
                · refine g_iconst S (v := 1) dX6_contract_93 (by decide) ?_
                  refine g_goto S (tgt := 111) dX6_contract_94 (by decide) ?_
                  refine g_cVr S (c_goesWell l D ty A mo ad _ _) (cwV 1 S.2.2.2.2 gX6_contract_X6_goesWell rfl rfl rfl (by decide +kernel) ⟨Nat.le_of_ble_eq_true rfl, Nat.le_of_ble_eq_true rfl⟩) hK hE (fun H h => h) (m_recv hK) rfl (Nat.le_of_ble_eq_true rfl) dX6_contract_111 ⟨Nat.le_of_ble_eq_true rfl, Nat.le_of_ble_eq_true rfl⟩ ?_
                  refine g_if_ne S (tgt := 119) dX6_contract_114 (by decide) (fun c_114 => ?_) (fun c_114 => ?_)
                  · exact absurd c_114 (by decide)
                  · refine g_iconst S (v := 0) dX6_contract_117 (by decide) ?_
                    exact g_iret S hlk hr (fun H h => (by simp (config := { decide := true }) only [gRet, mContract, c_4, c_11, c_16, c_23, c_31, c_54, if_true, if_false, reduceIte, Bool.false_eq_true, not_true_eq_false, not_false_eq_true, ite_not, true_and, and_true, Bool.and_self, Bool.and_true, Bool.true_and, Bool.and_false, Bool.false_and, decide_true, decide_false, eq_self_iff_true]; first | exact ⟨rfl, h⟩ | exact h)) (Nat.le_refl _) (Nat.le_refl _) dX6_contract_118
              · refine g_iload S dX6_contract_57 rfl ?_
                refine g_iconst S (v := 1) dX6_contract_59 (by decide) ?_
                refine g_bipush S (v := 100) dX6_contract_60 (by decide) ?_
                refine g_cSr S (c_in l D ty A _ _ _ _) (va_cwS 3 S.2.2.2.2 gX6_contract_X6_in rfl rfl rfl (by decide +kernel) ⟨Nat.le_of_ble_eq_true rfl, Nat.le_of_ble_eq_true rfl⟩) hK hE (fun H h => h) rfl (Nat.le_of_ble_eq_true rfl) dX6_contract_62 ⟨Nat.le_of_ble_eq_true rfl, Nat.le_of_ble_eq_true rfl⟩ ?_
                refine g_ifb_eq S (tgt := 84) dX6_contract_65 (by decide) (fun c_65 => ?_) (fun c_65 => ?_)
                · refine g_iconst S (v := 0) dX6_contract_84 (by decide) ?_
                  refine g_istore S dX6_contract_85 (by decide) rfl ?_
                  refine g_aload_n S dX6_contract_87 rfl ?_
                  refine g_iload S dX6_contract_88 rfl ?_
                  refine g_if_ne S (tgt := 97) dX6_contract_90 (by decide) (fun c_90 => ?_) (fun c_90 => ?_)
                  · exact absurd c_90 (by decide)
                  · refine g_iconst S (v := 1) dX6_contract_93 (by decide) ?_
                    refine g_goto S (tgt := 111) dX6_contract_94 (by decide) ?_
                    refine g_cVr S (c_goesWell l D ty A mo ad _ _) (cwV 1 S.2.2.2.2 gX6_contract_X6_goesWell rfl rfl rfl (by decide +kernel) ⟨Nat.le_of_ble_eq_true rfl, Nat.le_of_ble_eq_true rfl⟩) hK hE (fun H h => h) (m_recv hK) rfl (Nat.le_of_ble_eq_true rfl) dX6_contract_111 ⟨Nat.le_of_ble_eq_true rfl, Nat.le_of_ble_eq_true rfl⟩ ?_
                    refine g_if_ne S (tgt := 119) dX6_contract_114 (by decide) (fun c_114 => ?_) (fun c_114 => ?_)
                    · exact absurd c_114 (by decide)
                    · refine g_iconst S (v := 0) dX6_contract_117 (by decide) ?_
                      exact g_iret S hlk hr (fun H h => (by simp (config := { decide := true }) only [gRet, mContract, c_4, c_11, c_16, c_23, c_31, c_54, c_65, if_true, if_false, reduceIte, Bool.false_eq_true, not_true_eq_false, not_false_eq_true, ite_not, true_and, and_true, Bool.and_self, Bool.and_true, Bool.true_and, Bool.and_false, Bool.false_and, decide_true, decide_false, eq_self_iff_true]; first | exact ⟨rfl, h⟩ | exact h)) (Nat.le_refl _) (Nat.le_refl _) dX6_contract_118
                · refine g_iload S dX6_contract_68 rfl ?_
                  refine g_iconst S (v := 0) dX6_contract_70 (by decide) ?_
                  refine g_sipush S (v := 1000) dX6_contract_71 (by decide) ?_
                  refine g_cSr S (c_in l D ty A _ _ _ _) (va_cwS 3 S.2.2.2.2 gX6_contract_X6_in rfl rfl rfl (by decide +kernel) ⟨Nat.le_of_ble_eq_true rfl, Nat.le_of_ble_eq_true rfl⟩) hK hE (fun H h => h) rfl (Nat.le_of_ble_eq_true rfl) dX6_contract_74 ⟨Nat.le_of_ble_eq_true rfl, Nat.le_of_ble_eq_true rfl⟩ ?_
                  refine g_ifb_eq S (tgt := 84) dX6_contract_77 (by decide) (fun c_77 => ?_) (fun c_77 => ?_)
                  · refine g_iconst S (v := 0) dX6_contract_84 (by decide) ?_
                    refine g_istore S dX6_contract_85 (by decide) rfl ?_
                    refine g_aload_n S dX6_contract_87 rfl ?_
                    refine g_iload S dX6_contract_88 rfl ?_
                    refine g_if_ne S (tgt := 97) dX6_contract_90 (by decide) (fun c_90 => ?_) (fun c_90 => ?_)
                    · exact absurd c_90 (by decide)
                    · refine g_iconst S (v := 1) dX6_contract_93 (by decide) ?_
                      refine g_goto S (tgt := 111) dX6_contract_94 (by decide) ?_
                      refine g_cVr S (c_goesWell l D ty A mo ad _ _) (cwV 1 S.2.2.2.2 gX6_contract_X6_goesWell rfl rfl rfl (by decide +kernel) ⟨Nat.le_of_ble_eq_true rfl, Nat.le_of_ble_eq_true rfl⟩) hK hE (fun H h => h) (m_recv hK) rfl (Nat.le_of_ble_eq_true rfl) dX6_contract_111 ⟨Nat.le_of_ble_eq_true rfl, Nat.le_of_ble_eq_true rfl⟩ ?_
                      refine g_if_ne S (tgt := 119) dX6_contract_114 (by decide) (fun c_114 => ?_) (fun c_114 => ?_)
                      · exact absurd c_114 (by decide)
                      · refine g_iconst S (v := 0) dX6_contract_117 (by decide) ?_
                        exact g_iret S hlk hr (fun H h => (by simp (config := { decide := true }) only [gRet, mContract, c_4, c_11, c_16, c_23, c_31, c_54, c_65, c_77, if_true, if_false, reduceIte, Bool.false_eq_true, not_true_eq_false, not_false_eq_true, ite_not, true_and, and_true, Bool.and_self, Bool.and_true, Bool.true_and, Bool.and_false, Bool.false_and, decide_true, decide_false, eq_self_iff_true]; first | exact ⟨rfl, h⟩ | exact h)) (Nat.le_refl _) (Nat.le_refl _) dX6_contract_118
                  · refine g_iconst S (v := 1) dX6_contract_80 (by decide) ?_
                    refine g_goto S (tgt := 85) dX6_contract_81 (by decide) ?_
                    refine g_istore S dX6_contract_85 (by decide) rfl ?_
                    refine g_aload_n S dX6_contract_87 rfl ?_
                    refine g_iload S dX6_contract_88 rfl ?_
                    refine g_if_ne S (tgt := 97) dX6_contract_90 (by decide) (fun c_90 => ?_) (fun c_90 => ?_)
                    · refine g_aload_n S dX6_contract_97 rfl ?_
                      refine m_getf S hK 33 (by decide) (S.2.2.2.2 _ (List.mem_of_getElem? (i := 2) rfl)) rfl dX6_contract_98 ?_
                      refine g_bipush S (v := 30) dX6_contract_101 (by decide) ?_
                      refine g_icmp_ne S (tgt := 110) dX6_contract_103 (by decide) (fun c_103 => ?_) (fun c_103 => ?_)
                      · refine g_iconst S (v := 0) dX6_contract_110 (by decide) ?_
                        refine g_cVr S (c_goesWell l D ty A mo ad _ _) (cwV 1 S.2.2.2.2 gX6_contract_X6_goesWell rfl rfl rfl (by decide +kernel) ⟨Nat.le_of_ble_eq_true rfl, Nat.le_of_ble_eq_true rfl⟩) hK hE (fun H h => h) (m_recv hK) rfl (Nat.le_of_ble_eq_true rfl) dX6_contract_111 ⟨Nat.le_of_ble_eq_true rfl, Nat.le_of_ble_eq_true rfl⟩ ?_
                        refine g_if_ne S (tgt := 119) dX6_contract_114 (by decide) (fun c_114 => ?_) (fun c_114 => ?_)
                        · refine g_aload_n S dX6_contract_119 rfl ?_
                          refine m_getf S hK 34 (by decide) (S.2.2.2.2 _ (List.mem_of_getElem? (i := 3) rfl)) rfl dX6_contract_120 ?_
                          refine g_aload_n S dX6_contract_123 rfl ?_
                          refine m_getf S hK 33 (by decide) (S.2.2.2.2 _ (List.mem_of_getElem? (i := 2) rfl)) rfl dX6_contract_124 ?_
                          refine g_iload_n S dX6_contract_127 rfl ?_
                          refine m_iast S hK (by decide) (by exact vin_ne hn.2.2.2 (by decide) c_103) dX6_contract_128 ?_
                          refine g_aload_n S dX6_contract_129 rfl ?_
                          refine m_getf S hK 35 (by decide) (S.2.2.2.2 _ (List.mem_of_getElem? (i := 4) rfl)) rfl dX6_contract_130 ?_
                          refine g_aload_n S dX6_contract_133 rfl ?_
                          refine m_getf S hK 33 (by decide) (S.2.2.2.2 _ (List.mem_of_getElem? (i := 2) rfl)) rfl dX6_contract_134 ?_
                          refine g_iload_n S dX6_contract_137 rfl ?_
                          refine m_iast S hK (by decide) (by exact vin_ne hn.2.2.2 (by decide) c_103) dX6_contract_138 ?_
                          refine g_aload_n S dX6_contract_139 rfl ?_
                          refine m_getf S hK 36 (by decide) (S.2.2.2.2 _ (List.mem_of_getElem? (i := 5) rfl)) rfl dX6_contract_140 ?_
                          refine g_aload_n S dX6_contract_143 rfl ?_
                          refine m_getf S hK 33 (by decide) (S.2.2.2.2 _ (List.mem_of_getElem? (i := 2) rfl)) rfl dX6_contract_144 ?_
                          refine g_iload_n S dX6_contract_147 rfl ?_
                          refine m_iast S hK (by decide) (by exact vin_ne hn.2.2.2 (by decide) c_103) dX6_contract_148 ?_
                          refine g_aload_n S dX6_contract_149 rfl ?_
                          refine m_getf S hK 37 (by decide) (S.2.2.2.2 _ (List.mem_of_getElem? (i := 6) rfl)) rfl dX6_contract_150 ?_
                          refine g_aload_n S dX6_contract_153 rfl ?_
                          refine m_getf S hK 33 (by decide) (S.2.2.2.2 _ (List.mem_of_getElem? (i := 2) rfl)) rfl dX6_contract_154 ?_
                          refine g_iload S dX6_contract_157 rfl ?_
                          refine m_iast S hK (by decide) (by exact vin_ne hn.2.2.2 (by decide) c_103) dX6_contract_159 ?_
                          refine g_aload_n S dX6_contract_160 rfl ?_
                          refine m_getf S hK 38 (by decide) (S.2.2.2.2 _ (List.mem_of_getElem? (i := 7) rfl)) rfl dX6_contract_161 ?_
                          refine g_aload_n S dX6_contract_164 rfl ?_
                          refine m_getf S hK 33 (by decide) (S.2.2.2.2 _ (List.mem_of_getElem? (i := 2) rfl)) rfl dX6_contract_165 ?_
                          refine g_iload S dX6_contract_168 rfl ?_
                          refine m_iast S hK (by decide) (by exact vin_ne hn.2.2.2 (by decide) c_103) dX6_contract_170 ?_
                          refine g_aload_n S dX6_contract_171 rfl ?_
                          refine m_getf S hK 39 (by decide) (S.2.2.2.2 _ (List.mem_of_getElem? (i := 8) rfl)) rfl dX6_contract_172 ?_
                          refine g_aload_n S dX6_contract_175 rfl ?_
                          refine m_getf S hK 33 (by decide) (S.2.2.2.2 _ (List.mem_of_getElem? (i := 2) rfl)) rfl dX6_contract_176 ?_
                          refine g_aload_n S dX6_contract_179 rfl ?_
                          refine m_getf S hK 1 (by decide) (S.2.2.2.2 _ (List.mem_of_getElem? (i := 9) rfl)) rfl dX6_contract_180 ?_
                          refine g_iload S dX6_contract_183 rfl ?_
                          refine g_iadd S dX6_contract_185 ?_
                          refine m_iast S hK (by decide) (by exact vin_ne hn.2.2.2 (by decide) c_103) dX6_contract_186 ?_
                          refine g_aload_n S dX6_contract_187 rfl ?_
                          refine m_getf S hK 40 (by decide) (S.2.2.2.2 _ (List.mem_of_getElem? (i := 10) rfl)) rfl dX6_contract_188 ?_
                          refine g_aload_n S dX6_contract_191 rfl ?_
                          refine m_getf S hK 33 (by decide) (S.2.2.2.2 _ (List.mem_of_getElem? (i := 2) rfl)) rfl dX6_contract_192 ?_
                          refine g_iload S dX6_contract_195 rfl ?_
                          refine m_iast S hK (by decide) (by exact vin_ne hn.2.2.2 (by decide) c_103) dX6_contract_197 ?_
                          refine g_aload_n S dX6_contract_198 rfl ?_
                          refine g_dup S dX6_contract_199 rfl ?_
                          refine m_getf S hK 33 (by decide) (S.2.2.2.2 _ (List.mem_of_getElem? (i := 2) rfl)) rfl dX6_contract_200 ?_
                          refine g_iconst S (v := 1) dX6_contract_203 (by decide) ?_
                          refine g_iadd S dX6_contract_204 ?_
                          refine m_puts S hK 33 (by decide) (S.2.2.2.2 _ (List.mem_of_getElem? (i := 2) rfl)) dX6_contract_205 ?_
                          refine g_aload_n S dX6_contract_208 rfl ?_
                          refine m_getf S hK 33 (by decide) (S.2.2.2.2 _ (List.mem_of_getElem? (i := 2) rfl)) rfl dX6_contract_209 ?_
                          refine g_iconst S (v := 1) dX6_contract_212 (by decide) ?_
                          refine g_isub S dX6_contract_213 ?_
                          exact g_iret S hlk hr (fun H h => (by simp (config := { decide := true }) only [gRet, mContract, c_4, c_11, c_16, c_23, c_31, c_54, c_65, c_77, c_103, if_true, if_false, reduceIte, Bool.false_eq_true, not_true_eq_false, not_false_eq_true, ite_not, true_and, and_true, Bool.and_self, Bool.and_true, Bool.true_and, Bool.and_false, Bool.false_and, decide_true, decide_false, eq_self_iff_true]; first | exact ⟨rfl, h⟩ | exact h)) (Nat.le_refl _) (Nat.le_refl _) dX6_contract_214
                        · exact absurd c_114 (by decide)
                      · refine g_iconst S (v := 2) dX6_contract_106 (by decide) ?_
                        refine g_goto S (tgt := 111) dX6_contract_107 (by decide) ?_
                        refine g_cVr S (c_goesWell l D ty A mo ad _ _) (cwV 1 S.2.2.2.2 gX6_contract_X6_goesWell rfl rfl rfl (by decide +kernel) ⟨Nat.le_of_ble_eq_true rfl, Nat.le_of_ble_eq_true rfl⟩) hK hE (fun H h => h) (m_recv hK) rfl (Nat.le_of_ble_eq_true rfl) dX6_contract_111 ⟨Nat.le_of_ble_eq_true rfl, Nat.le_of_ble_eq_true rfl⟩ ?_
                        refine g_if_ne S (tgt := 119) dX6_contract_114 (by decide) (fun c_114 => ?_) (fun c_114 => ?_)
                        · exact absurd c_114 (by decide)
                        · refine g_iconst S (v := 0) dX6_contract_117 (by decide) ?_
                          exact g_iret S hlk hr (fun H h => (by simp (config := { decide := true }) only [gRet, mContract, c_4, c_11, c_16, c_23, c_31, c_54, c_65, c_77, c_103, if_true, if_false, reduceIte, Bool.false_eq_true, not_true_eq_false, not_false_eq_true, ite_not, true_and, and_true, Bool.and_self, Bool.and_true, Bool.true_and, Bool.and_false, Bool.false_and, decide_true, decide_false, eq_self_iff_true]; first | exact ⟨rfl, h⟩ | exact h)) (Nat.le_refl _) (Nat.le_refl _) dX6_contract_118
                    · exact absurd c_90 (by decide)

