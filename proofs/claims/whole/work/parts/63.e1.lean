/-! the reference's days -/
def mSilosN (b : MS) : Nat → MS
  | 0 => b
  | n + 1 => mShrink (mSilosN b n) (nI n)
def mForStep (a : MS) (r : Int32) : MS := if gA a 25 r = -1 then a else if gS a 1 ≤ gA a 27 r then a else mX (mBecome a r (gA a 25 r)) 25 r (-1)
def mForfN (b : MS) : Nat → MS
  | 0 => b
  | n + 1 => mForStep (mForfN b n) (nI n)
def mConStep (a : MS) (c : Int32) : MS := if gA a 39 c = gS a 1 then mSettle a c else a
def mConsN (b : MS) : Nat → MS
  | 0 => b
  | n + 1 => mConStep (mConsN b n) (nI n)
def mDay0 (a : MS) : MS := mS a 1 (gS a 1 + 1)
def mDay1 (nS : Nat) (a : MS) : MS := mSilosN (mDay0 a) nS
def mDay2 (nS nR : Nat) (a : MS) : MS := mForfN (mDay1 nS a) nR
def mDay (nS nR nC : Nat) (a : MS) : MS := mConsN (mDay2 nS nR a) nC
/-- n days, the receipts at the beginning of each told by nR -/
def mDays (nS nC : Nat) (nR : Nat → Nat) (a : MS) : Nat → MS
  | 0 => a
  | n + 1 => mDay nS (nR n) nC (mDays nS nC nR a n)
def mK (nS nC : Nat) (b : MS) : Prop := mWf b ∧ gS b 7 = nI nS ∧ vp_in (gS b 20) 81 ∧ gS b 33 = nI nC ∧ vp_in (gS b 29) 5600
def mHz (b : MS) (s : Int32) : Prop := ∀ nr : Nat, nr < 81 → gS b 20 = nI nr → ∀ i : Nat, i < nr → gA b 23 (nI i) = s → ¬ gA b 21 (nI i) ≤ 0 → ¬ (gA b 9 s).toInt64 = 0
def mDayOk (nS nR nC : Nat) (a : MS) : Prop := (∀ i, i ≤ nS → mK nS nC (mSilosN (mDay0 a) i)) ∧ (∀ i, i < nS → mHz (mSilosN (mDay0 a) i) (nI i)) ∧ (∀ i, i ≤ nR → mK nS nC (mForfN (mDay1 nS a) i) ∧ gS (mForfN (mDay1 nS a) i) 20 = nI nR) ∧ ∀ i, i ≤ nC → mK nS nC (mConsN (mDay2 nS nR a) i)
def mPass (nS nC : Nat) (nR : Nat → Nat) (a : MS) (v : Int32) : Int32 × MS := if mIn v 1 30 = true then (gS (mDays nS nC nR (mS a 0 0) v.toNatClampNeg) 1, mDays nS nC nR (mS a 0 0) v.toNatClampNeg) else (0, mS a 0 1)
abbrev rmX6_pass : Room := { frames := 4, cells := 0, slots := 0, locals := 97 }
set_option maxHeartbeats 1500000 in
set_option maxRecDepth 100000 in
theorem c_mpassT (l : Launch) (D : va_G) (ty : Nat → ClassId) (A : Nat → Prop) (mo : Nat) (ad : Nat → Nat) (a : MS) {nS nC n9 : Nat} {nR : Nat → Nat} (hS6 : nS ≤ 6) (hC30 : nC ≤ 30) (hR : ∀ d, nR d ≤ 80) (hn9 : n9 ≤ 30) (hv : mIn (nI n9) 1 30 = true) (hJ : ∀ d, d < n9 → mDayOk nS (nR d) nC (mDays nS nC nR (mS a 0 0) d)) : Met l yX6_pass wsX6_pass rmX6_pass (gPc D ty false [] 0 A [.ref mo, .int (nI n9)] (hM D ty A mo ad a)) (gQ A (gRet (some (.int (gS (mDays nS nC nR (mS a 0 0) n9) 1))) (hM D ty A mo ad (mDays nS nC nR (mS a 0 0) n9)))) 0 0 A := by
  refine g_Met (cc := cX6_pass) (maxL := 4) (ret := (some .int)) [some (.ref mo), some (.int (nI n9)), none, none] (by decide) rfl (Nat.le_of_ble_eq_true rfl) rfl ?_
  intro p e s m args below meth c S hlk hr hnm hK hE hP0
  have S : CallFix p m c cX6_pass 4 s args wsX6_pass RX6 := S
  have LD : ∀ d : Nat, d < n9 → (gW p l e (headSpec wsX6_pass rmX6_pass).room s m args below meth c A (gR below A args s 0 0 (gRet (some (.int (gS (mDays nS nC nR (mS a 0 0) n9) 1))) (hM D ty A mo ad (mDays nS nC nR (mS a 0 0) n9)))) 4 (hM D ty A mo ad (mDays nS nC nR (mS a 0 0) (d + 1))) 0 0 26 [some (.ref mo), some (.int (nI n9)), some (.int (nI (d + 1))), none] []) → gW p l e (headSpec wsX6_pass rmX6_pass).room s m args below meth c A (gR below A args s 0 0 (gRet (some (.int (gS (mDays nS nC nR (mS a 0 0) n9) 1))) (hM D ty A mo ad (mDays nS nC nR (mS a 0 0) n9)))) 4 (hM D ty A mo ad (mDay0 (mDays nS nC nR (mS a 0 0) d))) 0 0 43 [some (.ref mo), some (.int (nI n9)), some (.int (nI d)), some (.int 0)] [] := by
    intro d hd hnext
    have h81 : nR d ≤ 80 := by
        obtain ⟨hk9, hr20⟩ := (hJ d hd).2.2.1 0 (by omega)
        have := hk9.2.2.1
        rw [hr20] at this
        have h2 := (vin_toInt this).2
        rcases Nat.lt_or_ge 80 (nR d) with q | q
        · exact absurd (hR d) (by omega)
        · exact q
    have L3 : ∀ (kk i : Nat) , i + kk = nC → gW p l e (headSpec wsX6_pass rmX6_pass).room s m args below meth c A (gR below A args s 0 0 (gRet (some (.int (gS (mDays nS nC nR (mS a 0 0) n9) 1))) (hM D ty A mo ad (mDays nS nC nR (mS a 0 0) n9)))) 4 (hM D ty A mo ad (mConsN (mDay2 nS (nR d) (mDays nS nC nR (mS a 0 0) d)) i)) 0 0 121 [some (.ref mo), some (.int (nI n9)), some (.int (nI d)), some (.int (nI i))] [] := by
      intro kk
      induction kk with
      | zero =>
        intro i  ei 
        have hk9 := (hJ d hd).2.2.2 i (by omega)
        refine g_iload_n S dX6_pass_121 rfl ?_
        refine g_aload_n S dX6_pass_122 rfl ?_
        refine m_getf S hK 33 (by decide) (S.2.2.2.2 _ (List.mem_of_getElem? (i := 6) rfl)) rfl dX6_pass_123 ?_
        refine g_icmp_ge S (tgt := 153) dX6_pass_126 (by decide) (fun c_126 => ?_) (fun c_126 => ?_)
        · refine g_iinc S (v := nI (d + 1)) dX6_pass_153 rfl (nI_inc d) (by decide) rfl ?_
          refine g_goto S (tgt := 26) dX6_pass_156 (by decide) ?_
          refine g_drop 3 ?_
          have ein : i = nC := by omega
          subst ein
          exact hnext
        · exact absurd (lp_exit (nr := nC) hk9.2.2.2.1 (by omega) (by omega)) c_126
      | succ kk ih =>
        intro i  ei 
        have hk9 := (hJ d hd).2.2.2 i (by omega)
        refine g_iload_n S dX6_pass_121 rfl ?_
        refine g_aload_n S dX6_pass_122 rfl ?_
        refine m_getf S hK 33 (by decide) (S.2.2.2.2 _ (List.mem_of_getElem? (i := 6) rfl)) rfl dX6_pass_123 ?_
        refine g_icmp_ge S (tgt := 153) dX6_pass_126 (by decide) (fun c_126 => ?_) (fun c_126 => ?_)
        · exact absurd c_126 (lp_stay (nr := nC) hk9.2.2.2.1 (by omega) (by omega))
        · refine g_aload_n S dX6_pass_129 rfl ?_
          refine m_getf S hK 39 (by decide) (S.2.2.2.2 _ (List.mem_of_getElem? (i := 7) rfl)) rfl dX6_pass_130 ?_
          refine g_iload_n S dX6_pass_133 rfl ?_
          refine m_iald S hK (by decide) (show vp_in (nI i) 30 from vin_nI (by omega) (by decide)) dX6_pass_134 ?_
          refine g_aload_n S dX6_pass_135 rfl ?_
          refine m_getf S hK 1 (by decide) (S.2.2.2.2 _ (List.mem_of_getElem? (i := 1) rfl)) rfl dX6_pass_136 ?_
          refine g_icmp_ne S (tgt := 147) dX6_pass_139 (by decide) (fun c_139 => ?_) (fun c_139 => ?_)
          · refine g_iinc S (v := nI (i + 1)) dX6_pass_147 rfl (nI_inc i) (by decide) rfl ?_
            refine g_goto S (tgt := 121) dX6_pass_150 (by decide) ?_
            have es : mConsN (mDay2 nS (nR d) (mDays nS nC nR (mS a 0 0) d)) (i + 1) = (mConsN (mDay2 nS (nR d) (mDays nS nC nR (mS a 0 0) d)) i) := by show mConStep _ (nI i) = _; unfold mConStep; rw [if_neg c_139]
            have ih9 := ih (i + 1) (by omega)
            rw [es] at ih9
            exact ih9
          · refine g_aload_n S dX6_pass_142 rfl ?_
            refine g_iload_n S dX6_pass_143 rfl ?_
            refine g_cVv S (c_settle l D ty A mo ad (mConsN (mDay2 nS (nR d) (mDays nS nC nR (mS a 0 0) d)) i) (nI i) hk9.1 hk9.2.2.1 hk9.2.2.2.2 (vin_nI (by omega) (by decide))) (cwV 1 S.2.2.2.2 gX6_pass_X6_settle rfl rfl rfl (by decide +kernel) ⟨Nat.le_of_ble_eq_true rfl, Nat.le_of_ble_eq_true rfl⟩) hK hE (fun H h => h) (m_recv hK) rfl (Nat.le_of_ble_eq_true rfl) dX6_pass_144 ⟨Nat.le_of_ble_eq_true rfl, Nat.le_of_ble_eq_true rfl⟩ ?_
            refine g_iinc S (v := nI (i + 1)) dX6_pass_147 rfl (nI_inc i) (by decide) rfl ?_
            refine g_goto S (tgt := 121) dX6_pass_150 (by decide) ?_
            have es : mConsN (mDay2 nS (nR d) (mDays nS nC nR (mS a 0 0) d)) (i + 1) = (mSettle (mConsN (mDay2 nS (nR d) (mDays nS nC nR (mS a 0 0) d)) i) (nI i)) := by show mConStep _ (nI i) = _; unfold mConStep; rw [if_pos c_139]
            have ih9 := ih (i + 1) (by omega)
            rw [es] at ih9
            exact ih9
    have L2 : ∀ (kk i : Nat) , i + kk = (nR d) → gW p l e (headSpec wsX6_pass rmX6_pass).room s m args below meth c A (gR below A args s 0 0 (gRet (some (.int (gS (mDays nS nC nR (mS a 0 0) n9) 1))) (hM D ty A mo ad (mDays nS nC nR (mS a 0 0) n9)))) 4 (hM D ty A mo ad (mForfN (mDay1 nS (mDays nS nC nR (mS a 0 0) d)) i)) 0 0 64 [some (.ref mo), some (.int (nI n9)), some (.int (nI d)), some (.int (nI i))] [] := by
      intro kk
      induction kk with
      | zero =>
        intro i  ei 
        obtain ⟨hk9, hr20⟩ := (hJ d hd).2.2.1 i (by omega)
        refine g_iload_n S dX6_pass_64 rfl ?_
        refine g_aload_n S dX6_pass_65 rfl ?_
        refine m_getf S hK 20 (by decide) (S.2.2.2.2 _ (List.mem_of_getElem? (i := 3) rfl)) rfl dX6_pass_66 ?_
        refine g_icmp_ge S (tgt := 119) dX6_pass_69 (by decide) (fun c_69 => ?_) (fun c_69 => ?_)
        · refine g_iconst S (v := 0) dX6_pass_119 (by decide) ?_
          refine g_istore_n S dX6_pass_120 (by decide) rfl ?_
          have ein : i = nR d := by omega
          subst ein
          exact L3 nC 0 (Nat.zero_add _)
        · exact absurd (lp_exit (nr := nR d) hr20 (by omega) (by omega)) c_69
      | succ kk ih =>
        intro i  ei 
        obtain ⟨hk9, hr20⟩ := (hJ d hd).2.2.1 i (by omega)
        refine g_iload_n S dX6_pass_64 rfl ?_
        refine g_aload_n S dX6_pass_65 rfl ?_
        refine m_getf S hK 20 (by decide) (S.2.2.2.2 _ (List.mem_of_getElem? (i := 3) rfl)) rfl dX6_pass_66 ?_
        refine g_icmp_ge S (tgt := 119) dX6_pass_69 (by decide) (fun c_69 => ?_) (fun c_69 => ?_)
        · exact absurd c_69 (lp_stay (nr := nR d) hr20 (by omega) (by omega))
        · refine g_aload_n S dX6_pass_72 rfl ?_
          refine m_getf S hK 25 (by decide) (S.2.2.2.2 _ (List.mem_of_getElem? (i := 4) rfl)) rfl dX6_pass_73 ?_
          refine g_iload_n S dX6_pass_76 rfl ?_
          refine m_iald S hK (by decide) (show vp_in (nI i) 80 from vin_nI (by omega) (by decide)) dX6_pass_77 ?_
          refine g_iconst S (v := (-1)) dX6_pass_78 (by decide) ?_
          refine g_icmp_eq S (tgt := 113) dX6_pass_79 (by decide) (fun c_79 => ?_) (fun c_79 => ?_)
          · refine g_iinc S (v := nI (i + 1)) dX6_pass_113 rfl (nI_inc i) (by decide) rfl ?_
            refine g_goto S (tgt := 64) dX6_pass_116 (by decide) ?_
            have es : mForfN (mDay1 nS (mDays nS nC nR (mS a 0 0) d)) (i + 1) = (mForfN (mDay1 nS (mDays nS nC nR (mS a 0 0) d)) i) := by show mForStep _ (nI i) = _; unfold mForStep; rw [if_pos c_79]
            have ih9 := ih (i + 1) (by omega)
            rw [es] at ih9
            exact ih9
          · refine g_aload_n S dX6_pass_82 rfl ?_
            refine m_getf S hK 27 (by decide) (S.2.2.2.2 _ (List.mem_of_getElem? (i := 5) rfl)) rfl dX6_pass_83 ?_
            refine g_iload_n S dX6_pass_86 rfl ?_
            refine m_iald S hK (by decide) (show vp_in (nI i) 80 from vin_nI (by omega) (by decide)) dX6_pass_87 ?_
            refine g_aload_n S dX6_pass_88 rfl ?_
            refine m_getf S hK 1 (by decide) (S.2.2.2.2 _ (List.mem_of_getElem? (i := 1) rfl)) rfl dX6_pass_89 ?_
            refine g_icmp_ge S (tgt := 113) dX6_pass_92 (by decide) (fun c_92 => ?_) (fun c_92 => ?_)
            · refine g_iinc S (v := nI (i + 1)) dX6_pass_113 rfl (nI_inc i) (by decide) rfl ?_
              refine g_goto S (tgt := 64) dX6_pass_116 (by decide) ?_
              have es : mForfN (mDay1 nS (mDays nS nC nR (mS a 0 0) d)) (i + 1) = (mForfN (mDay1 nS (mDays nS nC nR (mS a 0 0) d)) i) := by show mForStep _ (nI i) = _; unfold mForStep; rw [if_neg c_79, if_pos c_92]
              have ih9 := ih (i + 1) (by omega)
              rw [es] at ih9
              exact ih9
            · refine g_aload_n S dX6_pass_95 rfl ?_
              refine g_iload_n S dX6_pass_96 rfl ?_
              refine g_aload_n S dX6_pass_97 rfl ?_
              refine m_getf S hK 25 (by decide) (S.2.2.2.2 _ (List.mem_of_getElem? (i := 4) rfl)) rfl dX6_pass_98 ?_
              refine g_iload_n S dX6_pass_101 rfl ?_
              refine m_iald S hK (by decide) (show vp_in (nI i) 80 from vin_nI (by omega) (by decide)) dX6_pass_102 ?_
              refine g_cVv S (c_become l D ty A mo ad (mForfN (mDay1 nS (mDays nS nC nR (mS a 0 0) d)) i) (nI i) _ (vin_nI (by omega) (by decide)) (vin_mono hk9.2.2.2.2 (by decide))) (cwV 2 S.2.2.2.2 gX6_pass_X6_become rfl rfl rfl (by decide +kernel) ⟨Nat.le_of_ble_eq_true rfl, Nat.le_of_ble_eq_true rfl⟩) hK hE (fun H h => h) (m_recv hK) rfl (Nat.le_of_ble_eq_true rfl) dX6_pass_103 ⟨Nat.le_of_ble_eq_true rfl, Nat.le_of_ble_eq_true rfl⟩ ?_
              refine g_aload_n S dX6_pass_106 rfl ?_
              refine m_getf S hK 25 (by decide) (S.2.2.2.2 _ (List.mem_of_getElem? (i := 4) rfl)) rfl dX6_pass_107 ?_
              refine g_iload_n S dX6_pass_110 rfl ?_
              refine g_iconst S (v := (-1)) dX6_pass_111 (by decide) ?_
              refine m_iast S hK (by decide) (show vp_in (nI i) 80 from vin_nI (by omega) (by decide)) dX6_pass_112 ?_
              refine g_iinc S (v := nI (i + 1)) dX6_pass_113 rfl (nI_inc i) (by decide) rfl ?_
              refine g_goto S (tgt := 64) dX6_pass_116 (by decide) ?_
              have es : mForfN (mDay1 nS (mDays nS nC nR (mS a 0 0) d)) (i + 1) = (mX (mBecome (mForfN (mDay1 nS (mDays nS nC nR (mS a 0 0) d)) i) (nI i) (gA (mForfN (mDay1 nS (mDays nS nC nR (mS a 0 0) d)) i) 25 (nI i))) 25 (nI i) (-1)) := by show mForStep _ (nI i) = _; unfold mForStep; rw [if_neg c_79, if_neg c_92]
              have ih9 := ih (i + 1) (by omega)
              rw [es] at ih9
              exact ih9
    have L1 : ∀ (kk i : Nat) , i + kk = nS → gW p l e (headSpec wsX6_pass rmX6_pass).room s m args below meth c A (gR below A args s 0 0 (gRet (some (.int (gS (mDays nS nC nR (mS a 0 0) n9) 1))) (hM D ty A mo ad (mDays nS nC nR (mS a 0 0) n9)))) 4 (hM D ty A mo ad (mSilosN (mDay0 (mDays nS nC nR (mS a 0 0) d)) i)) 0 0 43 [some (.ref mo), some (.int (nI n9)), some (.int (nI d)), some (.int (nI i))] [] := by
      intro kk
      induction kk with
      | zero =>
        intro i  ei 
        have hk9 := (hJ d hd).1 i (by omega)
        refine g_iload_n S dX6_pass_43 rfl ?_
        refine g_aload_n S dX6_pass_44 rfl ?_
        refine m_getf S hK 7 (by decide) (S.2.2.2.2 _ (List.mem_of_getElem? (i := 2) rfl)) rfl dX6_pass_45 ?_
        refine g_icmp_ge S (tgt := 62) dX6_pass_48 (by decide) (fun c_48 => ?_) (fun c_48 => ?_)
        · refine g_iconst S (v := 0) dX6_pass_62 (by decide) ?_
          refine g_istore_n S dX6_pass_63 (by decide) rfl ?_
          have ein : i = nS := by omega
          subst ein
          exact L2 (nR d) 0 (Nat.zero_add _)
        · exact absurd (lp_exit (nr := nS) hk9.2.1 (by omega) (by omega)) c_48
      | succ kk ih =>
        intro i  ei 
        have hk9 := (hJ d hd).1 i (by omega)
        refine g_iload_n S dX6_pass_43 rfl ?_
        refine g_aload_n S dX6_pass_44 rfl ?_
        refine m_getf S hK 7 (by decide) (S.2.2.2.2 _ (List.mem_of_getElem? (i := 2) rfl)) rfl dX6_pass_45 ?_
        refine g_icmp_ge S (tgt := 62) dX6_pass_48 (by decide) (fun c_48 => ?_) (fun c_48 => ?_)
        · exact absurd c_48 (lp_stay (nr := nS) hk9.2.1 (by omega) (by omega))
        · refine g_aload_n S dX6_pass_51 rfl ?_
          refine g_iload_n S dX6_pass_52 rfl ?_
          refine g_cVv S (c_shrink2 l D ty A mo ad (mSilosN (mDay0 (mDays nS nC nR (mS a 0 0) d)) i) (nI i) hk9.1 hk9.2.2.1 (vin_nI (by omega) (by decide)) ((hJ d hd).2.1 i (by omega))) (cwV 1 S.2.2.2.2 gX6_pass_X6_shrink rfl rfl rfl (by decide +kernel) ⟨Nat.le_of_ble_eq_true rfl, Nat.le_of_ble_eq_true rfl⟩) hK hE (fun H h => h) (m_recv hK) rfl (Nat.le_of_ble_eq_true rfl) dX6_pass_53 ⟨Nat.le_of_ble_eq_true rfl, Nat.le_of_ble_eq_true rfl⟩ ?_
          refine g_iinc S (v := nI (i + 1)) dX6_pass_56 rfl (nI_inc i) (by decide) rfl ?_
          refine g_goto S (tgt := 43) dX6_pass_59 (by decide) ?_
          exact ih (i + 1) (by omega)
    exact L1 nS 0 (Nat.zero_add _)
  have LO : ∀ (kk i : Nat) , i + kk = n9 → gW p l e (headSpec wsX6_pass rmX6_pass).room s m args below meth c A (gR below A args s 0 0 (gRet (some (.int (gS (mDays nS nC nR (mS a 0 0) n9) 1))) (hM D ty A mo ad (mDays nS nC nR (mS a 0 0) n9)))) 4 (hM D ty A mo ad (mDays nS nC nR (mS a 0 0) i)) 0 0 26 [some (.ref mo), some (.int (nI n9)), some (.int (nI i)), none] [] := by
    intro kk
    induction kk with
    | zero =>
      intro i  ei 
      have ein : n9 = i := by omega
      subst ein
      refine g_iload_n S dX6_pass_26 rfl ?_
      refine g_iload_n S dX6_pass_27 rfl ?_
      refine g_icmp_ge S (tgt := 159) dX6_pass_28 (by decide) (fun c_28 => ?_) (fun c_28 => ?_)
      · refine g_aload_n S dX6_pass_159 rfl ?_
        refine m_getf S hK 1 (by decide) (S.2.2.2.2 _ (List.mem_of_getElem? (i := 1) rfl)) rfl dX6_pass_160 ?_
        exact g_iret S hlk hr (fun H h => ⟨rfl, h⟩) (Nat.le_refl _) (Nat.le_refl _) dX6_pass_163
      · exact absurd (lp_exit (nr := n9) rfl (by omega) (by omega)) c_28
    | succ kk ih =>
      intro i  ei 
      refine g_iload_n S dX6_pass_26 rfl ?_
      refine g_iload_n S dX6_pass_27 rfl ?_
      refine g_icmp_ge S (tgt := 159) dX6_pass_28 (by decide) (fun c_28 => ?_) (fun c_28 => ?_)
      · exact absurd c_28 (lp_stay (nr := n9) rfl (by omega) (by omega))
      · refine g_aload_n S dX6_pass_31 rfl ?_
        refine g_dup S dX6_pass_32 rfl ?_
        refine m_getf S hK 1 (by decide) (S.2.2.2.2 _ (List.mem_of_getElem? (i := 1) rfl)) rfl dX6_pass_33 ?_
        refine g_iconst S (v := 1) dX6_pass_36 (by decide) ?_
        refine g_iadd S dX6_pass_37 ?_
        refine m_puts S hK 1 (by decide) (S.2.2.2.2 _ (List.mem_of_getElem? (i := 1) rfl)) dX6_pass_38 ?_
        refine g_iconst S (v := 0) dX6_pass_41 (by decide) ?_
        refine g_istore_n S dX6_pass_42 (by decide) rfl ?_
        exact LD i (by omega) (ih (i + 1) (by omega))
  refine g_aload_n S dX6_pass_0 rfl ?_
  refine g_iload_n S dX6_pass_1 rfl ?_
  refine g_iconst S (v := 1) dX6_pass_2 (by decide) ?_
  refine g_bipush S (v := 30) dX6_pass_3 (by decide) ?_
  refine g_cSr S (c_in l D ty A _ _ _ _) (va_cwS 3 S.2.2.2.2 gX6_pass_X6_in rfl rfl rfl (by decide +kernel) ⟨Nat.le_of_ble_eq_true rfl, Nat.le_of_ble_eq_true rfl⟩) hK hE (fun H h => h) rfl (Nat.le_of_ble_eq_true rfl) dX6_pass_5 ⟨Nat.le_of_ble_eq_true rfl, Nat.le_of_ble_eq_true rfl⟩ ?_
  refine g_ifb_eq S (tgt := 15) dX6_pass_8 (by decide) (fun c_8 => ?_) (fun c_8 => ?_)
  · exact absurd (hv.symm.trans c_8) (by decide)
  · refine g_iconst S (v := 0) dX6_pass_11 (by decide) ?_
    refine g_goto S (tgt := 16) dX6_pass_12 (by decide) ?_
    refine g_cVr S (c_goesWell l D ty A mo ad _ _) (cwV 1 S.2.2.2.2 gX6_pass_X6_goesWell rfl rfl rfl (by decide +kernel) ⟨Nat.le_of_ble_eq_true rfl, Nat.le_of_ble_eq_true rfl⟩) hK hE (fun H h => h) (m_recv hK) rfl (Nat.le_of_ble_eq_true rfl) dX6_pass_16 ⟨Nat.le_of_ble_eq_true rfl, Nat.le_of_ble_eq_true rfl⟩ ?_
    refine g_if_ne S (tgt := 24) dX6_pass_19 (by decide) (fun c_19 => ?_) (fun c_19 => ?_)
    · refine g_iconst S (v := 0) dX6_pass_24 (by decide) ?_
      refine g_istore_n S dX6_pass_25 (by decide) rfl ?_
      exact LO n9 0 (Nat.zero_add _)
    · exact absurd c_19 (by decide)

set_option maxHeartbeats 1500000 in
set_option maxRecDepth 100000 in
theorem c_mpassF (l : Launch) (D : va_G) (ty : Nat → ClassId) (A : Nat → Prop) (mo : Nat) (ad : Nat → Nat) (a : MS) (v : Int32) (hv : mIn v 1 30 = false) : Met l yX6_pass wsX6_pass rmX6_pass (gPc D ty false [] 0 A [.ref mo, .int v] (hM D ty A mo ad a)) (gQ A (gRet (some (.int 0)) (hM D ty A mo ad (mS a 0 1)))) 0 0 A := by
  refine g_Met (cc := cX6_pass) (maxL := 4) (ret := (some .int)) [some (.ref mo), some (.int v), none, none] (by decide) rfl (Nat.le_of_ble_eq_true rfl) rfl ?_
  intro p e s m args below meth c S hlk hr hnm hK hE hP0
  have S : CallFix p m c cX6_pass 4 s args wsX6_pass RX6 := S
  refine g_aload_n S dX6_pass_0 rfl ?_
  refine g_iload_n S dX6_pass_1 rfl ?_
  refine g_iconst S (v := 1) dX6_pass_2 (by decide) ?_
  refine g_bipush S (v := 30) dX6_pass_3 (by decide) ?_
  refine g_cSr S (c_in l D ty A _ _ _ _) (va_cwS 3 S.2.2.2.2 gX6_pass_X6_in rfl rfl rfl (by decide +kernel) ⟨Nat.le_of_ble_eq_true rfl, Nat.le_of_ble_eq_true rfl⟩) hK hE (fun H h => h) rfl (Nat.le_of_ble_eq_true rfl) dX6_pass_5 ⟨Nat.le_of_ble_eq_true rfl, Nat.le_of_ble_eq_true rfl⟩ ?_
  refine g_ifb_eq S (tgt := 15) dX6_pass_8 (by decide) (fun c_8 => ?_) (fun c_8 => ?_)
  · refine g_iconst S (v := 1) dX6_pass_15 (by decide) ?_
    refine g_cVr S (c_goesWell l D ty A mo ad _ _) (cwV 1 S.2.2.2.2 gX6_pass_X6_goesWell rfl rfl rfl (by decide +kernel) ⟨Nat.le_of_ble_eq_true rfl, Nat.le_of_ble_eq_true rfl⟩) hK hE (fun H h => h) (m_recv hK) rfl (Nat.le_of_ble_eq_true rfl) dX6_pass_16 ⟨Nat.le_of_ble_eq_true rfl, Nat.le_of_ble_eq_true rfl⟩ ?_
    refine g_if_ne S (tgt := 24) dX6_pass_19 (by decide) (fun c_19 => ?_) (fun c_19 => ?_)
    · exact absurd c_19 (by decide)
    · refine g_iconst S (v := 0) dX6_pass_22 (by decide) ?_
      exact g_iret S hlk hr (fun H h => ⟨rfl, h⟩) (Nat.le_refl _) (Nat.le_refl _) dX6_pass_23
  · exact absurd (hv.symm.trans c_8) (by decide)

