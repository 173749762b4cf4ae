set_option maxHeartbeats 1500000 in
set_option maxRecDepth 100000 in
theorem c_shrink2 (l : Launch) (D : va_G) (ty : Nat → ClassId) (A : Nat → Prop) (mo : Nat) (ad : Nat → Nat) (a : MS) (s9 : Int32) (hw : mWf a) (hn1 : vp_in (gS a 20) 81) (hs9 : vp_in s9 6) (hz9 : ∀ nr : Nat, nr < 81 → gS a 20 = nI nr → ∀ i : Nat, i < nr → gA a 23 (nI i) = s9 → ¬ gA a 21 (nI i) ≤ 0 → ¬ (gA a 9 s9).toInt64 = 0) : Met l yX6_shrink wsX6_shrink rmX6_shrink (gPc D ty false [] 0 A [.ref mo, .int s9] (hM D ty A mo ad a)) (gQ A (gRet none (hM D ty A mo ad (mShrink a s9)))) 0 0 A := by
  obtain ⟨nr, h80, enr⟩ := vp_in_of hn1 (by decide)
  have ecl : (gS a 20).toNatClampNeg = nr := by rw [enr]; exact nI_clamp (by omega)
  have hz : ∀ i : Nat, i < nr → gA a 23 (nI i) = s9 → ¬ gA a 21 (nI i) ≤ 0 → ¬ (gA a 9 s9).toInt64 = 0 := hz9 nr h80 enr
  have eS : (hM D ty A mo ad (mShrink a s9)) = (hM D ty A mo ad (mX (mSh3 (mLoss a s9) 0 nr (mSh2 (mSh1 s9 (gA a 9 s9) (mLoss a s9) 0 nr a (mLoss a s9)).2.toInt.toNat (mSh1 s9 (gA a 9 s9) (mLoss a s9) 0 nr a (mLoss a s9)).1)) 12 s9 (gA (mSh3 (mLoss a s9) 0 nr (mSh2 (mSh1 s9 (gA a 9 s9) (mLoss a s9) 0 nr a (mLoss a s9)).2.toInt.toNat (mSh1 s9 (gA a 9 s9) (mLoss a s9) 0 nr a (mLoss a s9)).1)) 12 s9 + (mLoss a s9)))) := by simp only [mShrink, ecl]
  rw [eS]
  refine g_Met (cc := cX6_shrink) (maxL := 9) (ret := none) [some (.ref mo), some (.int s9), none, none, none, none, none, none, none] (by decide) rfl (Nat.le_of_ble_eq_true rfl) rfl ?_
  intro p e s m args below meth c S hlk hr hnm hK hE hP0
  have S : CallFix p m c cX6_shrink 9 s args wsX6_shrink RX6 := S
  have L3 : ∀ (kk i : Nat) (a9 : MS) (left : Int32), i + kk = nr → (mWf a9 ∧ gS a9 20 = nI nr) → mSh3 (mLoss a s9) i kk a9 = (mSh3 (mLoss a s9) 0 nr (mSh2 (mSh1 s9 (gA a 9 s9) (mLoss a s9) 0 nr a (mLoss a s9)).2.toInt.toNat (mSh1 s9 (gA a 9 s9) (mLoss a s9) 0 nr a (mLoss a s9)).1)) → gW p l e (headSpec wsX6_shrink rmX6_shrink).room s m args below meth c A (gR below A args s 0 0 (gRet none (hM D ty A mo ad (mX (mSh3 (mLoss a s9) 0 nr (mSh2 (mSh1 s9 (gA a 9 s9) (mLoss a s9) 0 nr a (mLoss a s9)).2.toInt.toNat (mSh1 s9 (gA a 9 s9) (mLoss a s9) 0 nr a (mLoss a s9)).1)) 12 s9 (gA (mSh3 (mLoss a s9) 0 nr (mSh2 (mSh1 s9 (gA a 9 s9) (mLoss a s9) 0 nr a (mLoss a s9)).2.toInt.toNat (mSh1 s9 (gA a 9 s9) (mLoss a s9) 0 nr a (mLoss a s9)).1)) 12 s9 + (mLoss a s9)))))) 9 (hM D ty A mo ad a9) 0 0 228 [some (.ref mo), some (.int s9), some (.int (gA a 9 s9)), some (.int (mLoss a s9)), some (.int left), some (.int (nI i)), none, none, none] [] := by
    intro kk
    induction kk with
    | zero =>
      intro i a9 left ei ht e1
      refine g_iload S dX6_shrink_228 rfl ?_
      refine g_aload_n S dX6_shrink_230 rfl ?_
      refine m_getf S hK 20 (by decide) (S.2.2.2.2 _ (List.mem_of_getElem? (i := 4) rfl)) rfl dX6_shrink_231 ?_
      refine g_icmp_ge S (tgt := 271) dX6_shrink_234 (by decide) (fun c_234 => ?_) (fun c_234 => ?_)
      · refine g_aload_n S dX6_shrink_271 rfl ?_
        refine m_getf S hK 12 (by decide) (S.2.2.2.2 _ (List.mem_of_getElem? (i := 9) rfl)) rfl dX6_shrink_272 ?_
        refine g_iload_n S dX6_shrink_275 rfl ?_
        refine g_dup2_11 S dX6_shrink_276 rfl rfl ?_
        refine m_iald S hK (by decide) hs9 dX6_shrink_277 ?_
        refine g_iload_n S dX6_shrink_278 rfl ?_
        refine g_iadd S dX6_shrink_279 ?_
        refine m_iast S hK (by decide) hs9 dX6_shrink_280 ?_
        exact g_vret S hlk hr (fun H h => ⟨rfl, by rw [← e1]; exact h⟩) (Nat.le_refl _) (Nat.le_refl _) dX6_shrink_281
      · exact absurd (lp_exit ht.2 (by omega) (by omega)) c_234
    | succ kk ih =>
      intro i a9 left ei ht e1
      refine g_iload S dX6_shrink_228 rfl ?_
      refine g_aload_n S dX6_shrink_230 rfl ?_
      refine m_getf S hK 20 (by decide) (S.2.2.2.2 _ (List.mem_of_getElem? (i := 4) rfl)) rfl dX6_shrink_231 ?_
      refine g_icmp_ge S (tgt := 271) dX6_shrink_234 (by decide) (fun c_234 => ?_) (fun c_234 => ?_)
      · exact absurd c_234 (lp_stay ht.2 (by omega) (by omega))
      · refine g_iload_n S dX6_shrink_237 rfl ?_
        refine g_if_le S (tgt := 271) dX6_shrink_238 (by decide) (fun c_238 => ?_) (fun c_238 => ?_)
        · refine g_aload_n S dX6_shrink_271 rfl ?_
          refine m_getf S hK 12 (by decide) (S.2.2.2.2 _ (List.mem_of_getElem? (i := 9) rfl)) rfl dX6_shrink_272 ?_
          refine g_iload_n S dX6_shrink_275 rfl ?_
          refine g_dup2_11 S dX6_shrink_276 rfl rfl ?_
          refine m_iald S hK (by decide) hs9 dX6_shrink_277 ?_
          refine g_iload_n S dX6_shrink_278 rfl ?_
          refine g_iadd S dX6_shrink_279 ?_
          refine m_iast S hK (by decide) hs9 dX6_shrink_280 ?_
          exact g_vret S hlk hr (fun H h => ⟨rfl, by rw [← e1]; simp only [mSh3, c_238, if_true, if_false, reduceIte, Bool.false_eq_true, not_true_eq_false, not_false_eq_true, ite_not, true_and, and_true]; exact h⟩) (Nat.le_refl _) (Nat.le_refl _) dX6_shrink_281
        · refine g_aload_n S dX6_shrink_241 rfl ?_
          refine m_getf S hK 44 (by decide) (S.2.2.2.2 _ (List.mem_of_getElem? (i := 7) rfl)) rfl dX6_shrink_242 ?_
          refine g_iload S dX6_shrink_245 rfl ?_
          refine m_iald S hK (by decide) (vin_nI (N := 80) (by omega) (by decide)) dX6_shrink_247 ?_
          refine g_if_le S (tgt := 265) dX6_shrink_248 (by decide) (fun c_248 => ?_) (fun c_248 => ?_)
          · refine g_iinc S (v := nI (i + 1)) dX6_shrink_265 rfl (nI_inc i) (by decide) rfl ?_
            refine g_goto S (tgt := 228) dX6_shrink_268 (by decide) ?_
            exact ih (i + 1) _ left (by omega) ht (by rw [← e1]; simp only [mSh3, c_238, c_248, if_true, if_false, reduceIte, Bool.false_eq_true, not_true_eq_false, not_false_eq_true, ite_not, true_and, and_true])
          · refine g_aload_n S dX6_shrink_251 rfl ?_
            refine g_iload S dX6_shrink_252 rfl ?_
            refine g_aload_n S dX6_shrink_254 rfl ?_
            refine m_getf S hK 44 (by decide) (S.2.2.2.2 _ (List.mem_of_getElem? (i := 7) rfl)) rfl dX6_shrink_255 ?_
            refine g_iload S dX6_shrink_258 rfl ?_
            refine m_iald S hK (by decide) (vin_nI (N := 80) (by omega) (by decide)) dX6_shrink_260 ?_
            refine g_iconst S (v := 1) dX6_shrink_261 (by decide) ?_
            refine g_cVv S (c_lose l D ty A mo ad _ _ _ (by exact vin_nI (N := 80) (by omega) (by decide)) (by exact ht.1 23 _)) (cwV 3 S.2.2.2.2 gX6_shrink_X6_lose rfl rfl rfl (by decide +kernel) ⟨Nat.le_of_ble_eq_true rfl, Nat.le_of_ble_eq_true rfl⟩) hK hE (fun H h => h) (m_recv hK) rfl (Nat.le_of_ble_eq_true rfl) dX6_shrink_262 ⟨Nat.le_of_ble_eq_true rfl, Nat.le_of_ble_eq_true rfl⟩ ?_
            refine g_iinc S (v := nI (i + 1)) dX6_shrink_265 rfl (nI_inc i) (by decide) rfl ?_
            refine g_goto S (tgt := 228) dX6_shrink_268 (by decide) ?_
            exact ih (i + 1) _ left (by omega) ⟨mLose_wf ht.1 _ _, ht.2⟩ (by rw [← e1]; simp only [mSh3, c_238, c_248, if_true, if_false, reduceIte, Bool.false_eq_true, not_true_eq_false, not_false_eq_true, ite_not, true_and, and_true])
  have L2 : ∀ (kk : Nat) (a9 : MS) (left : Int32), left.toInt.toNat = kk → (mWf a9 ∧ gS a9 20 = nI nr) → mSh2 kk a9 = (mSh2 (mSh1 s9 (gA a 9 s9) (mLoss a s9) 0 nr a (mLoss a s9)).2.toInt.toNat (mSh1 s9 (gA a 9 s9) (mLoss a s9) 0 nr a (mLoss a s9)).1) → ∀ (v5 : Int32), gW p l e (headSpec wsX6_shrink rmX6_shrink).room s m args below meth c A (gR below A args s 0 0 (gRet none (hM D ty A mo ad (mX (mSh3 (mLoss a s9) 0 nr (mSh2 (mSh1 s9 (gA a 9 s9) (mLoss a s9) 0 nr a (mLoss a s9)).2.toInt.toNat (mSh1 s9 (gA a 9 s9) (mLoss a s9) 0 nr a (mLoss a s9)).1)) 12 s9 (gA (mSh3 (mLoss a s9) 0 nr (mSh2 (mSh1 s9 (gA a 9 s9) (mLoss a s9) 0 nr a (mLoss a s9)).2.toInt.toNat (mSh1 s9 (gA a 9 s9) (mLoss a s9) 0 nr a (mLoss a s9)).1)) 12 s9 + (mLoss a s9)))))) 9 (hM D ty A mo ad a9) 0 0 148 [some (.ref mo), some (.int s9), some (.int (gA a 9 s9)), some (.int (mLoss a s9)), some (.int left), some (.int v5), none, none, none] [] := by
    intro kk
    induction kk with
    | zero =>
      intro a9 left ei ht e1 v5
      refine g_iload S dX6_shrink_148 rfl ?_
      refine g_if_le S (tgt := 225) dX6_shrink_150 (by decide) (fun c_150 => ?_) (fun c_150 => ?_)
      · refine g_iconst S (v := 0) dX6_shrink_225 (by decide) ?_
        refine g_istore S dX6_shrink_226 (by decide) rfl ?_
        exact L3 nr 0 _ left (Nat.zero_add _) ht (by rw [← e1]; rfl)
      · exact absurd (i_le0 ei) c_150
    | succ kk ih =>
      intro a9 left ei ht e1 v5
      have ecl9 : (gS a9 20).toNatClampNeg = nr := by rw [ht.2]; exact nI_clamp (by omega)
      have LB : ∀ (kb i : Nat) (best : Int32), (i + kb = nr ∨ (nr = 0 ∧ kb = 0 ∧ i = 1)) → vp_in best 80 → mBest a9 i kb best = mBest a9 1 (nr - 1) 0 → gW p l e (headSpec wsX6_shrink rmX6_shrink).room s m args below meth c A (gR below A args s 0 0 (gRet none (hM D ty A mo ad (mX (mSh3 (mLoss a s9) 0 nr (mSh2 (mSh1 s9 (gA a 9 s9) (mLoss a s9) 0 nr a (mLoss a s9)).2.toInt.toNat (mSh1 s9 (gA a 9 s9) (mLoss a s9) 0 nr a (mLoss a s9)).1)) 12 s9 (gA (mSh3 (mLoss a s9) 0 nr (mSh2 (mSh1 s9 (gA a 9 s9) (mLoss a s9) 0 nr a (mLoss a s9)).2.toInt.toNat (mSh1 s9 (gA a 9 s9) (mLoss a s9) 0 nr a (mLoss a s9)).1)) 12 s9 + (mLoss a s9)))))) 9 (hM D ty A mo ad a9) 0 0 159 [some (.ref mo), some (.int s9), some (.int (gA a 9 s9)), some (.int (mLoss a s9)), some (.int left), some (.int best), some (.int (nI i)), none, none] [] := by
        intro kb
        induction kb with
        | zero =>
          intro i best eib hb eb
          refine g_iload S dX6_shrink_159 rfl ?_
          refine g_aload_n S dX6_shrink_161 rfl ?_
          refine m_getf S hK 20 (by decide) (S.2.2.2.2 _ (List.mem_of_getElem? (i := 4) rfl)) rfl dX6_shrink_162 ?_
          refine g_icmp_ge S (tgt := 200) dX6_shrink_165 (by decide) (fun c_165 => ?_) (fun c_165 => ?_)
          · refine g_aload_n S dX6_shrink_200 rfl ?_
            refine m_getf S hK 44 (by decide) (S.2.2.2.2 _ (List.mem_of_getElem? (i := 7) rfl)) rfl dX6_shrink_201 ?_
            refine g_iload S dX6_shrink_204 rfl ?_
            refine g_dup2_11 S dX6_shrink_206 rfl rfl ?_
            refine m_iald S hK (by decide) hb dX6_shrink_207 ?_
            refine g_iconst S (v := 1) dX6_shrink_208 (by decide) ?_
            refine g_iadd S dX6_shrink_209 ?_
            refine m_iast S hK (by decide) hb dX6_shrink_210 ?_
            refine g_aload_n S dX6_shrink_211 rfl ?_
            refine m_getf S hK 45 (by decide) (S.2.2.2.2 _ (List.mem_of_getElem? (i := 8) rfl)) rfl dX6_shrink_212 ?_
            refine g_iload S dX6_shrink_215 rfl ?_
            refine g_iconst S (v := (-1)) dX6_shrink_217 (by decide) ?_
            refine m_iast S hK (by decide) hb dX6_shrink_218 ?_
            refine g_iinc S dX6_shrink_219 rfl rfl (by decide) rfl ?_
            refine g_goto S (tgt := 148) dX6_shrink_222 (by decide) ?_
            refine g_drop 6 ?_
            exact ih _ _ (i_dec ei) (by exact ⟨mWf_X (k := 45) (mWf_X (k := 44) ht.1 _ trivial) _ trivial, ht.2⟩) (by rw [← e1]; have eb2 : best = mBest a9 1 (nr - 1) 0 := eb; simp only [mSh2, mShStep, ecl9]; rw [← eb2]) _
          · exact absurd (lp_exit ht.2 (by omega) (by omega)) c_165
        | succ kb ihb =>
          intro i best eib hb eb
          refine g_iload S dX6_shrink_159 rfl ?_
          refine g_aload_n S dX6_shrink_161 rfl ?_
          refine m_getf S hK 20 (by decide) (S.2.2.2.2 _ (List.mem_of_getElem? (i := 4) rfl)) rfl dX6_shrink_162 ?_
          refine g_icmp_ge S (tgt := 200) dX6_shrink_165 (by decide) (fun c_165 => ?_) (fun c_165 => ?_)
          · exact absurd c_165 (lp_stay ht.2 (by omega) (by omega))
          · refine g_aload_n S dX6_shrink_168 rfl ?_
            refine m_getf S hK 45 (by decide) (S.2.2.2.2 _ (List.mem_of_getElem? (i := 8) rfl)) rfl dX6_shrink_169 ?_
            refine g_iload S dX6_shrink_172 rfl ?_
            refine m_iald S hK (by decide) (vin_nI (N := 80) (by omega) (by decide)) dX6_shrink_174 ?_
            refine g_aload_n S dX6_shrink_175 rfl ?_
            refine m_getf S hK 45 (by decide) (S.2.2.2.2 _ (List.mem_of_getElem? (i := 8) rfl)) rfl dX6_shrink_176 ?_
            refine g_iload S dX6_shrink_179 rfl ?_
            refine m_iald S hK (by decide) hb dX6_shrink_181 ?_
            refine g_icmp_le S (tgt := 190) dX6_shrink_182 (by decide) (fun c_182 => ?_) (fun c_182 => ?_)
            · refine g_iload S dX6_shrink_190 rfl ?_
              refine g_istore S dX6_shrink_192 (by decide) rfl ?_
              refine g_iinc S (v := nI (i + 1)) dX6_shrink_194 rfl (nI_inc i) (by decide) rfl ?_
              refine g_goto S (tgt := 159) dX6_shrink_197 (by decide) ?_
              exact ihb (i + 1) _ (by omega) hb (by rw [← eb]; simp only [mBest, c_182, if_true, if_false, reduceIte, Bool.false_eq_true, not_true_eq_false, not_false_eq_true, ite_not, true_and, and_true])
            · refine g_iload S dX6_shrink_185 rfl ?_
              refine g_goto S (tgt := 192) dX6_shrink_187 (by decide) ?_
              refine g_istore S dX6_shrink_192 (by decide) rfl ?_
              refine g_iinc S (v := nI (i + 1)) dX6_shrink_194 rfl (nI_inc i) (by decide) rfl ?_
              refine g_goto S (tgt := 159) dX6_shrink_197 (by decide) ?_
              exact ihb (i + 1) _ (by omega) (vin_nI (N := 80) (by omega) (by decide)) (by rw [← eb]; simp only [mBest, c_182, if_true, if_false, reduceIte, Bool.false_eq_true, not_true_eq_false, not_false_eq_true, ite_not, true_and, and_true])
      refine g_iload S dX6_shrink_148 rfl ?_
      refine g_if_le S (tgt := 225) dX6_shrink_150 (by decide) (fun c_150 => ?_) (fun c_150 => ?_)
      · exact absurd (i_npos c_150) (by omega)
      · refine g_iconst S (v := 0) dX6_shrink_153 (by decide) ?_
        refine g_istore S dX6_shrink_154 (by decide) rfl ?_
        refine g_iconst S (v := 1) dX6_shrink_156 (by decide) ?_
        refine g_istore S dX6_shrink_157 (by decide) rfl ?_
        exact LB (nr - 1) 1 0 (by omega) (by unfold vp_in; decide) rfl
  have L1 : ∀ (kk i : Nat) (a9 : MS) (left : Int32), i + kk = nr → (mWf a9 ∧ gS a9 20 = nI nr ∧ (∀ j : Nat, gA a9 23 (nI j) = gA a 23 (nI j) ∧ gA a9 21 (nI j) = gA a 21 (nI j))) → mSh1 s9 (gA a 9 s9) (mLoss a s9) i kk a9 left = (mSh1 s9 (gA a 9 s9) (mLoss a s9) 0 nr a (mLoss a s9)) → gW p l e (headSpec wsX6_shrink rmX6_shrink).room s m args below meth c A (gR below A args s 0 0 (gRet none (hM D ty A mo ad (mX (mSh3 (mLoss a s9) 0 nr (mSh2 (mSh1 s9 (gA a 9 s9) (mLoss a s9) 0 nr a (mLoss a s9)).2.toInt.toNat (mSh1 s9 (gA a 9 s9) (mLoss a s9) 0 nr a (mLoss a s9)).1)) 12 s9 (gA (mSh3 (mLoss a s9) 0 nr (mSh2 (mSh1 s9 (gA a 9 s9) (mLoss a s9) 0 nr a (mLoss a s9)).2.toInt.toNat (mSh1 s9 (gA a 9 s9) (mLoss a s9) 0 nr a (mLoss a s9)).1)) 12 s9 + (mLoss a s9)))))) 9 (hM D ty A mo ad a9) 0 0 27 [some (.ref mo), some (.int s9), some (.int (gA a 9 s9)), some (.int (mLoss a s9)), some (.int left), some (.int (nI i)), none, none, none] [] := by
    intro kk
    induction kk with
    | zero =>
      intro i a9 left ei ht e1
      refine g_iload S dX6_shrink_27 rfl ?_
      refine g_aload_n S dX6_shrink_29 rfl ?_
      refine m_getf S hK 20 (by decide) (S.2.2.2.2 _ (List.mem_of_getElem? (i := 4) rfl)) rfl dX6_shrink_30 ?_
      refine g_icmp_ge S (tgt := 148) dX6_shrink_33 (by decide) (fun c_33 => ?_) (fun c_33 => ?_)
      · exact L2 _ _ left rfl ⟨ht.1, ht.2.1⟩ (by rw [← e1]; rfl) _
      · exact absurd (lp_exit ht.2.1 (by omega) (by omega)) c_33
    | succ kk ih =>
      intro i a9 left ei ht e1
      refine g_iload S dX6_shrink_27 rfl ?_
      refine g_aload_n S dX6_shrink_29 rfl ?_
      refine m_getf S hK 20 (by decide) (S.2.2.2.2 _ (List.mem_of_getElem? (i := 4) rfl)) rfl dX6_shrink_30 ?_
      refine g_icmp_ge S (tgt := 148) dX6_shrink_33 (by decide) (fun c_33 => ?_) (fun c_33 => ?_)
      · exact absurd c_33 (lp_stay ht.2.1 (by omega) (by omega))
      · refine g_aload_n S dX6_shrink_36 rfl ?_
        refine m_getf S hK 23 (by decide) (S.2.2.2.2 _ (List.mem_of_getElem? (i := 5) rfl)) rfl dX6_shrink_37 ?_
        refine g_iload S dX6_shrink_40 rfl ?_
        refine m_iald S hK (by decide) (vin_nI (N := 80) (by omega) (by decide)) dX6_shrink_42 ?_
        refine g_iload_n S dX6_shrink_43 rfl ?_
        refine g_icmp_ne S (tgt := 61) dX6_shrink_44 (by decide) (fun c_44 => ?_) (fun c_44 => ?_)
        · refine g_iconst S (v := 0) dX6_shrink_61 (by decide) ?_
          refine g_istore S dX6_shrink_62 (by decide) rfl ?_
          refine g_iload S dX6_shrink_64 rfl ?_
          refine g_if_eq S (tgt := 83) dX6_shrink_66 (by decide) (fun c_66 => ?_) (fun c_66 => ?_)
          · refine g_lconst S (v := 0) dX6_shrink_83 (by decide) ?_
            refine g_lstore S dX6_shrink_84 (by decide) rfl ?_
            refine g_aload_n S dX6_shrink_86 rfl ?_
            refine m_getf S hK 44 (by decide) (S.2.2.2.2 _ (List.mem_of_getElem? (i := 7) rfl)) rfl dX6_shrink_87 ?_
            refine g_iload S dX6_shrink_90 rfl ?_
            refine g_iload S dX6_shrink_92 rfl ?_
            refine g_if_eq S (tgt := 106) dX6_shrink_94 (by decide) (fun c_94 => ?_) (fun c_94 => ?_)
            · refine g_iconst S (v := 0) dX6_shrink_106 (by decide) ?_
              refine m_iast S hK (by decide) (vin_nI (N := 80) (by omega) (by decide)) dX6_shrink_107 ?_
              refine g_aload_n S dX6_shrink_108 rfl ?_
              refine m_getf S hK 45 (by decide) (S.2.2.2.2 _ (List.mem_of_getElem? (i := 8) rfl)) rfl dX6_shrink_109 ?_
              refine g_iload S dX6_shrink_112 rfl ?_
              refine g_iload S dX6_shrink_114 rfl ?_
              refine g_if_eq S (tgt := 128) dX6_shrink_116 (by decide) (fun c_116 => ?_) (fun c_116 => ?_)
              · refine g_iconst S (v := (-1)) dX6_shrink_128 (by decide) ?_
                refine m_iast S hK (by decide) (vin_nI (N := 80) (by omega) (by decide)) dX6_shrink_129 ?_
                refine g_iload S dX6_shrink_130 rfl ?_
                refine g_aload_n S dX6_shrink_132 rfl ?_
                refine m_getf S hK 44 (by decide) (S.2.2.2.2 _ (List.mem_of_getElem? (i := 7) rfl)) rfl dX6_shrink_133 ?_
                refine g_iload S dX6_shrink_136 rfl ?_
                refine m_iald S hK (by decide) (vin_nI (N := 80) (by omega) (by decide)) dX6_shrink_138 ?_
                refine g_isub S dX6_shrink_139 ?_
                refine g_istore S dX6_shrink_140 (by decide) rfl ?_
                refine g_iinc S (v := nI (i + 1)) dX6_shrink_142 rfl (nI_inc i) (by decide) rfl ?_
                refine g_goto S (tgt := 27) dX6_shrink_145 (by decide) ?_
                refine g_drop 6 (g_drop 7 ?_)
                exact ih (i + 1) _ _ (by omega) (by exact ⟨mWf_X (k := 45) (mWf_X (k := 44) ht.1 _ trivial) _ trivial, ht.2.1, ht.2.2⟩) (by rw [← e1]; simp only [mSh1, c_44, if_true, if_false, reduceIte, Bool.false_eq_true, not_true_eq_false, not_false_eq_true, ite_not, true_and, and_true])
              · exact absurd c_116 (by decide)
            · exact absurd c_94 (by decide)
          · exact absurd c_66 (by decide)
        · refine g_aload_n S dX6_shrink_47 rfl ?_
          refine m_getf S hK 21 (by decide) (S.2.2.2.2 _ (List.mem_of_getElem? (i := 6) rfl)) rfl dX6_shrink_48 ?_
          refine g_iload S dX6_shrink_51 rfl ?_
          refine m_iald S hK (by decide) (vin_nI (N := 80) (by omega) (by decide)) dX6_shrink_53 ?_
          refine g_if_le S (tgt := 61) dX6_shrink_54 (by decide) (fun c_54 => ?_) (fun c_54 => ?_)
          · refine g_iconst S (v := 0) dX6_shrink_61 (by decide) ?_
            refine g_istore S dX6_shrink_62 (by decide) rfl ?_
            refine g_iload S dX6_shrink_64 rfl ?_
            refine g_if_eq S (tgt := 83) dX6_shrink_66 (by decide) (fun c_66 => ?_) (fun c_66 => ?_)
            · refine g_lconst S (v := 0) dX6_shrink_83 (by decide) ?_
              refine g_lstore S dX6_shrink_84 (by decide) rfl ?_
              refine g_aload_n S dX6_shrink_86 rfl ?_
              refine m_getf S hK 44 (by decide) (S.2.2.2.2 _ (List.mem_of_getElem? (i := 7) rfl)) rfl dX6_shrink_87 ?_
              refine g_iload S dX6_shrink_90 rfl ?_
              refine g_iload S dX6_shrink_92 rfl ?_
              refine g_if_eq S (tgt := 106) dX6_shrink_94 (by decide) (fun c_94 => ?_) (fun c_94 => ?_)
              · refine g_iconst S (v := 0) dX6_shrink_106 (by decide) ?_
                refine m_iast S hK (by decide) (vin_nI (N := 80) (by omega) (by decide)) dX6_shrink_107 ?_
                refine g_aload_n S dX6_shrink_108 rfl ?_
                refine m_getf S hK 45 (by decide) (S.2.2.2.2 _ (List.mem_of_getElem? (i := 8) rfl)) rfl dX6_shrink_109 ?_
                refine g_iload S dX6_shrink_112 rfl ?_
                refine g_iload S dX6_shrink_114 rfl ?_
                refine g_if_eq S (tgt := 128) dX6_shrink_116 (by decide) (fun c_116 => ?_) (fun c_116 => ?_)
                · refine g_iconst S (v := (-1)) dX6_shrink_128 (by decide) ?_
                  refine m_iast S hK (by decide) (vin_nI (N := 80) (by omega) (by decide)) dX6_shrink_129 ?_
                  refine g_iload S dX6_shrink_130 rfl ?_
                  refine g_aload_n S dX6_shrink_132 rfl ?_
                  refine m_getf S hK 44 (by decide) (S.2.2.2.2 _ (List.mem_of_getElem? (i := 7) rfl)) rfl dX6_shrink_133 ?_
                  refine g_iload S dX6_shrink_136 rfl ?_
                  refine m_iald S hK (by decide) (vin_nI (N := 80) (by omega) (by decide)) dX6_shrink_138 ?_
                  refine g_isub S dX6_shrink_139 ?_
                  refine g_istore S dX6_shrink_140 (by decide) rfl ?_
                  refine g_iinc S (v := nI (i + 1)) dX6_shrink_142 rfl (nI_inc i) (by decide) rfl ?_
                  refine g_goto S (tgt := 27) dX6_shrink_145 (by decide) ?_
                  refine g_drop 6 (g_drop 7 ?_)
                  exact ih (i + 1) _ _ (by omega) (by exact ⟨mWf_X (k := 45) (mWf_X (k := 44) ht.1 _ trivial) _ trivial, ht.2.1, ht.2.2⟩) (by rw [← e1]; simp only [mSh1, c_44, c_54, if_true, if_false, reduceIte, Bool.false_eq_true, not_true_eq_false, not_false_eq_true, ite_not, true_and, and_true])
                · exact absurd c_116 (by decide)
              · exact absurd c_94 (by decide)
            · exact absurd c_66 (by decide)
          · refine g_iconst S (v := 1) dX6_shrink_57 (by decide) ?_
            refine g_goto S (tgt := 62) dX6_shrink_58 (by decide) ?_
            refine g_istore S dX6_shrink_62 (by decide) rfl ?_
            refine g_iload S dX6_shrink_64 rfl ?_
            refine g_if_eq S (tgt := 83) dX6_shrink_66 (by decide) (fun c_66 => ?_) (fun c_66 => ?_)
            · exact absurd c_66 (by decide)
            · refine g_iload_n S dX6_shrink_69 rfl ?_
              refine g_i2l S dX6_shrink_70 ?_
              refine g_aload_n S dX6_shrink_71 rfl ?_
              refine m_getf S hK 21 (by decide) (S.2.2.2.2 _ (List.mem_of_getElem? (i := 6) rfl)) rfl dX6_shrink_72 ?_
              refine g_iload S dX6_shrink_75 rfl ?_
              refine m_iald S hK (by decide) (vin_nI (N := 80) (by omega) (by decide)) dX6_shrink_77 ?_
              refine g_i2l S dX6_shrink_78 ?_
              refine g_lmul S dX6_shrink_79 ?_
              refine g_goto S (tgt := 84) dX6_shrink_80 (by decide) ?_
              refine g_lstore S dX6_shrink_84 (by decide) rfl ?_
              refine g_aload_n S dX6_shrink_86 rfl ?_
              refine m_getf S hK 44 (by decide) (S.2.2.2.2 _ (List.mem_of_getElem? (i := 7) rfl)) rfl dX6_shrink_87 ?_
              refine g_iload S dX6_shrink_90 rfl ?_
              refine g_iload S dX6_shrink_92 rfl ?_
              refine g_if_eq S (tgt := 106) dX6_shrink_94 (by decide) (fun c_94 => ?_) (fun c_94 => ?_)
              · exact absurd c_94 (by decide)
              · refine g_lload S dX6_shrink_97 rfl ?_
                refine g_iload_n S dX6_shrink_99 rfl ?_
                refine g_i2l S dX6_shrink_100 ?_
                refine g_ldiv S dX6_shrink_101 (hz i (by omega) (by rw [← (ht.2.2 i).1]; exact c_44) (by rw [← (ht.2.2 i).2]; exact c_54)) ?_
                refine g_l2i S dX6_shrink_102 ?_
                refine g_goto S (tgt := 107) dX6_shrink_103 (by decide) ?_
                refine m_iast S hK (by decide) (vin_nI (N := 80) (by omega) (by decide)) dX6_shrink_107 ?_
                refine g_aload_n S dX6_shrink_108 rfl ?_
                refine m_getf S hK 45 (by decide) (S.2.2.2.2 _ (List.mem_of_getElem? (i := 8) rfl)) rfl dX6_shrink_109 ?_
                refine g_iload S dX6_shrink_112 rfl ?_
                refine g_iload S dX6_shrink_114 rfl ?_
                refine g_if_eq S (tgt := 128) dX6_shrink_116 (by decide) (fun c_116 => ?_) (fun c_116 => ?_)
                · exact absurd c_116 (by decide)
                · refine g_lload S dX6_shrink_119 rfl ?_
                  refine g_iload_n S dX6_shrink_121 rfl ?_
                  refine g_i2l S dX6_shrink_122 ?_
                  refine g_lrem S dX6_shrink_123 (hz i (by omega) (by rw [← (ht.2.2 i).1]; exact c_44) (by rw [← (ht.2.2 i).2]; exact c_54)) ?_
                  refine g_l2i S dX6_shrink_124 ?_
                  refine g_goto S (tgt := 129) dX6_shrink_125 (by decide) ?_
                  refine m_iast S hK (by decide) (vin_nI (N := 80) (by omega) (by decide)) dX6_shrink_129 ?_
                  refine g_iload S dX6_shrink_130 rfl ?_
                  refine g_aload_n S dX6_shrink_132 rfl ?_
                  refine m_getf S hK 44 (by decide) (S.2.2.2.2 _ (List.mem_of_getElem? (i := 7) rfl)) rfl dX6_shrink_133 ?_
                  refine g_iload S dX6_shrink_136 rfl ?_
                  refine m_iald S hK (by decide) (vin_nI (N := 80) (by omega) (by decide)) dX6_shrink_138 ?_
                  refine g_isub S dX6_shrink_139 ?_
                  refine g_istore S dX6_shrink_140 (by decide) rfl ?_
                  refine g_iinc S (v := nI (i + 1)) dX6_shrink_142 rfl (nI_inc i) (by decide) rfl ?_
                  refine g_goto S (tgt := 27) dX6_shrink_145 (by decide) ?_
                  refine g_drop 6 (g_drop 7 ?_)
                  exact ih (i + 1) _ _ (by omega) (by exact ⟨mWf_X (k := 45) (mWf_X (k := 44) ht.1 _ trivial) _ trivial, ht.2.1, ht.2.2⟩) (by rw [← e1]; simp only [mSh1, c_44, c_54, if_true, if_false, reduceIte, Bool.false_eq_true, not_true_eq_false, not_false_eq_true, ite_not, true_and, and_true])
  refine g_aload_n S dX6_shrink_0 rfl ?_
  refine m_getf S hK 9 (by decide) (S.2.2.2.2 _ (List.mem_of_getElem? (i := 1) rfl)) rfl dX6_shrink_1 ?_
  refine g_iload_n S dX6_shrink_4 rfl ?_
  refine m_iald S hK (by decide) hs9 dX6_shrink_5 ?_
  refine g_istore_n S dX6_shrink_6 (by decide) rfl ?_
  refine g_iload_n S dX6_shrink_7 rfl ?_
  refine g_i2l S dX6_shrink_8 ?_
  refine g_aload_n S dX6_shrink_9 rfl ?_
  refine m_getf S hK 2 (by decide) (S.2.2.2.2 _ (List.mem_of_getElem? (i := 2) rfl)) rfl dX6_shrink_10 ?_
  refine g_i2l S dX6_shrink_13 ?_
  refine g_lmul S dX6_shrink_14 ?_
  refine g_ldc2 S (S.2.2.2.2 _ (List.mem_of_getElem? (i := 3) rfl)) dX6_shrink_15 ?_
  refine g_ldiv S dX6_shrink_18 (by decide) ?_
  refine g_l2i S dX6_shrink_19 ?_
  refine g_istore_n S dX6_shrink_20 (by decide) rfl ?_
  refine g_iload_n S dX6_shrink_21 rfl ?_
  refine g_istore S dX6_shrink_22 (by decide) rfl ?_
  refine g_iconst S (v := 0) dX6_shrink_24 (by decide) ?_
  refine g_istore S dX6_shrink_25 (by decide) rfl ?_
  exact L1 nr 0 a _ (Nat.zero_add _) ⟨hw, enr, fun _ => ⟨rfl, rfl⟩⟩ rfl
