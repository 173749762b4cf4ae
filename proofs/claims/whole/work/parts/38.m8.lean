theorem vin_succ {x : Int32} {N : Nat} (h : vp_in x N) (hN : N < 2 ^ 31 - 1) : vp_in (x + 1) (N + 1) := by
  obtain ⟨j, hj, rfl⟩ := vp_in_of h (by omega)
  rw [nI_1]
  exact vin_nI (by omega) (by omega)
theorem mBecome_wf {a : MS} (hw : mWf a) (r : Int32) {who : Int32} (h : vp_in who 6) : mWf (mBecome a r who) :=
  mWf_S (mWf_X (k := 32) (mWf_X (k := 31) (mWf_X (k := 30) (mWf_X (k := 28) (mWf_X (k := 22) hw _ h) _ (Or.inl rfl)) _ trivial) _ trivial) _ trivial) _ _
theorem mMake_wf {a : MS} (hw : mWf a) (much : Int32) {who s d : Int32} (h : vp_in who 6) (hs : vp_in s 6) (hd : vp_in d 40) : mWf (mMake a much who s d) :=
  mBecome_wf (mWf_S (mWf_X (k := 25) (mWf_X (k := 24) (mWf_X (k := 23) (mWf_X (k := 21) hw _ trivial) _ hs) _ hd) _ (Or.inl rfl)) _ _) _ h
theorem mSplitOff_wf {a : MS} (hw : mWf a) (r much : Int32) : mWf (mSplitOff a r much) := by
  have h1 : mWf (mX a 21 r (gA a 21 r - much)) := mWf_X (k := 21) hw _ trivial
  have h2 := mMake_wf h1 much (h1 22 r.toNatClampNeg) (h1 23 r.toNatClampNeg) (h1 24 r.toNatClampNeg)
  exact mWf_X (k := 28) h2 _ (h2 28 _)
def mHand (b : MS) (c own : Int32) : MS :=
  let b1 := mBecome b own (gA b 35 c)
  let b2 := mX b1 28 own c
  mX b2 42 c (gA b2 42 c + gA b2 21 own)
theorem mHand_wf {a : MS} (hw : mWf a) {c : Int32} (hc : vp_in c 30) (own : Int32) : mWf (mHand a c own) :=
  mWf_X (k := 42) (mWf_X (k := 28) (mBecome_wf hw own (hw 35 c.toNatClampNeg)) _ (Or.inr hc)) _ trivial
def mSet1 (c : Int32) : Nat → Nat → MS → MS
  | _, 0, a => a
  | i, k + 1, a =>
    if gA a 21 (nI i) ≤ 0 then mSet1 c (i + 1) k a
    else if ¬ gA a 22 (nI i) = gA a 34 c then mSet1 c (i + 1) k a
    else if ¬ gA a 25 (nI i) = -1 then mSet1 c (i + 1) k a
    else if ¬ mIsOf a (gA a 23 (nI i)) (gA a 36 c) (gA a 37 c) = true then mSet1 c (i + 1) k a
    else if gA a 38 c - gA a 42 c ≤ 0 then mSet1 c (i + 1) k a
    else if gA a 21 (nI i) ≤ gA a 38 c - gA a 42 c then mSet1 c (i + 1) k (mHand a c (nI i))
    else if ¬ gS a 20 = 80 then mSet1 c (i + 1) k (mHand (mSplitOff a (nI i) (gA a 38 c - gA a 42 c)) c (gS a 20))
    else a
def mSetEnd (a : MS) (c : Int32) : MS :=
  let b := mX a 43 c (gA a 38 c - gA a 42 c)
  let b := mX b 41 c 1
  let b := mPay b (gA b 35 c) (gA b 34 c) ((gA b 42 c).toInt64 * (gA b 40 c).toInt64)
  mPay b (gA b 34 c) (gA b 35 c) ((gA b 43 c).toInt64 * (gS b 4).toInt64)
def mSettle (a : MS) (c : Int32) : MS := mSetEnd (mSet1 c 0 (gS a 20).toNatClampNeg a) c
abbrev rmX6_settle : Room := { frames := 3, cells := 0, slots := 0, locals := 69 }
set_option maxHeartbeats 1500000 in
set_option maxRecDepth 100000 in
theorem c_settle (l : Launch) (D : va_G) (ty : Nat → ClassId) (A : Nat → Prop) (mo : Nat) (ad : Nat → Nat) (a : MS) (c9 : Int32) (hw : mWf a) (hn1 : vp_in (gS a 20) 81) (hc : vp_in (gS a 29) 5600) (hc0 : vp_in c9 30) : Met l yX6_settle wsX6_settle rmX6_settle (gPc D ty false [] 0 A [.ref mo, .int c9] (hM D ty A mo ad a)) (gQ A (gRet none (hM D ty A mo ad (mSettle a c9)))) 0 0 A := by
  obtain ⟨nr, h80, enr⟩ := vp_in_of hn1 (by decide)
  have ecl : (gS a 20).toNatClampNeg = nr := by rw [enr]; exact nI_clamp (by omega)
  have eS : mSettle a c9 = mSetEnd (mSet1 c9 0 nr a) c9 := by simp only [mSettle, ecl]
  rw [eS]
  refine g_Met (cc := cX6_settle) (maxL := 9) (ret := none) [some (.ref mo), some (.int c9), none, none, none, none, none, none, none] (by decide) rfl (Nat.le_of_ble_eq_true rfl) rfl ?_
  intro p e s m args below meth c S hlk hr hnm hK hE hP0
  have S : CallFix p m c cX6_settle 9 s args wsX6_settle RX6 := S
  have L : ∀ (kk i : Nat) (a9 : MS), i + kk = nr → (mWf a9 ∧ vp_in (gS a9 20) 81 ∧ vp_in (gS a9 29) (5600 + 2 * i)) → mSet1 c9 i kk a9 = (mSet1 c9 0 nr a) → gW p l e (headSpec wsX6_settle rmX6_settle).room s m args below meth c A (gR below A args s 0 0 (gRet none (hM D ty A mo ad (mSetEnd (mSet1 c9 0 nr a) c9)))) 9 (hM D ty A mo ad a9) 0 0 10 [some (.ref mo), some (.int c9), some (.int (gS a 20)), some (.int 0), some (.int (nI i)), none, none, none, none] [] := by
    intro kk
    induction kk with
    | zero =>
      intro i a9 ei ht e1
      refine g_iload S dX6_settle_10 rfl ?_
      refine g_iload_n S dX6_settle_12 rfl ?_
      refine g_icmp_ge S (tgt := 225) dX6_settle_13 (by decide) (fun c_13 => ?_) (fun c_13 => ?_)
      · refine g_aload_n S dX6_settle_225 rfl ?_
        refine m_getf S hK 43 (by decide) (S.2.2.2.2 _ (List.mem_of_getElem? (i := 13) rfl)) rfl dX6_settle_226 ?_
        refine g_iload_n S dX6_settle_229 rfl ?_
        refine g_aload_n S dX6_settle_230 rfl ?_
        refine m_getf S hK 38 (by decide) (S.2.2.2.2 _ (List.mem_of_getElem? (i := 2) rfl)) rfl dX6_settle_231 ?_
        refine g_iload_n S dX6_settle_234 rfl ?_
        refine m_iald S hK (by decide) hc0 dX6_settle_235 ?_
        refine g_aload_n S dX6_settle_236 rfl ?_
        refine m_getf S hK 42 (by decide) (S.2.2.2.2 _ (List.mem_of_getElem? (i := 3) rfl)) rfl dX6_settle_237 ?_
        refine g_iload_n S dX6_settle_240 rfl ?_
        refine m_iald S hK (by decide) hc0 dX6_settle_241 ?_
        refine g_isub S dX6_settle_242 ?_
        refine m_iast S hK (by decide) hc0 dX6_settle_243 ?_
        refine g_aload_n S dX6_settle_244 rfl ?_
        refine m_getf S hK 41 (by decide) (S.2.2.2.2 _ (List.mem_of_getElem? (i := 14) rfl)) rfl dX6_settle_245 ?_
        refine g_iload_n S dX6_settle_248 rfl ?_
        refine g_iconst S (v := 1) dX6_settle_249 (by decide) ?_
        refine m_zast S hK rfl hc0 dX6_settle_250 ?_
        refine g_aload_n S dX6_settle_251 rfl ?_
        refine g_aload_n S dX6_settle_252 rfl ?_
        refine m_getf S hK 35 (by decide) (S.2.2.2.2 _ (List.mem_of_getElem? (i := 11) rfl)) rfl dX6_settle_253 ?_
        refine g_iload_n S dX6_settle_256 rfl ?_
        refine m_iald S hK (by decide) hc0 dX6_settle_257 ?_
        refine g_aload_n S dX6_settle_258 rfl ?_
        refine m_getf S hK 34 (by decide) (S.2.2.2.2 _ (List.mem_of_getElem? (i := 6) rfl)) rfl dX6_settle_259 ?_
        refine g_iload_n S dX6_settle_262 rfl ?_
        refine m_iald S hK (by decide) hc0 dX6_settle_263 ?_
        refine g_aload_n S dX6_settle_264 rfl ?_
        refine m_getf S hK 42 (by decide) (S.2.2.2.2 _ (List.mem_of_getElem? (i := 3) rfl)) rfl dX6_settle_265 ?_
        refine g_iload_n S dX6_settle_268 rfl ?_
        refine m_iald S hK (by decide) hc0 dX6_settle_269 ?_
        refine g_i2l S dX6_settle_270 ?_
        refine g_aload_n S dX6_settle_271 rfl ?_
        refine m_getf S hK 40 (by decide) (S.2.2.2.2 _ (List.mem_of_getElem? (i := 15) rfl)) rfl dX6_settle_272 ?_
        refine g_iload_n S dX6_settle_275 rfl ?_
        refine m_iald S hK (by decide) hc0 dX6_settle_276 ?_
        refine g_i2l S dX6_settle_277 ?_
        refine g_lmul S dX6_settle_278 ?_
        refine g_cVv S (c_mpay l D ty A mo ad _ _ _ _ (by exact ht.1 35 _) (by exact ht.1 34 _)) (cwV 3 S.2.2.2.2 gX6_settle_X6_pay rfl rfl rfl (by decide +kernel) ⟨Nat.le_of_ble_eq_true rfl, Nat.le_of_ble_eq_true rfl⟩) hK hE (fun H h => h) (m_recv hK) rfl (Nat.le_of_ble_eq_true rfl) dX6_settle_279 ⟨Nat.le_of_ble_eq_true rfl, Nat.le_of_ble_eq_true rfl⟩ ?_
        refine g_aload_n S dX6_settle_282 rfl ?_
        refine g_aload_n S dX6_settle_283 rfl ?_
        refine m_getf S hK 34 (by decide) (S.2.2.2.2 _ (List.mem_of_getElem? (i := 6) rfl)) rfl dX6_settle_284 ?_
        refine g_iload_n S dX6_settle_287 rfl ?_
        refine m_iald S hK (by decide) hc0 dX6_settle_288 ?_
        refine g_aload_n S dX6_settle_289 rfl ?_
        refine m_getf S hK 35 (by decide) (S.2.2.2.2 _ (List.mem_of_getElem? (i := 11) rfl)) rfl dX6_settle_290 ?_
        refine g_iload_n S dX6_settle_293 rfl ?_
        refine m_iald S hK (by decide) hc0 dX6_settle_294 ?_
        refine g_aload_n S dX6_settle_295 rfl ?_
        refine m_getf S hK 43 (by decide) (S.2.2.2.2 _ (List.mem_of_getElem? (i := 13) rfl)) rfl dX6_settle_296 ?_
        refine g_iload_n S dX6_settle_299 rfl ?_
        refine m_iald S hK (by decide) hc0 dX6_settle_300 ?_
        refine g_i2l S dX6_settle_301 ?_
        refine g_aload_n S dX6_settle_302 rfl ?_
        refine m_getf S hK 4 (by decide) (S.2.2.2.2 _ (List.mem_of_getElem? (i := 16) rfl)) rfl dX6_settle_303 ?_
        refine g_i2l S dX6_settle_306 ?_
        refine g_lmul S dX6_settle_307 ?_
        refine g_cVv S (c_mpay l D ty A mo ad _ _ _ _ (by exact ht.1 34 _) (by exact ht.1 35 _)) (cwV 3 S.2.2.2.2 gX6_settle_X6_pay rfl rfl rfl (by decide +kernel) ⟨Nat.le_of_ble_eq_true rfl, Nat.le_of_ble_eq_true rfl⟩) hK hE (fun H h => h) (m_recv hK) rfl (Nat.le_of_ble_eq_true rfl) dX6_settle_308 ⟨Nat.le_of_ble_eq_true rfl, Nat.le_of_ble_eq_true rfl⟩ ?_
        exact g_vret S hlk hr (fun H h => ⟨rfl, by rw [← e1]; exact h⟩) (Nat.le_refl _) (Nat.le_refl _) dX6_settle_311
      · exact absurd (lp_exit enr (by omega) (by omega)) c_13
    | succ kk ih =>
      intro i a9 ei ht e1
      refine g_iload S dX6_settle_10 rfl ?_
      refine g_iload_n S dX6_settle_12 rfl ?_
      refine g_icmp_ge S (tgt := 225) dX6_settle_13 (by decide) (fun c_13 => ?_) (fun c_13 => ?_)
      · exact absurd c_13 (lp_stay enr (by omega) (by omega))
      · refine g_iload_n S dX6_settle_16 rfl ?_
        refine g_if_ne S (tgt := 225) dX6_settle_17 (by decide) (fun c_17 => ?_) (fun c_17 => ?_)
        · exact absurd c_17 (by decide)
        · refine g_aload_n S dX6_settle_20 rfl ?_
          refine m_getf S hK 38 (by decide) (S.2.2.2.2 _ (List.mem_of_getElem? (i := 2) rfl)) rfl dX6_settle_21 ?_
          refine g_iload_n S dX6_settle_24 rfl ?_
          refine m_iald S hK (by decide) hc0 dX6_settle_25 ?_
          refine g_aload_n S dX6_settle_26 rfl ?_
          refine m_getf S hK 42 (by decide) (S.2.2.2.2 _ (List.mem_of_getElem? (i := 3) rfl)) rfl dX6_settle_27 ?_
          refine g_iload_n S dX6_settle_30 rfl ?_
          refine m_iald S hK (by decide) hc0 dX6_settle_31 ?_
          refine g_isub S dX6_settle_32 ?_
          refine g_istore S dX6_settle_33 (by decide) rfl ?_
          refine g_aload_n S dX6_settle_35 rfl ?_
          refine m_getf S hK 21 (by decide) (S.2.2.2.2 _ (List.mem_of_getElem? (i := 4) rfl)) rfl dX6_settle_36 ?_
          refine g_iload S dX6_settle_39 rfl ?_
          refine m_iald S hK (by decide) (vin_nI (N := 80) (by omega) (by decide)) dX6_settle_41 ?_
          refine g_if_le S (tgt := 107) dX6_settle_42 (by decide) (fun c_42 => ?_) (fun c_42 => ?_)
          · refine g_iconst S (v := 0) dX6_settle_107 (by decide) ?_
            refine g_istore S dX6_settle_108 (by decide) rfl ?_
            refine g_iload S dX6_settle_110 rfl ?_
            refine g_if_eq S (tgt := 131) dX6_settle_112 (by decide) (fun c_112 => ?_) (fun c_112 => ?_)
            · refine g_iconst S (v := 0) dX6_settle_131 (by decide) ?_
              refine g_istore S dX6_settle_132 (by decide) rfl ?_
              refine g_iload S dX6_settle_134 rfl ?_
              refine g_if_eq S (tgt := 152) dX6_settle_136 (by decide) (fun c_136 => ?_) (fun c_136 => ?_)
              · refine g_iconst S (v := 0) dX6_settle_152 (by decide) ?_
                refine g_istore_n S dX6_settle_153 (by decide) rfl ?_
                refine g_iload S dX6_settle_154 rfl ?_
                refine g_if_eq S (tgt := 219) dX6_settle_156 (by decide) (fun c_156 => ?_) (fun c_156 => ?_)
                · refine g_iinc S (v := nI (i + 1)) dX6_settle_219 rfl (nI_inc i) (by decide) rfl ?_
                  refine g_goto S (tgt := 10) dX6_settle_222 (by decide) ?_
                  refine g_drop 5 (g_drop 6 (g_drop 7 (g_drop 8 ?_)))
                  exact ih (i + 1) _ (by omega) (by exact ⟨ht.1, ht.2.1, vin_mono ht.2.2 (by omega)⟩) (by rw [← e1]; simp (config := { decide := true }) only [mSet1, c_42, if_true, if_false, reduceIte, Bool.false_eq_true, not_true_eq_false, not_false_eq_true, ite_not, true_and, and_true] <;> rfl)
                · exact absurd c_156 (by decide)
              · exact absurd c_136 (by decide)
            · exact absurd c_112 (by decide)
          · refine g_aload_n S dX6_settle_45 rfl ?_
            refine m_getf S hK 22 (by decide) (S.2.2.2.2 _ (List.mem_of_getElem? (i := 5) rfl)) rfl dX6_settle_46 ?_
            refine g_iload S dX6_settle_49 rfl ?_
            refine m_iald S hK (by decide) (vin_nI (N := 80) (by omega) (by decide)) dX6_settle_51 ?_
            refine g_aload_n S dX6_settle_52 rfl ?_
            refine m_getf S hK 34 (by decide) (S.2.2.2.2 _ (List.mem_of_getElem? (i := 6) rfl)) rfl dX6_settle_53 ?_
            refine g_iload_n S dX6_settle_56 rfl ?_
            refine m_iald S hK (by decide) hc0 dX6_settle_57 ?_
            refine g_icmp_ne S (tgt := 107) dX6_settle_58 (by decide) (fun c_58 => ?_) (fun c_58 => ?_)
            · refine g_iconst S (v := 0) dX6_settle_107 (by decide) ?_
              refine g_istore S dX6_settle_108 (by decide) rfl ?_
              refine g_iload S dX6_settle_110 rfl ?_
              refine g_if_eq S (tgt := 131) dX6_settle_112 (by decide) (fun c_112 => ?_) (fun c_112 => ?_)
              · refine g_iconst S (v := 0) dX6_settle_131 (by decide) ?_
                refine g_istore S dX6_settle_132 (by decide) rfl ?_
                refine g_iload S dX6_settle_134 rfl ?_
                refine g_if_eq S (tgt := 152) dX6_settle_136 (by decide) (fun c_136 => ?_) (fun c_136 => ?_)
                · refine g_iconst S (v := 0) dX6_settle_152 (by decide) ?_
                  refine g_istore_n S dX6_settle_153 (by decide) rfl ?_
                  refine g_iload S dX6_settle_154 rfl ?_
                  refine g_if_eq S (tgt := 219) dX6_settle_156 (by decide) (fun c_156 => ?_) (fun c_156 => ?_)
                  · refine g_iinc S (v := nI (i + 1)) dX6_settle_219 rfl (nI_inc i) (by decide) rfl ?_
                    refine g_goto S (tgt := 10) dX6_settle_222 (by decide) ?_
                    refine g_drop 5 (g_drop 6 (g_drop 7 (g_drop 8 ?_)))
                    exact ih (i + 1) _ (by omega) (by exact ⟨ht.1, ht.2.1, vin_mono ht.2.2 (by omega)⟩) (by rw [← e1]; simp (config := { decide := true }) only [mSet1, c_42, c_58, if_true, if_false, reduceIte, Bool.false_eq_true, not_true_eq_false, not_false_eq_true, ite_not, true_and, and_true] <;> rfl)
                  · exact absurd c_156 (by decide)
                · exact absurd c_136 (by decide)
              · exact absurd c_112 (by decide)
            · refine g_aload_n S dX6_settle_61 rfl ?_
              refine m_getf S hK 25 (by decide) (S.2.2.2.2 _ (List.mem_of_getElem? (i := 7) rfl)) rfl dX6_settle_62 ?_
              refine g_iload S dX6_settle_65 rfl ?_
              refine m_iald S hK (by decide) (vin_nI (N := 80) (by omega) (by decide)) dX6_settle_67 ?_
              refine g_iconst S (v := (-1)) dX6_settle_68 (by decide) ?_
              refine g_icmp_ne S (tgt := 107) dX6_settle_69 (by decide) (fun c_69 => ?_) (fun c_69 => ?_)
              · refine g_iconst S (v := 0) dX6_settle_107 (by decide) ?_
                refine g_istore S dX6_settle_108 (by decide) rfl ?_
                refine g_iload S dX6_settle_110 rfl ?_
                refine g_if_eq S (tgt := 131) dX6_settle_112 (by decide) (fun c_112 => ?_) (fun c_112 => ?_)
                · refine g_iconst S (v := 0) dX6_settle_131 (by decide) ?_
                  refine g_istore S dX6_settle_132 (by decide) rfl ?_
                  refine g_iload S dX6_settle_134 rfl ?_
                  refine g_if_eq S (tgt := 152) dX6_settle_136 (by decide) (fun c_136 => ?_) (fun c_136 => ?_)
                  · refine g_iconst S (v := 0) dX6_settle_152 (by decide) ?_
                    refine g_istore_n S dX6_settle_153 (by decide) rfl ?_
                    refine g_iload S dX6_settle_154 rfl ?_
                    refine g_if_eq S (tgt := 219) dX6_settle_156 (by decide) (fun c_156 => ?_) (fun c_156 => ?_)
                    · refine g_iinc S (v := nI (i + 1)) dX6_settle_219 rfl (nI_inc i) (by decide) rfl ?_
                      refine g_goto S (tgt := 10) dX6_settle_222 (by decide) ?_
                      refine g_drop 5 (g_drop 6 (g_drop 7 (g_drop 8 ?_)))
                      exact ih (i + 1) _ (by omega) (by exact ⟨ht.1, ht.2.1, vin_mono ht.2.2 (by omega)⟩) (by rw [← e1]; simp (config := { decide := true }) only [mSet1, c_42, c_58, c_69, if_true, if_false, reduceIte, Bool.false_eq_true, not_true_eq_false, not_false_eq_true, ite_not, true_and, and_true] <;> rfl)
                    · exact absurd c_156 (by decide)
                  · exact absurd c_136 (by decide)
                · exact absurd c_112 (by decide)
              · refine g_aload_n S dX6_settle_72 rfl ?_
                refine g_aload_n S dX6_settle_73 rfl ?_
                refine m_getf S hK 23 (by decide) (S.2.2.2.2 _ (List.mem_of_getElem? (i := 8) rfl)) rfl dX6_settle_74 ?_
                refine g_iload S dX6_settle_77 rfl ?_
                refine m_iald S hK (by decide) (vin_nI (N := 80) (by omega) (by decide)) dX6_settle_79 ?_
                refine g_aload_n S dX6_settle_80 rfl ?_
                refine m_getf S hK 36 (by decide) (S.2.2.2.2 _ (List.mem_of_getElem? (i := 9) rfl)) rfl dX6_settle_81 ?_
                refine g_iload_n S dX6_settle_84 rfl ?_
                refine m_iald S hK (by decide) hc0 dX6_settle_85 ?_
                refine g_aload_n S dX6_settle_86 rfl ?_
                refine m_getf S hK 37 (by decide) (S.2.2.2.2 _ (List.mem_of_getElem? (i := 10) rfl)) rfl dX6_settle_87 ?_
                refine g_iload_n S dX6_settle_90 rfl ?_
                refine m_iald S hK (by decide) hc0 dX6_settle_91 ?_
                refine g_cVr S (c_isOf l D ty A mo ad _ _ _ _ (by exact ht.1 23 _)) (cwV 3 S.2.2.2.2 gX6_settle_X6_isOf rfl rfl rfl (by decide +kernel) ⟨Nat.le_of_ble_eq_true rfl, Nat.le_of_ble_eq_true rfl⟩) hK hE (fun H h => h) (m_recv hK) rfl (Nat.le_of_ble_eq_true rfl) dX6_settle_92 ⟨Nat.le_of_ble_eq_true rfl, Nat.le_of_ble_eq_true rfl⟩ ?_
                refine g_ifb_eq S (tgt := 107) dX6_settle_95 (by decide) (fun c_95 => ?_) (fun c_95 => ?_)
                · refine g_iconst S (v := 0) dX6_settle_107 (by decide) ?_
                  refine g_istore S dX6_settle_108 (by decide) rfl ?_
                  refine g_iload S dX6_settle_110 rfl ?_
                  refine g_if_eq S (tgt := 131) dX6_settle_112 (by decide) (fun c_112 => ?_) (fun c_112 => ?_)
                  · refine g_iconst S (v := 0) dX6_settle_131 (by decide) ?_
                    refine g_istore S dX6_settle_132 (by decide) rfl ?_
                    refine g_iload S dX6_settle_134 rfl ?_
                    refine g_if_eq S (tgt := 152) dX6_settle_136 (by decide) (fun c_136 => ?_) (fun c_136 => ?_)
                    · refine g_iconst S (v := 0) dX6_settle_152 (by decide) ?_
                      refine g_istore_n S dX6_settle_153 (by decide) rfl ?_
                      refine g_iload S dX6_settle_154 rfl ?_
                      refine g_if_eq S (tgt := 219) dX6_settle_156 (by decide) (fun c_156 => ?_) (fun c_156 => ?_)
                      · refine g_iinc S (v := nI (i + 1)) dX6_settle_219 rfl (nI_inc i) (by decide) rfl ?_
                        refine g_goto S (tgt := 10) dX6_settle_222 (by decide) ?_
                        refine g_drop 5 (g_drop 6 (g_drop 7 (g_drop 8 ?_)))
                        exact ih (i + 1) _ (by omega) (by exact ⟨ht.1, ht.2.1, vin_mono ht.2.2 (by omega)⟩) (by rw [← e1]; simp (config := { decide := true }) only [mSet1, c_42, c_58, c_69, c_95, if_true, if_false, reduceIte, Bool.false_eq_true, not_true_eq_false, not_false_eq_true, ite_not, true_and, and_true] <;> rfl)
                      · exact absurd c_156 (by decide)
                    · exact absurd c_136 (by decide)
                  · exact absurd c_112 (by decide)
                · refine g_iload S dX6_settle_98 rfl ?_
                  refine g_if_le S (tgt := 107) dX6_settle_100 (by decide) (fun c_100 => ?_) (fun c_100 => ?_)
                  · refine g_iconst S (v := 0) dX6_settle_107 (by decide) ?_
                    refine g_istore S dX6_settle_108 (by decide) rfl ?_
                    refine g_iload S dX6_settle_110 rfl ?_
                    refine g_if_eq S (tgt := 131) dX6_settle_112 (by decide) (fun c_112 => ?_) (fun c_112 => ?_)
                    · refine g_iconst S (v := 0) dX6_settle_131 (by decide) ?_
                      refine g_istore S dX6_settle_132 (by decide) rfl ?_
                      refine g_iload S dX6_settle_134 rfl ?_
                      refine g_if_eq S (tgt := 152) dX6_settle_136 (by decide) (fun c_136 => ?_) (fun c_136 => ?_)
                      · refine g_iconst S (v := 0) dX6_settle_152 (by decide) ?_
                        refine g_istore_n S dX6_settle_153 (by decide) rfl ?_
                        refine g_iload S dX6_settle_154 rfl ?_
                        refine g_if_eq S (tgt := 219) dX6_settle_156 (by decide) (fun c_156 => ?_) (fun c_156 => ?_)
                        · refine g_iinc S (v := nI (i + 1)) dX6_settle_219 rfl (nI_inc i) (by decide) rfl ?_
                          refine g_goto S (tgt := 10) dX6_settle_222 (by decide) ?_
                          refine g_drop 5 (g_drop 6 (g_drop 7 (g_drop 8 ?_)))
                          exact ih (i + 1) _ (by omega) (by exact ⟨ht.1, ht.2.1, vin_mono ht.2.2 (by omega)⟩) (by rw [← e1]; simp (config := { decide := true }) only [mSet1, c_42, c_58, c_69, c_95, c_100, if_true, if_false, reduceIte, Bool.false_eq_true, not_true_eq_false, not_false_eq_true, ite_not, true_and, and_true] <;> rfl)
                        · exact absurd c_156 (by decide)
                      · exact absurd c_136 (by decide)
                    · exact absurd c_112 (by decide)
                  · refine g_iconst S (v := 1) dX6_settle_103 (by decide) ?_
                    refine g_goto S (tgt := 108) dX6_settle_104 (by decide) ?_
                    refine g_istore S dX6_settle_108 (by decide) rfl ?_
                    refine g_iload S dX6_settle_110 rfl ?_
                    refine g_if_eq S (tgt := 131) dX6_settle_112 (by decide) (fun c_112 => ?_) (fun c_112 => ?_)
                    · exact absurd c_112 (by decide)
                    · refine g_aload_n S dX6_settle_115 rfl ?_
                      refine m_getf S hK 21 (by decide) (S.2.2.2.2 _ (List.mem_of_getElem? (i := 4) rfl)) rfl dX6_settle_116 ?_
                      refine g_iload S dX6_settle_119 rfl ?_
                      refine m_iald S hK (by decide) (vin_nI (N := 80) (by omega) (by decide)) dX6_settle_121 ?_
                      refine g_iload S dX6_settle_122 rfl ?_
                      refine g_icmp_le S (tgt := 131) dX6_settle_124 (by decide) (fun c_124 => ?_) (fun c_124 => ?_)
                      · refine g_iconst S (v := 0) dX6_settle_131 (by decide) ?_
                        refine g_istore S dX6_settle_132 (by decide) rfl ?_
                        refine g_iload S dX6_settle_134 rfl ?_
                        refine g_if_eq S (tgt := 152) dX6_settle_136 (by decide) (fun c_136 => ?_) (fun c_136 => ?_)
                        · refine g_iconst S (v := 0) dX6_settle_152 (by decide) ?_
                          refine g_istore_n S dX6_settle_153 (by decide) rfl ?_
                          refine g_iload S dX6_settle_154 rfl ?_
                          refine g_if_eq S (tgt := 219) dX6_settle_156 (by decide) (fun c_156 => ?_) (fun c_156 => ?_)
                          · exact absurd c_156 (by decide)
                          · refine g_iload_n S dX6_settle_159 rfl ?_
                            refine g_if_ne S (tgt := 219) dX6_settle_160 (by decide) (fun c_160 => ?_) (fun c_160 => ?_)
                            · exact absurd c_160 (by decide)
                            · refine g_iload S dX6_settle_163 rfl ?_
                              refine g_if_eq S (tgt := 179) dX6_settle_165 (by decide) (fun c_165 => ?_) (fun c_165 => ?_)
                              · refine g_iload S dX6_settle_179 rfl ?_
                                refine g_istore S dX6_settle_181 (by decide) rfl ?_
                                refine g_aload_n S dX6_settle_183 rfl ?_
                                refine g_iload S dX6_settle_184 rfl ?_
                                refine g_aload_n S dX6_settle_186 rfl ?_
                                refine m_getf S hK 35 (by decide) (S.2.2.2.2 _ (List.mem_of_getElem? (i := 11) rfl)) rfl dX6_settle_187 ?_
                                refine g_iload_n S dX6_settle_190 rfl ?_
                                refine m_iald S hK (by decide) hc0 dX6_settle_191 ?_
                                refine g_cVv S (c_become l D ty A mo ad _ _ _ (by exact vin_nI (N := 80) (by omega) (by decide)) (by exact vin_mono ht.2.2 (by omega))) (cwV 2 S.2.2.2.2 gX6_settle_X6_become rfl rfl rfl (by decide +kernel) ⟨Nat.le_of_ble_eq_true rfl, Nat.le_of_ble_eq_true rfl⟩) hK hE (fun H h => h) (m_recv hK) rfl (Nat.le_of_ble_eq_true rfl) dX6_settle_192 ⟨Nat.le_of_ble_eq_true rfl, Nat.le_of_ble_eq_true rfl⟩ ?_
                                refine g_aload_n S dX6_settle_195 rfl ?_
                                refine m_getf S hK 28 (by decide) (S.2.2.2.2 _ (List.mem_of_getElem? (i := 12) rfl)) rfl dX6_settle_196 ?_
                                refine g_iload S dX6_settle_199 rfl ?_
                                refine g_iload_n S dX6_settle_201 rfl ?_
                                refine m_iast S hK (by decide) (vin_nI (N := 80) (by omega) (by decide)) dX6_settle_202 ?_
                                refine g_aload_n S dX6_settle_203 rfl ?_
                                refine m_getf S hK 42 (by decide) (S.2.2.2.2 _ (List.mem_of_getElem? (i := 3) rfl)) rfl dX6_settle_204 ?_
                                refine g_iload_n S dX6_settle_207 rfl ?_
                                refine g_dup2_11 S dX6_settle_208 rfl rfl ?_
                                refine m_iald S hK (by decide) hc0 dX6_settle_209 ?_
                                refine g_aload_n S dX6_settle_210 rfl ?_
                                refine m_getf S hK 21 (by decide) (S.2.2.2.2 _ (List.mem_of_getElem? (i := 4) rfl)) rfl dX6_settle_211 ?_
                                refine g_iload S dX6_settle_214 rfl ?_
                                refine m_iald S hK (by decide) (vin_nI (N := 80) (by omega) (by decide)) dX6_settle_216 ?_
                                refine g_iadd S dX6_settle_217 ?_
                                refine m_iast S hK (by decide) hc0 dX6_settle_218 ?_
                                refine g_iinc S (v := nI (i + 1)) dX6_settle_219 rfl (nI_inc i) (by decide) rfl ?_
                                refine g_goto S (tgt := 10) dX6_settle_222 (by decide) ?_
                                refine g_drop 5 (g_drop 6 (g_drop 7 (g_drop 8 ?_)))
                                exact ih (i + 1) _ (by omega) (by exact ⟨mHand_wf ht.1 hc0 _, ht.2.1, vin_mono (vin_succ ht.2.2 (by omega)) (by omega)⟩) (by rw [← e1]; simp (config := { decide := true }) only [mSet1, c_42, c_58, c_69, c_95, c_100, c_124, if_true, if_false, reduceIte, Bool.false_eq_true, not_true_eq_false, not_false_eq_true, ite_not, true_and, and_true] <;> rfl)
                              · exact absurd c_165 (by decide)
                        · exact absurd c_136 (by decide)
                      · refine g_iconst S (v := 1) dX6_settle_127 (by decide) ?_
                        refine g_goto S (tgt := 132) dX6_settle_128 (by decide) ?_
                        refine g_istore S dX6_settle_132 (by decide) rfl ?_
                        refine g_iload S dX6_settle_134 rfl ?_
                        refine g_if_eq S (tgt := 152) dX6_settle_136 (by decide) (fun c_136 => ?_) (fun c_136 => ?_)
                        · exact absurd c_136 (by decide)
                        · refine g_aload_n S dX6_settle_139 rfl ?_
                          refine m_getf S hK 20 (by decide) (S.2.2.2.2 _ (List.mem_of_getElem? (i := 1) rfl)) rfl dX6_settle_140 ?_
                          refine g_bipush S (v := 80) dX6_settle_143 (by decide) ?_
                          refine g_icmp_ne S (tgt := 152) dX6_settle_145 (by decide) (fun c_145 => ?_) (fun c_145 => ?_)
                          · refine g_iconst S (v := 0) dX6_settle_152 (by decide) ?_
                            refine g_istore_n S dX6_settle_153 (by decide) rfl ?_
                            refine g_iload S dX6_settle_154 rfl ?_
                            refine g_if_eq S (tgt := 219) dX6_settle_156 (by decide) (fun c_156 => ?_) (fun c_156 => ?_)
                            · exact absurd c_156 (by decide)
                            · refine g_iload_n S dX6_settle_159 rfl ?_
                              refine g_if_ne S (tgt := 219) dX6_settle_160 (by decide) (fun c_160 => ?_) (fun c_160 => ?_)
                              · exact absurd c_160 (by decide)
                              · refine g_iload S dX6_settle_163 rfl ?_
                                refine g_if_eq S (tgt := 179) dX6_settle_165 (by decide) (fun c_165 => ?_) (fun c_165 => ?_)
                                · exact absurd c_165 (by decide)
                                · refine g_aload_n S dX6_settle_168 rfl ?_
                                  refine g_iload S dX6_settle_169 rfl ?_
                                  refine g_iload S dX6_settle_171 rfl ?_
                                  refine g_cVr S (c_splitOff l D ty A mo ad _ _ _ (by exact vin_nI (N := 80) (by omega) (by decide)) (by exact vin_ne ht.2.1 (by decide) c_145) (by exact vin_mono ht.2.2 (by omega))) (cwV 2 S.2.2.2.2 gX6_settle_X6_splitOff rfl rfl rfl (by decide +kernel) ⟨Nat.le_of_ble_eq_true rfl, Nat.le_of_ble_eq_true rfl⟩) hK hE (fun H h => h) (m_recv hK) rfl (Nat.le_of_ble_eq_true rfl) dX6_settle_173 ⟨Nat.le_of_ble_eq_true rfl, Nat.le_of_ble_eq_true rfl⟩ ?_
                                  refine g_goto S (tgt := 181) dX6_settle_176 (by decide) ?_
                                  refine g_istore S dX6_settle_181 (by decide) rfl ?_
                                  refine g_aload_n S dX6_settle_183 rfl ?_
                                  refine g_iload S dX6_settle_184 rfl ?_
                                  refine g_aload_n S dX6_settle_186 rfl ?_
                                  refine m_getf S hK 35 (by decide) (S.2.2.2.2 _ (List.mem_of_getElem? (i := 11) rfl)) rfl dX6_settle_187 ?_
                                  refine g_iload_n S dX6_settle_190 rfl ?_
                                  refine m_iald S hK (by decide) hc0 dX6_settle_191 ?_
                                  refine g_cVv S (c_become l D ty A mo ad _ _ _ (by exact vin_ne ht.2.1 (by decide) c_145) (by exact vin_mono (vin_succ ht.2.2 (by omega)) (by omega))) (cwV 2 S.2.2.2.2 gX6_settle_X6_become rfl rfl rfl (by decide +kernel) ⟨Nat.le_of_ble_eq_true rfl, Nat.le_of_ble_eq_true rfl⟩) hK hE (fun H h => h) (m_recv hK) rfl (Nat.le_of_ble_eq_true rfl) dX6_settle_192 ⟨Nat.le_of_ble_eq_true rfl, Nat.le_of_ble_eq_true rfl⟩ ?_
                                  refine g_aload_n S dX6_settle_195 rfl ?_
                                  refine m_getf S hK 28 (by decide) (S.2.2.2.2 _ (List.mem_of_getElem? (i := 12) rfl)) rfl dX6_settle_196 ?_
                                  refine g_iload S dX6_settle_199 rfl ?_
                                  refine g_iload_n S dX6_settle_201 rfl ?_
                                  refine m_iast S hK (by decide) (vin_ne ht.2.1 (by decide) c_145) dX6_settle_202 ?_
                                  refine g_aload_n S dX6_settle_203 rfl ?_
                                  refine m_getf S hK 42 (by decide) (S.2.2.2.2 _ (List.mem_of_getElem? (i := 3) rfl)) rfl dX6_settle_204 ?_
                                  refine g_iload_n S dX6_settle_207 rfl ?_
                                  refine g_dup2_11 S dX6_settle_208 rfl rfl ?_
                                  refine m_iald S hK (by decide) hc0 dX6_settle_209 ?_
                                  refine g_aload_n S dX6_settle_210 rfl ?_
                                  refine m_getf S hK 21 (by decide) (S.2.2.2.2 _ (List.mem_of_getElem? (i := 4) rfl)) rfl dX6_settle_211 ?_
                                  refine g_iload S dX6_settle_214 rfl ?_
                                  refine m_iald S hK (by decide) (vin_ne ht.2.1 (by decide) c_145) dX6_settle_216 ?_
                                  refine g_iadd S dX6_settle_217 ?_
                                  refine m_iast S hK (by decide) hc0 dX6_settle_218 ?_
                                  refine g_iinc S (v := nI (i + 1)) dX6_settle_219 rfl (nI_inc i) (by decide) rfl ?_
                                  refine g_goto S (tgt := 10) dX6_settle_222 (by decide) ?_
                                  refine g_drop 5 (g_drop 6 (g_drop 7 (g_drop 8 ?_)))
                                  exact ih (i + 1) _ (by omega) (by exact ⟨mHand_wf (mSplitOff_wf ht.1 _ _) hc0 _, vin_succ (vin_ne ht.2.1 (by decide) c_145) (by decide), vin_mono (vin_succ (vin_succ ht.2.2 (by omega)) (by omega)) (by omega)⟩) (by rw [← e1]; simp (config := { decide := true }) only [mSet1, c_42, c_58, c_69, c_95, c_100, c_124, c_145, if_true, if_false, reduceIte, Bool.false_eq_true, not_true_eq_false, not_false_eq_true, ite_not, true_and, and_true] <;> rfl)
                          · refine g_iconst S (v := 1) dX6_settle_148 (by decide) ?_
                            refine g_goto S (tgt := 153) dX6_settle_149 (by decide) ?_
                            refine g_istore_n S dX6_settle_153 (by decide) rfl ?_
                            refine g_iload S dX6_settle_154 rfl ?_
                            refine g_if_eq S (tgt := 219) dX6_settle_156 (by decide) (fun c_156 => ?_) (fun c_156 => ?_)
                            · exact absurd c_156 (by decide)
                            · refine g_iload_n S dX6_settle_159 rfl ?_
                              refine g_if_ne S (tgt := 219) dX6_settle_160 (by decide) (fun c_160 => ?_) (fun c_160 => ?_)
                              · refine g_iinc S dX6_settle_219 rfl rfl (by decide) rfl ?_
                                refine g_goto S (tgt := 10) dX6_settle_222 (by decide) ?_
                                refine g_iload S dX6_settle_10 rfl ?_
                                refine g_iload_n S dX6_settle_12 rfl ?_
                                refine g_icmp_ge S (tgt := 225) dX6_settle_13 (by decide) (fun c_13 => ?_) (fun c_13 => ?_)
                                · refine g_aload_n S dX6_settle_225 rfl ?_
                                  refine m_getf S hK 43 (by decide) (S.2.2.2.2 _ (List.mem_of_getElem? (i := 13) rfl)) rfl dX6_settle_226 ?_
                                  refine g_iload_n S dX6_settle_229 rfl ?_
                                  refine g_aload_n S dX6_settle_230 rfl ?_
                                  refine m_getf S hK 38 (by decide) (S.2.2.2.2 _ (List.mem_of_getElem? (i := 2) rfl)) rfl dX6_settle_231 ?_
                                  refine g_iload_n S dX6_settle_234 rfl ?_
                                  refine m_iald S hK (by decide) hc0 dX6_settle_235 ?_
                                  refine g_aload_n S dX6_settle_236 rfl ?_
                                  refine m_getf S hK 42 (by decide) (S.2.2.2.2 _ (List.mem_of_getElem? (i := 3) rfl)) rfl dX6_settle_237 ?_
                                  refine g_iload_n S dX6_settle_240 rfl ?_
                                  refine m_iald S hK (by decide) hc0 dX6_settle_241 ?_
                                  refine g_isub S dX6_settle_242 ?_
                                  refine m_iast S hK (by decide) hc0 dX6_settle_243 ?_
                                  refine g_aload_n S dX6_settle_244 rfl ?_
                                  refine m_getf S hK 41 (by decide) (S.2.2.2.2 _ (List.mem_of_getElem? (i := 14) rfl)) rfl dX6_settle_245 ?_
                                  refine g_iload_n S dX6_settle_248 rfl ?_
                                  refine g_iconst S (v := 1) dX6_settle_249 (by decide) ?_
                                  refine m_zast S hK rfl hc0 dX6_settle_250 ?_
                                  refine g_aload_n S dX6_settle_251 rfl ?_
                                  refine g_aload_n S dX6_settle_252 rfl ?_
                                  refine m_getf S hK 35 (by decide) (S.2.2.2.2 _ (List.mem_of_getElem? (i := 11) rfl)) rfl dX6_settle_253 ?_
                                  refine g_iload_n S dX6_settle_256 rfl ?_
                                  refine m_iald S hK (by decide) hc0 dX6_settle_257 ?_
                                  refine g_aload_n S dX6_settle_258 rfl ?_
                                  refine m_getf S hK 34 (by decide) (S.2.2.2.2 _ (List.mem_of_getElem? (i := 6) rfl)) rfl dX6_settle_259 ?_
                                  refine g_iload_n S dX6_settle_262 rfl ?_
                                  refine m_iald S hK (by decide) hc0 dX6_settle_263 ?_
                                  refine g_aload_n S dX6_settle_264 rfl ?_
                                  refine m_getf S hK 42 (by decide) (S.2.2.2.2 _ (List.mem_of_getElem? (i := 3) rfl)) rfl dX6_settle_265 ?_
                                  refine g_iload_n S dX6_settle_268 rfl ?_
                                  refine m_iald S hK (by decide) hc0 dX6_settle_269 ?_
                                  refine g_i2l S dX6_settle_270 ?_
                                  refine g_aload_n S dX6_settle_271 rfl ?_
                                  refine m_getf S hK 40 (by decide) (S.2.2.2.2 _ (List.mem_of_getElem? (i := 15) rfl)) rfl dX6_settle_272 ?_
                                  refine g_iload_n S dX6_settle_275 rfl ?_
                                  refine m_iald S hK (by decide) hc0 dX6_settle_276 ?_
                                  refine g_i2l S dX6_settle_277 ?_
                                  refine g_lmul S dX6_settle_278 ?_
                                  refine g_cVv S (c_mpay l D ty A mo ad _ _ _ _ (by exact ht.1 35 _) (by exact ht.1 34 _)) (cwV 3 S.2.2.2.2 gX6_settle_X6_pay rfl rfl rfl (by decide +kernel) ⟨Nat.le_of_ble_eq_true rfl, Nat.le_of_ble_eq_true rfl⟩) hK hE (fun H h => h) (m_recv hK) rfl (Nat.le_of_ble_eq_true rfl) dX6_settle_279 ⟨Nat.le_of_ble_eq_true rfl, Nat.le_of_ble_eq_true rfl⟩ ?_
                                  refine g_aload_n S dX6_settle_282 rfl ?_
                                  refine g_aload_n S dX6_settle_283 rfl ?_
                                  refine m_getf S hK 34 (by decide) (S.2.2.2.2 _ (List.mem_of_getElem? (i := 6) rfl)) rfl dX6_settle_284 ?_
                                  refine g_iload_n S dX6_settle_287 rfl ?_
                                  refine m_iald S hK (by decide) hc0 dX6_settle_288 ?_
                                  refine g_aload_n S dX6_settle_289 rfl ?_
                                  refine m_getf S hK 35 (by decide) (S.2.2.2.2 _ (List.mem_of_getElem? (i := 11) rfl)) rfl dX6_settle_290 ?_
                                  refine g_iload_n S dX6_settle_293 rfl ?_
                                  refine m_iald S hK (by decide) hc0 dX6_settle_294 ?_
                                  refine g_aload_n S dX6_settle_295 rfl ?_
                                  refine m_getf S hK 43 (by decide) (S.2.2.2.2 _ (List.mem_of_getElem? (i := 13) rfl)) rfl dX6_settle_296 ?_
                                  refine g_iload_n S dX6_settle_299 rfl ?_
                                  refine m_iald S hK (by decide) hc0 dX6_settle_300 ?_
                                  refine g_i2l S dX6_settle_301 ?_
                                  refine g_aload_n S dX6_settle_302 rfl ?_
                                  refine m_getf S hK 4 (by decide) (S.2.2.2.2 _ (List.mem_of_getElem? (i := 16) rfl)) rfl dX6_settle_303 ?_
                                  refine g_i2l S dX6_settle_306 ?_
                                  refine g_lmul S dX6_settle_307 ?_
                                  refine g_cVv S (c_mpay l D ty A mo ad _ _ _ _ (by exact ht.1 34 _) (by exact ht.1 35 _)) (cwV 3 S.2.2.2.2 gX6_settle_X6_pay rfl rfl rfl (by decide +kernel) ⟨Nat.le_of_ble_eq_true rfl, Nat.le_of_ble_eq_true rfl⟩) hK hE (fun H h => h) (m_recv hK) rfl (Nat.le_of_ble_eq_true rfl) dX6_settle_308 ⟨Nat.le_of_ble_eq_true rfl, Nat.le_of_ble_eq_true rfl⟩ ?_
                                  exact g_vret S hlk hr (fun H h => ⟨rfl, by rw [← e1]; simp (config := { decide := true }) only [mSet1, c_42, c_58, c_69, c_95, c_100, c_124, c_145, if_true, if_false, reduceIte, Bool.false_eq_true, not_true_eq_false, not_false_eq_true, ite_not, true_and, and_true]; exact h⟩) (Nat.le_refl _) (Nat.le_refl _) dX6_settle_311
                                · refine g_iload_n S dX6_settle_16 rfl ?_
                                  refine g_if_ne S (tgt := 225) dX6_settle_17 (by decide) (fun c_17 => ?_) (fun c_17 => ?_)
                                  · refine g_aload_n S dX6_settle_225 rfl ?_
                                    refine m_getf S hK 43 (by decide) (S.2.2.2.2 _ (List.mem_of_getElem? (i := 13) rfl)) rfl dX6_settle_226 ?_
                                    refine g_iload_n S dX6_settle_229 rfl ?_
                                    refine g_aload_n S dX6_settle_230 rfl ?_
                                    refine m_getf S hK 38 (by decide) (S.2.2.2.2 _ (List.mem_of_getElem? (i := 2) rfl)) rfl dX6_settle_231 ?_
                                    refine g_iload_n S dX6_settle_234 rfl ?_
                                    refine m_iald S hK (by decide) hc0 dX6_settle_235 ?_
                                    refine g_aload_n S dX6_settle_236 rfl ?_
                                    refine m_getf S hK 42 (by decide) (S.2.2.2.2 _ (List.mem_of_getElem? (i := 3) rfl)) rfl dX6_settle_237 ?_
                                    refine g_iload_n S dX6_settle_240 rfl ?_
                                    refine m_iald S hK (by decide) hc0 dX6_settle_241 ?_
                                    refine g_isub S dX6_settle_242 ?_
                                    refine m_iast S hK (by decide) hc0 dX6_settle_243 ?_
                                    refine g_aload_n S dX6_settle_244 rfl ?_
                                    refine m_getf S hK 41 (by decide) (S.2.2.2.2 _ (List.mem_of_getElem? (i := 14) rfl)) rfl dX6_settle_245 ?_
                                    refine g_iload_n S dX6_settle_248 rfl ?_
                                    refine g_iconst S (v := 1) dX6_settle_249 (by decide) ?_
                                    refine m_zast S hK rfl hc0 dX6_settle_250 ?_
                                    refine g_aload_n S dX6_settle_251 rfl ?_
                                    refine g_aload_n S dX6_settle_252 rfl ?_
                                    refine m_getf S hK 35 (by decide) (S.2.2.2.2 _ (List.mem_of_getElem? (i := 11) rfl)) rfl dX6_settle_253 ?_
                                    refine g_iload_n S dX6_settle_256 rfl ?_
                                    refine m_iald S hK (by decide) hc0 dX6_settle_257 ?_
                                    refine g_aload_n S dX6_settle_258 rfl ?_
                                    refine m_getf S hK 34 (by decide) (S.2.2.2.2 _ (List.mem_of_getElem? (i := 6) rfl)) rfl dX6_settle_259 ?_
                                    refine g_iload_n S dX6_settle_262 rfl ?_
                                    refine m_iald S hK (by decide) hc0 dX6_settle_263 ?_
                                    refine g_aload_n S dX6_settle_264 rfl ?_
                                    refine m_getf S hK 42 (by decide) (S.2.2.2.2 _ (List.mem_of_getElem? (i := 3) rfl)) rfl dX6_settle_265 ?_
                                    refine g_iload_n S dX6_settle_268 rfl ?_
                                    refine m_iald S hK (by decide) hc0 dX6_settle_269 ?_
                                    refine g_i2l S dX6_settle_270 ?_
                                    refine g_aload_n S dX6_settle_271 rfl ?_
                                    refine m_getf S hK 40 (by decide) (S.2.2.2.2 _ (List.mem_of_getElem? (i := 15) rfl)) rfl dX6_settle_272 ?_
                                    refine g_iload_n S dX6_settle_275 rfl ?_
                                    refine m_iald S hK (by decide) hc0 dX6_settle_276 ?_
                                    refine g_i2l S dX6_settle_277 ?_
                                    refine g_lmul S dX6_settle_278 ?_
                                    refine g_cVv S (c_mpay l D ty A mo ad _ _ _ _ (by exact ht.1 35 _) (by exact ht.1 34 _)) (cwV 3 S.2.2.2.2 gX6_settle_X6_pay rfl rfl rfl (by decide +kernel) ⟨Nat.le_of_ble_eq_true rfl, Nat.le_of_ble_eq_true rfl⟩) hK hE (fun H h => h) (m_recv hK) rfl (Nat.le_of_ble_eq_true rfl) dX6_settle_279 ⟨Nat.le_of_ble_eq_true rfl, Nat.le_of_ble_eq_true rfl⟩ ?_
                                    refine g_aload_n S dX6_settle_282 rfl ?_
                                    refine g_aload_n S dX6_settle_283 rfl ?_
                                    refine m_getf S hK 34 (by decide) (S.2.2.2.2 _ (List.mem_of_getElem? (i := 6) rfl)) rfl dX6_settle_284 ?_
                                    refine g_iload_n S dX6_settle_287 rfl ?_
                                    refine m_iald S hK (by decide) hc0 dX6_settle_288 ?_
                                    refine g_aload_n S dX6_settle_289 rfl ?_
                                    refine m_getf S hK 35 (by decide) (S.2.2.2.2 _ (List.mem_of_getElem? (i := 11) rfl)) rfl dX6_settle_290 ?_
                                    refine g_iload_n S dX6_settle_293 rfl ?_
                                    refine m_iald S hK (by decide) hc0 dX6_settle_294 ?_
                                    refine g_aload_n S dX6_settle_295 rfl ?_
                                    refine m_getf S hK 43 (by decide) (S.2.2.2.2 _ (List.mem_of_getElem? (i := 13) rfl)) rfl dX6_settle_296 ?_
                                    refine g_iload_n S dX6_settle_299 rfl ?_
                                    refine m_iald S hK (by decide) hc0 dX6_settle_300 ?_
                                    refine g_i2l S dX6_settle_301 ?_
                                    refine g_aload_n S dX6_settle_302 rfl ?_
                                    refine m_getf S hK 4 (by decide) (S.2.2.2.2 _ (List.mem_of_getElem? (i := 16) rfl)) rfl dX6_settle_303 ?_
                                    refine g_i2l S dX6_settle_306 ?_
                                    refine g_lmul S dX6_settle_307 ?_
                                    refine g_cVv S (c_mpay l D ty A mo ad _ _ _ _ (by exact ht.1 34 _) (by exact ht.1 35 _)) (cwV 3 S.2.2.2.2 gX6_settle_X6_pay rfl rfl rfl (by decide +kernel) ⟨Nat.le_of_ble_eq_true rfl, Nat.le_of_ble_eq_true rfl⟩) hK hE (fun H h => h) (m_recv hK) rfl (Nat.le_of_ble_eq_true rfl) dX6_settle_308 ⟨Nat.le_of_ble_eq_true rfl, Nat.le_of_ble_eq_true rfl⟩ ?_
                                    exact g_vret S hlk hr (fun H h => ⟨rfl, by rw [← e1]; simp (config := { decide := true }) only [mSet1, c_42, c_58, c_69, c_95, c_100, c_124, c_145, if_true, if_false, reduceIte, Bool.false_eq_true, not_true_eq_false, not_false_eq_true, ite_not, true_and, and_true]; exact h⟩) (Nat.le_refl _) (Nat.le_refl _) dX6_settle_311
                                  · exact absurd c_17 (by decide)
                              · exact absurd c_160 (by decide)
  refine g_aload_n S dX6_settle_0 rfl ?_
  refine m_getf S hK 20 (by decide) (S.2.2.2.2 _ (List.mem_of_getElem? (i := 1) rfl)) rfl dX6_settle_1 ?_
  refine g_istore_n S dX6_settle_4 (by decide) rfl ?_
  refine g_iconst S (v := 0) dX6_settle_5 (by decide) ?_
  refine g_istore_n S dX6_settle_6 (by decide) rfl ?_
  refine g_iconst S (v := 0) dX6_settle_7 (by decide) ?_
  refine g_istore S dX6_settle_8 (by decide) rfl ?_
  exact L nr 0 a (Nat.zero_add _) ⟨hw, hn1, hc⟩ rfl

