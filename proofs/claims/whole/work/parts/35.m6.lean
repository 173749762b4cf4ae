theorem mLose_wf {a : MS} (hw : mWf a) (r much : Int32) : mWf (mLose a r much) := by
  refine mWf_X (k := 25) (mWf_X (k := 9) (mWf_X (k := 21) hw _ trivial) _ trivial) _ ?_
  split
  · exact Or.inl rfl
  · exact (mWf_X (k := 9) (mWf_X (k := 21) hw _ trivial) _ trivial) 25 _
theorem mTakeFor_wf {a : MS} (hw : mWf a) (d r left : Int32) : mWf (mTakeFor a d r left) := mLose_wf (mTakePay_wf hw _ _ _) _ _
def mTake1 (d : Int32) : Nat → Nat → MS → Int32 → MS × Int32
  | _, 0, a, left => (a, left)
  | i, k + 1, a, left => if ¬ gA a 24 (nI i) = d then mTake1 d (i + 1) k a left else mTake1 d (i + 1) k (mTakeFor a d (nI i) left) (left - mTakeN a (nI i) left)
def mTake2 (d who : Int32) : Nat → Nat → MS → Int32 → MS × Int32
  | _, 0, a, left => (a, left)
  | i, k + 1, a, left => if gA a 24 (nI i) = d then mTake2 d who (i + 1) k a left else if ¬ gA a 22 (nI i) = who then mTake2 d who (i + 1) k a left else if ¬ gA a 23 (nI i) = gA a 19 d then mTake2 d who (i + 1) k a left
    else mTake2 d who (i + 1) k (mTakeFor a d (nI i) left) (left - mTakeN a (nI i) left)
def mReweigh (a : MS) (d mo : Int32) : Int32 × MS :=
  if mIn d 0 (gS a 13 - 1) = true then
    if mIn mo 50 300 = true then
      if (decide (¬ mDry (gA a 15 d) mo ≤ gA a 16 d) && (mIsOf a (gA a 19 d) (gA a 17 d) (gA a 18 d) && decide (80 ≤ gS a 20))) = true then (0, mS a 0 3)
      else
        let more := mDry (gA a 15 d) mo - gA (mS a 0 0) 16 d
        let b := mX (mS a 0 0) 16 d (mDry (gA a 15 d) mo)
        let who := gA b 14 d
        if ¬ mIsOf a (gA a 19 d) (gA a 17 d) (gA a 18 d) = true then (more, mX b 6 who (gA b 6 who - more))
        else if more ≤ 0 then
          let t1 := mTake1 d 0 (gS a 20).toNatClampNeg b (-more)
          let t2 := mTake2 d who 0 (gS a 20).toNatClampNeg t1.1 t1.2
          (more, mX t2.1 6 who (gA t2.1 6 who + t2.2))
        else
          let c := mX b 9 (gA b 19 d) (gA b 9 (gA b 19 d) + more)
          (more, mMake c more who (gA c 19 d) d)
    else (0, mS a 0 2)
  else (0, mS a 0 1)
abbrev rmX6_reweigh : Room := { frames := 2, cells := 0, slots := 0, locals := 50 }
set_option maxHeartbeats 1500000 in
set_option maxRecDepth 100000 in
theorem c_mreweigh (l : Launch) (D : va_G) (ty : Nat → ClassId) (A : Nat → Prop) (mo : Nat) (ad : Nat → Nat) (a : MS) (d mo9 : Int32) (hw : mWf a) (hn : mCnt a) (hc : vp_in (gS a 29) 5900) (hsub : mIn d 0 (gS a 13 - 1) = true → mIn mo9 50 300 = true → mDry (gA a 15 d) mo9 ≤ gA a 16 d → mDry (gA a 15 d) mo9 - gA a 16 d ≤ 0) : Met l yX6_reweigh wsX6_reweigh rmX6_reweigh (gPc D ty false [] 0 A [.ref mo, .int d, .int mo9] (hM D ty A mo ad a)) (gQ A (gRet (some (.int (mReweigh a d mo9).1)) (hM D ty A mo ad (mReweigh a d mo9).2))) 0 0 A := by
  refine g_Met (cc := cX6_reweigh) (maxL := 13) (ret := (some .int)) [some (.ref mo), some (.int d), some (.int mo9), none, none, none, none, none, none, none, none, none, none] (by decide) rfl (Nat.le_of_ble_eq_true rfl) rfl ?_
  intro p e s m args below meth c S hlk hr hnm hK hE hP0
  have S : CallFix p m c cX6_reweigh 13 s args wsX6_reweigh RX6 := S
  obtain ⟨nr, h80, enr⟩ := vp_in_of hn.2.2.1 (by decide)
  have ecl : (gS a 20).toNatClampNeg = nr := by rw [enr]; exact nI_clamp (by omega)
  have hwb : mWf (mX (mS a 0 0) 16 d (mDry (gA a 15 d) mo9)) := mWf_X (k := 16) (mWf_S hw _ _) _ trivial
  have hwho : vp_in (gA (mX (mS a 0 0) 16 d (mDry (gA a 15 d) mo9)) 14 d) 6 := hwb 14 _
  have L2 : ∀ (kk i : Nat) (a9 : MS) (left : Int32), i + kk = nr → mWf a9 → mTake2 d (gA (mX (mS a 0 0) 16 d (mDry (gA a 15 d) mo9)) 14 d) i kk a9 left = (mTake2 d (gA (mX (mS a 0 0) 16 d (mDry (gA a 15 d) mo9)) 14 d) 0 nr (mTake1 d 0 nr (mX (mS a 0 0) 16 d (mDry (gA a 15 d) mo9)) (-(mDry (gA a 15 d) mo9 - gA (mS a 0 0) 16 d))).1 (mTake1 d 0 nr (mX (mS a 0 0) 16 d (mDry (gA a 15 d) mo9)) (-(mDry (gA a 15 d) mo9 - gA (mS a 0 0) 16 d))).2) → mReweigh a d mo9 = ((mDry (gA a 15 d) mo9 - gA (mS a 0 0) 16 d), mX (mTake2 d (gA (mX (mS a 0 0) 16 d (mDry (gA a 15 d) mo9)) 14 d) 0 nr (mTake1 d 0 nr (mX (mS a 0 0) 16 d (mDry (gA a 15 d) mo9)) (-(mDry (gA a 15 d) mo9 - gA (mS a 0 0) 16 d))).1 (mTake1 d 0 nr (mX (mS a 0 0) 16 d (mDry (gA a 15 d) mo9)) (-(mDry (gA a 15 d) mo9 - gA (mS a 0 0) 16 d))).2).1 6 (gA (mX (mS a 0 0) 16 d (mDry (gA a 15 d) mo9)) 14 d) (gA (mTake2 d (gA (mX (mS a 0 0) 16 d (mDry (gA a 15 d) mo9)) 14 d) 0 nr (mTake1 d 0 nr (mX (mS a 0 0) 16 d (mDry (gA a 15 d) mo9)) (-(mDry (gA a 15 d) mo9 - gA (mS a 0 0) 16 d))).1 (mTake1 d 0 nr (mX (mS a 0 0) 16 d (mDry (gA a 15 d) mo9)) (-(mDry (gA a 15 d) mo9 - gA (mS a 0 0) 16 d))).2).1 6 (gA (mX (mS a 0 0) 16 d (mDry (gA a 15 d) mo9)) 14 d) + (mTake2 d (gA (mX (mS a 0 0) 16 d (mDry (gA a 15 d) mo9)) 14 d) 0 nr (mTake1 d 0 nr (mX (mS a 0 0) 16 d (mDry (gA a 15 d) mo9)) (-(mDry (gA a 15 d) mo9 - gA (mS a 0 0) 16 d))).1 (mTake1 d 0 nr (mX (mS a 0 0) 16 d (mDry (gA a 15 d) mo9)) (-(mDry (gA a 15 d) mo9 - gA (mS a 0 0) 16 d))).2).2)) → vp_in d 40 → gW p l e (headSpec wsX6_reweigh rmX6_reweigh).room s m args below meth c A (gR below A args s 0 0 (gRet (some (.int (mReweigh a d mo9).1)) (hM D ty A mo ad (mReweigh a d mo9).2))) 13 (hM D ty A mo ad a9) 0 0 301 [some (.ref mo), some (.int d), some (.int mo9), some (.int (b2 (mIn d 0 (gS a 13 - 1)))), some (.int (b2 (mIn mo9 50 300))), some (.int (mDry (gA a 15 d) mo9)), some (.int 1), some (.int 1), some (.int (mDry (gA a 15 d) mo9 - gA (mS a 0 0) 16 d)), some (.int (gA (mX (mS a 0 0) 16 d (mDry (gA a 15 d) mo9)) 14 d)), some (.int left), some (.int (gS a 20)), some (.int (nI i))] [] := by
    intro kk
    induction kk with
    | zero =>
      intro i a9 left ei ht e1 e0 hd
      refine g_iload S dX6_reweigh_301 rfl ?_
      refine g_iload S dX6_reweigh_303 rfl ?_
      refine g_icmp_ge S (tgt := 369) dX6_reweigh_305 (by decide) (fun c_305 => ?_) (fun c_305 => ?_)
      · refine g_aload_n S dX6_reweigh_369 rfl ?_
        refine m_getf S hK 6 (by decide) (S.2.2.2.2 _ (List.mem_of_getElem? (i := 9) rfl)) rfl dX6_reweigh_370 ?_
        refine g_iload S dX6_reweigh_373 rfl ?_
        refine g_dup2_11 S dX6_reweigh_375 rfl rfl ?_
        refine m_iald S hK (by decide) hwho dX6_reweigh_376 ?_
        refine g_iload S dX6_reweigh_377 rfl ?_
        refine g_iadd S dX6_reweigh_379 ?_
        refine m_iast S hK (by decide) hwho dX6_reweigh_380 ?_
        refine g_iload S dX6_reweigh_381 rfl ?_
        exact g_iret S hlk hr (fun H h => ⟨by rw [e0], by rw [e0, ← e1]; exact h⟩) (Nat.le_refl _) (Nat.le_refl _) dX6_reweigh_383
      · exact absurd (lp_exit enr (by omega) (by omega)) c_305
    | succ kk ih =>
      intro i a9 left ei ht e1 e0 hd
      refine g_iload S dX6_reweigh_301 rfl ?_
      refine g_iload S dX6_reweigh_303 rfl ?_
      refine g_icmp_ge S (tgt := 369) dX6_reweigh_305 (by decide) (fun c_305 => ?_) (fun c_305 => ?_)
      · exact absurd c_305 (lp_stay enr (by omega) (by omega))
      · refine g_aload_n S dX6_reweigh_308 rfl ?_
        refine m_getf S hK 24 (by decide) (S.2.2.2.2 _ (List.mem_of_getElem? (i := 11) rfl)) rfl dX6_reweigh_309 ?_
        refine g_iload S dX6_reweigh_312 rfl ?_
        refine m_iald S hK (by decide) (vin_nI (N := 80) (by omega) (by decide)) dX6_reweigh_314 ?_
        refine g_iload_n S dX6_reweigh_315 rfl ?_
        refine g_icmp_eq S (tgt := 359) dX6_reweigh_316 (by decide) (fun c_316 => ?_) (fun c_316 => ?_)
        · refine g_iload S dX6_reweigh_359 rfl ?_
          refine g_istore S dX6_reweigh_361 (by decide) rfl ?_
          refine g_iinc S (v := nI (i + 1)) dX6_reweigh_363 rfl (nI_inc i) (by decide) rfl ?_
          refine g_goto S (tgt := 301) dX6_reweigh_366 (by decide) ?_
          exact ih (i + 1) _ _ (by omega) ht (by rw [← e1]; simp only [mTake2, c_316, if_true, if_false, reduceIte, Bool.false_eq_true, not_true_eq_false, not_false_eq_true, ite_not, true_and, and_true]) e0 hd
        · refine g_aload_n S dX6_reweigh_319 rfl ?_
          refine m_getf S hK 22 (by decide) (S.2.2.2.2 _ (List.mem_of_getElem? (i := 12) rfl)) rfl dX6_reweigh_320 ?_
          refine g_iload S dX6_reweigh_323 rfl ?_
          refine m_iald S hK (by decide) (vin_nI (N := 80) (by omega) (by decide)) dX6_reweigh_325 ?_
          refine g_iload S dX6_reweigh_326 rfl ?_
          refine g_icmp_ne S (tgt := 359) dX6_reweigh_328 (by decide) (fun c_328 => ?_) (fun c_328 => ?_)
          · refine g_iload S dX6_reweigh_359 rfl ?_
            refine g_istore S dX6_reweigh_361 (by decide) rfl ?_
            refine g_iinc S (v := nI (i + 1)) dX6_reweigh_363 rfl (nI_inc i) (by decide) rfl ?_
            refine g_goto S (tgt := 301) dX6_reweigh_366 (by decide) ?_
            exact ih (i + 1) _ _ (by omega) ht (by rw [← e1]; simp only [mTake2, c_316, c_328, if_true, if_false, reduceIte, Bool.false_eq_true, not_true_eq_false, not_false_eq_true, ite_not, true_and, and_true]) e0 hd
          · refine g_aload_n S dX6_reweigh_331 rfl ?_
            refine m_getf S hK 23 (by decide) (S.2.2.2.2 _ (List.mem_of_getElem? (i := 13) rfl)) rfl dX6_reweigh_332 ?_
            refine g_iload S dX6_reweigh_335 rfl ?_
            refine m_iald S hK (by decide) (vin_nI (N := 80) (by omega) (by decide)) dX6_reweigh_337 ?_
            refine g_aload_n S dX6_reweigh_338 rfl ?_
            refine m_getf S hK 19 (by decide) (S.2.2.2.2 _ (List.mem_of_getElem? (i := 3) rfl)) rfl dX6_reweigh_339 ?_
            refine g_iload_n S dX6_reweigh_342 rfl ?_
            refine m_iald S hK (by decide) hd dX6_reweigh_343 ?_
            refine g_icmp_ne S (tgt := 359) dX6_reweigh_344 (by decide) (fun c_344 => ?_) (fun c_344 => ?_)
            · refine g_iload S dX6_reweigh_359 rfl ?_
              refine g_istore S dX6_reweigh_361 (by decide) rfl ?_
              refine g_iinc S (v := nI (i + 1)) dX6_reweigh_363 rfl (nI_inc i) (by decide) rfl ?_
              refine g_goto S (tgt := 301) dX6_reweigh_366 (by decide) ?_
              exact ih (i + 1) _ _ (by omega) ht (by rw [← e1]; simp only [mTake2, c_316, c_328, c_344, if_true, if_false, reduceIte, Bool.false_eq_true, not_true_eq_false, not_false_eq_true, ite_not, true_and, and_true]) e0 hd
            · refine g_aload_n S dX6_reweigh_347 rfl ?_
              refine g_iload_n S dX6_reweigh_348 rfl ?_
              refine g_iload S dX6_reweigh_349 rfl ?_
              refine g_iload S dX6_reweigh_351 rfl ?_
              refine g_cVr S (c_takeFor l D ty A mo ad _ _ _ _ (by exact ht) (by exact hd) (by exact vin_nI (N := 80) (by omega) (by decide))) (cwV 3 S.2.2.2.2 gX6_reweigh_X6_takeFor rfl rfl rfl (by decide +kernel) ⟨Nat.le_of_ble_eq_true rfl, Nat.le_of_ble_eq_true rfl⟩) hK hE (fun H h => h) (m_recv hK) rfl (Nat.le_of_ble_eq_true rfl) dX6_reweigh_353 ⟨Nat.le_of_ble_eq_true rfl, Nat.le_of_ble_eq_true rfl⟩ ?_
              refine g_goto S (tgt := 361) dX6_reweigh_356 (by decide) ?_
              refine g_istore S dX6_reweigh_361 (by decide) rfl ?_
              refine g_iinc S (v := nI (i + 1)) dX6_reweigh_363 rfl (nI_inc i) (by decide) rfl ?_
              refine g_goto S (tgt := 301) dX6_reweigh_366 (by decide) ?_
              exact ih (i + 1) _ _ (by omega) (mTakeFor_wf ht _ _ _) (by rw [← e1]; simp only [mTake2, c_316, c_328, c_344, if_true, if_false, reduceIte, Bool.false_eq_true, not_true_eq_false, not_false_eq_true, ite_not, true_and, and_true]) e0 hd
  have L1 : ∀ (kk i : Nat) (a9 : MS) (left : Int32), i + kk = nr → mWf a9 → mTake1 d i kk a9 left = (mTake1 d 0 nr (mX (mS a 0 0) 16 d (mDry (gA a 15 d) mo9)) (-(mDry (gA a 15 d) mo9 - gA (mS a 0 0) 16 d))) → mReweigh a d mo9 = ((mDry (gA a 15 d) mo9 - gA (mS a 0 0) 16 d), mX (mTake2 d (gA (mX (mS a 0 0) 16 d (mDry (gA a 15 d) mo9)) 14 d) 0 nr (mTake1 d 0 nr (mX (mS a 0 0) 16 d (mDry (gA a 15 d) mo9)) (-(mDry (gA a 15 d) mo9 - gA (mS a 0 0) 16 d))).1 (mTake1 d 0 nr (mX (mS a 0 0) 16 d (mDry (gA a 15 d) mo9)) (-(mDry (gA a 15 d) mo9 - gA (mS a 0 0) 16 d))).2).1 6 (gA (mX (mS a 0 0) 16 d (mDry (gA a 15 d) mo9)) 14 d) (gA (mTake2 d (gA (mX (mS a 0 0) 16 d (mDry (gA a 15 d) mo9)) 14 d) 0 nr (mTake1 d 0 nr (mX (mS a 0 0) 16 d (mDry (gA a 15 d) mo9)) (-(mDry (gA a 15 d) mo9 - gA (mS a 0 0) 16 d))).1 (mTake1 d 0 nr (mX (mS a 0 0) 16 d (mDry (gA a 15 d) mo9)) (-(mDry (gA a 15 d) mo9 - gA (mS a 0 0) 16 d))).2).1 6 (gA (mX (mS a 0 0) 16 d (mDry (gA a 15 d) mo9)) 14 d) + (mTake2 d (gA (mX (mS a 0 0) 16 d (mDry (gA a 15 d) mo9)) 14 d) 0 nr (mTake1 d 0 nr (mX (mS a 0 0) 16 d (mDry (gA a 15 d) mo9)) (-(mDry (gA a 15 d) mo9 - gA (mS a 0 0) 16 d))).1 (mTake1 d 0 nr (mX (mS a 0 0) 16 d (mDry (gA a 15 d) mo9)) (-(mDry (gA a 15 d) mo9 - gA (mS a 0 0) 16 d))).2).2)) → vp_in d 40 → gW p l e (headSpec wsX6_reweigh rmX6_reweigh).room s m args below meth c A (gR below A args s 0 0 (gRet (some (.int (mReweigh a d mo9).1)) (hM D ty A mo ad (mReweigh a d mo9).2))) 13 (hM D ty A mo ad a9) 0 0 258 [some (.ref mo), some (.int d), some (.int mo9), some (.int (b2 (mIn d 0 (gS a 13 - 1)))), some (.int (b2 (mIn mo9 50 300))), some (.int (mDry (gA a 15 d) mo9)), some (.int 1), some (.int 1), some (.int (mDry (gA a 15 d) mo9 - gA (mS a 0 0) 16 d)), some (.int (gA (mX (mS a 0 0) 16 d (mDry (gA a 15 d) mo9)) 14 d)), some (.int left), some (.int (gS a 20)), some (.int (nI i))] [] := by
    intro kk
    induction kk with
    | zero =>
      intro i a9 left ei ht e1 e0 hd
      refine g_iload S dX6_reweigh_258 rfl ?_
      refine g_iload S dX6_reweigh_260 rfl ?_
      refine g_icmp_ge S (tgt := 298) dX6_reweigh_262 (by decide) (fun c_262 => ?_) (fun c_262 => ?_)
      · refine g_iconst S (v := 0) dX6_reweigh_298 (by decide) ?_
        refine g_istore S dX6_reweigh_299 (by decide) rfl ?_
        exact L2 nr 0 _ _ (Nat.zero_add _) ht (by rw [← e1]; rfl) e0 hd
      · exact absurd (lp_exit enr (by omega) (by omega)) c_262
    | succ kk ih =>
      intro i a9 left ei ht e1 e0 hd
      refine g_iload S dX6_reweigh_258 rfl ?_
      refine g_iload S dX6_reweigh_260 rfl ?_
      refine g_icmp_ge S (tgt := 298) dX6_reweigh_262 (by decide) (fun c_262 => ?_) (fun c_262 => ?_)
      · exact absurd c_262 (lp_stay enr (by omega) (by omega))
      · refine g_aload_n S dX6_reweigh_265 rfl ?_
        refine m_getf S hK 24 (by decide) (S.2.2.2.2 _ (List.mem_of_getElem? (i := 11) rfl)) rfl dX6_reweigh_266 ?_
        refine g_iload S dX6_reweigh_269 rfl ?_
        refine m_iald S hK (by decide) (vin_nI (N := 80) (by omega) (by decide)) dX6_reweigh_271 ?_
        refine g_iload_n S dX6_reweigh_272 rfl ?_
        refine g_icmp_ne S (tgt := 288) dX6_reweigh_273 (by decide) (fun c_273 => ?_) (fun c_273 => ?_)
        · refine g_iload S dX6_reweigh_288 rfl ?_
          refine g_istore S dX6_reweigh_290 (by decide) rfl ?_
          refine g_iinc S (v := nI (i + 1)) dX6_reweigh_292 rfl (nI_inc i) (by decide) rfl ?_
          refine g_goto S (tgt := 258) dX6_reweigh_295 (by decide) ?_
          exact ih (i + 1) _ _ (by omega) ht (by rw [← e1]; simp only [mTake1, c_273, if_true, if_false, reduceIte, Bool.false_eq_true, not_true_eq_false, not_false_eq_true, ite_not, true_and, and_true]) e0 hd
        · refine g_aload_n S dX6_reweigh_276 rfl ?_
          refine g_iload_n S dX6_reweigh_277 rfl ?_
          refine g_iload S dX6_reweigh_278 rfl ?_
          refine g_iload S dX6_reweigh_280 rfl ?_
          refine g_cVr S (c_takeFor l D ty A mo ad _ _ _ _ (by exact ht) (by exact hd) (by exact vin_nI (N := 80) (by omega) (by decide))) (cwV 3 S.2.2.2.2 gX6_reweigh_X6_takeFor rfl rfl rfl (by decide +kernel) ⟨Nat.le_of_ble_eq_true rfl, Nat.le_of_ble_eq_true rfl⟩) hK hE (fun H h => h) (m_recv hK) rfl (Nat.le_of_ble_eq_true rfl) dX6_reweigh_282 ⟨Nat.le_of_ble_eq_true rfl, Nat.le_of_ble_eq_true rfl⟩ ?_
          refine g_goto S (tgt := 290) dX6_reweigh_285 (by decide) ?_
          refine g_istore S dX6_reweigh_290 (by decide) rfl ?_
          refine g_iinc S (v := nI (i + 1)) dX6_reweigh_292 rfl (nI_inc i) (by decide) rfl ?_
          refine g_goto S (tgt := 258) dX6_reweigh_295 (by decide) ?_
          exact ih (i + 1) _ _ (by omega) (mTakeFor_wf ht _ _ _) (by rw [← e1]; simp only [mTake1, c_273, if_true, if_false, reduceIte, Bool.false_eq_true, not_true_eq_false, not_false_eq_true, ite_not, true_and, and_true]) e0 hd
  refine g_iload_n S dX6_reweigh_0 rfl ?_
  refine g_iconst S (v := 0) dX6_reweigh_1 (by decide) ?_
  refine g_aload_n S dX6_reweigh_2 rfl ?_
  refine m_getf S hK 13 (by decide) (S.2.2.2.2 _ (List.mem_of_getElem? (i := 1) rfl)) rfl dX6_reweigh_3 ?_
  refine g_iconst S (v := 1) dX6_reweigh_6 (by decide) ?_
  refine g_isub S dX6_reweigh_7 ?_
  refine g_cSr S (c_in l D ty A _ _ _ _) (va_cwS 3 S.2.2.2.2 gX6_reweigh_X6_in rfl rfl rfl (by decide +kernel) ⟨Nat.le_of_ble_eq_true rfl, Nat.le_of_ble_eq_true rfl⟩) hK hE (fun H h => h) rfl (Nat.le_of_ble_eq_true rfl) dX6_reweigh_8 ⟨Nat.le_of_ble_eq_true rfl, Nat.le_of_ble_eq_true rfl⟩ ?_
  refine g_istore_n S dX6_reweigh_11 (by decide) rfl ?_
  refine g_iload_n S dX6_reweigh_12 rfl ?_
  refine g_bipush S (v := 50) dX6_reweigh_13 (by decide) ?_
  refine g_sipush S (v := 300) dX6_reweigh_15 (by decide) ?_
  refine g_cSr S (c_in l D ty A _ _ _ _) (va_cwS 3 S.2.2.2.2 gX6_reweigh_X6_in rfl rfl rfl (by decide +kernel) ⟨Nat.le_of_ble_eq_true rfl, Nat.le_of_ble_eq_true rfl⟩) hK hE (fun H h => h) rfl (Nat.le_of_ble_eq_true rfl) dX6_reweigh_18 ⟨Nat.le_of_ble_eq_true rfl, Nat.le_of_ble_eq_true rfl⟩ ?_
  refine g_istore S dX6_reweigh_21 (by decide) rfl ?_
  refine g_iload_n S dX6_reweigh_23 rfl ?_
  refine g_ifb_eq S (tgt := 45) dX6_reweigh_24 (by decide) (fun c_24 => ?_) (fun c_24 => ?_)
  · refine g_iconst S (v := 0) dX6_reweigh_45 (by decide) ?_
    refine g_istore S dX6_reweigh_46 (by decide) rfl ?_
    refine g_iload_n S dX6_reweigh_48 rfl ?_
    refine g_ifb_eq S (tgt := 81) dX6_reweigh_49 (by decide) (fun c_49 => ?_) (fun c_49 => ?_)
    · refine g_iconst S (v := 0) dX6_reweigh_81 (by decide) ?_
      refine g_istore S dX6_reweigh_82 (by decide) rfl ?_
      refine g_iload_n S dX6_reweigh_84 rfl ?_
      refine g_ifb_eq S (tgt := 117) dX6_reweigh_85 (by decide) (fun c_85 => ?_) (fun c_85 => ?_)
      · refine g_iconst S (v := 0) dX6_reweigh_117 (by decide) ?_
        refine g_istore S dX6_reweigh_118 (by decide) rfl ?_
        refine g_aload_n S dX6_reweigh_120 rfl ?_
        refine g_iload_n S dX6_reweigh_121 rfl ?_
        refine g_ifb_ne S (tgt := 129) dX6_reweigh_122 (by decide) (fun c_122 => ?_) (fun c_122 => ?_)
        · exact absurd (c_122.symm.trans c_24) (by decide)
        · refine g_iconst S (v := 1) dX6_reweigh_125 (by decide) ?_
          refine g_goto S (tgt := 148) dX6_reweigh_126 (by decide) ?_
          refine g_cVr S (c_goesWell l D ty A mo ad _ _) (cwV 1 S.2.2.2.2 gX6_reweigh_X6_goesWell rfl rfl rfl (by decide +kernel) ⟨Nat.le_of_ble_eq_true rfl, Nat.le_of_ble_eq_true rfl⟩) hK hE (fun H h => h) (m_recv hK) rfl (Nat.le_of_ble_eq_true rfl) dX6_reweigh_148 ⟨Nat.le_of_ble_eq_true rfl, Nat.le_of_ble_eq_true rfl⟩ ?_
          refine g_if_ne S (tgt := 156) dX6_reweigh_151 (by decide) (fun c_151 => ?_) (fun c_151 => ?_)
          · exact absurd c_151 (by decide)
          · refine g_iconst S (v := 0) dX6_reweigh_154 (by decide) ?_
            exact g_iret S hlk hr (fun H h => (by simp (config := { decide := true }) only [gRet, mReweigh, c_24, ecl, if_true, if_false, reduceIte, Bool.false_eq_true, not_true_eq_false, not_false_eq_true, true_and, and_true, Bool.and_self, Bool.and_true, Bool.true_and, Bool.and_false, Bool.false_and, decide_true, decide_false]; first | exact ⟨rfl, h⟩ | exact h)) (Nat.le_refl _) (Nat.le_refl _) dX6_reweigh_155
      · exact absurd (c_85.symm.trans c_24) (by decide)
    · exact absurd (c_49.symm.trans c_24) (by decide)
  · refine g_iload S dX6_reweigh_27 rfl ?_
    refine g_ifb_eq S (tgt := 45) dX6_reweigh_29 (by decide) (fun c_29 => ?_) (fun c_29 => ?_)
    · refine g_iconst S (v := 0) dX6_reweigh_45 (by decide) ?_
      refine g_istore S dX6_reweigh_46 (by decide) rfl ?_
      refine g_iload_n S dX6_reweigh_48 rfl ?_
      refine g_ifb_eq S (tgt := 81) dX6_reweigh_49 (by decide) (fun c_49 => ?_) (fun c_49 => ?_)
      · exact absurd (c_49.symm.trans c_24) (by decide)
      · refine g_aload_n S dX6_reweigh_52 rfl ?_
        refine g_aload_n S dX6_reweigh_53 rfl ?_
        refine m_getf S hK 19 (by decide) (S.2.2.2.2 _ (List.mem_of_getElem? (i := 3) rfl)) rfl dX6_reweigh_54 ?_
        refine g_iload_n S dX6_reweigh_57 rfl ?_
        refine m_iald S hK (by decide) (rin c_24 hn.2.1) dX6_reweigh_58 ?_
        refine g_aload_n S dX6_reweigh_59 rfl ?_
        refine m_getf S hK 17 (by decide) (S.2.2.2.2 _ (List.mem_of_getElem? (i := 4) rfl)) rfl dX6_reweigh_60 ?_
        refine g_iload_n S dX6_reweigh_63 rfl ?_
        refine m_iald S hK (by decide) (rin c_24 hn.2.1) dX6_reweigh_64 ?_
        refine g_aload_n S dX6_reweigh_65 rfl ?_
        refine m_getf S hK 18 (by decide) (S.2.2.2.2 _ (List.mem_of_getElem? (i := 5) rfl)) rfl dX6_reweigh_66 ?_
        refine g_iload_n S dX6_reweigh_69 rfl ?_
        refine m_iald S hK (by decide) (rin c_24 hn.2.1) dX6_reweigh_70 ?_
        refine g_cVr S (c_isOf l D ty A mo ad _ _ _ _ (by exact hw 19 _)) (cwV 3 S.2.2.2.2 gX6_reweigh_X6_isOf rfl rfl rfl (by decide +kernel) ⟨Nat.le_of_ble_eq_true rfl, Nat.le_of_ble_eq_true rfl⟩) hK hE (fun H h => h) (m_recv hK) rfl (Nat.le_of_ble_eq_true rfl) dX6_reweigh_71 ⟨Nat.le_of_ble_eq_true rfl, Nat.le_of_ble_eq_true rfl⟩ ?_
        refine g_ifb_eq S (tgt := 81) dX6_reweigh_74 (by decide) (fun c_74 => ?_) (fun c_74 => ?_)
        · refine g_iconst S (v := 0) dX6_reweigh_81 (by decide) ?_
          refine g_istore S dX6_reweigh_82 (by decide) rfl ?_
          refine g_iload_n S dX6_reweigh_84 rfl ?_
          refine g_ifb_eq S (tgt := 117) dX6_reweigh_85 (by decide) (fun c_85 => ?_) (fun c_85 => ?_)
          · exact absurd (c_85.symm.trans c_24) (by decide)
          · refine g_iload S dX6_reweigh_88 rfl ?_
            refine g_aload_n S dX6_reweigh_90 rfl ?_
            refine m_getf S hK 16 (by decide) (S.2.2.2.2 _ (List.mem_of_getElem? (i := 6) rfl)) rfl dX6_reweigh_91 ?_
            refine g_iload_n S dX6_reweigh_94 rfl ?_
            refine m_iald S hK (by decide) (rin c_24 hn.2.1) dX6_reweigh_95 ?_
            refine g_icmp_le S (tgt := 113) dX6_reweigh_96 (by decide) (fun c_96 => ?_) (fun c_96 => ?_)
            · refine g_iconst S (v := 1) dX6_reweigh_113 (by decide) ?_
              refine g_goto S (tgt := 118) dX6_reweigh_114 (by decide) ?_
              refine g_istore S dX6_reweigh_118 (by decide) rfl ?_
              refine g_aload_n S dX6_reweigh_120 rfl ?_
              refine g_iload_n S dX6_reweigh_121 rfl ?_
              refine g_ifb_ne S (tgt := 129) dX6_reweigh_122 (by decide) (fun c_122 => ?_) (fun c_122 => ?_)
              · refine g_iload S dX6_reweigh_129 rfl ?_
                refine g_ifb_ne S (tgt := 138) dX6_reweigh_131 (by decide) (fun c_131 => ?_) (fun c_131 => ?_)
                · exact absurd (c_131.symm.trans c_29) (by decide)
                · refine g_iconst S (v := 2) dX6_reweigh_134 (by decide) ?_
                  refine g_goto S (tgt := 148) dX6_reweigh_135 (by decide) ?_
                  refine g_cVr S (c_goesWell l D ty A mo ad _ _) (cwV 1 S.2.2.2.2 gX6_reweigh_X6_goesWell rfl rfl rfl (by decide +kernel) ⟨Nat.le_of_ble_eq_true rfl, Nat.le_of_ble_eq_true rfl⟩) hK hE (fun H h => h) (m_recv hK) rfl (Nat.le_of_ble_eq_true rfl) dX6_reweigh_148 ⟨Nat.le_of_ble_eq_true rfl, Nat.le_of_ble_eq_true rfl⟩ ?_
                  refine g_if_ne S (tgt := 156) dX6_reweigh_151 (by decide) (fun c_151 => ?_) (fun c_151 => ?_)
                  · exact absurd c_151 (by decide)
                  · refine g_iconst S (v := 0) dX6_reweigh_154 (by decide) ?_
                    exact g_iret S hlk hr (fun H h => (by simp (config := { decide := true }) only [gRet, mReweigh, c_24, c_29, c_74, c_96, ecl, if_true, if_false, reduceIte, Bool.false_eq_true, not_true_eq_false, not_false_eq_true, true_and, and_true, Bool.and_self, Bool.and_true, Bool.true_and, Bool.and_false, Bool.false_and, decide_true, decide_false]; first | exact ⟨rfl, h⟩ | exact h)) (Nat.le_refl _) (Nat.le_refl _) dX6_reweigh_155
              · exact absurd (c_122.symm.trans c_24) (by decide)
            · refine g_iload S dX6_reweigh_99 rfl ?_
              refine g_if_eq S (tgt := 113) dX6_reweigh_101 (by decide) (fun c_101 => ?_) (fun c_101 => ?_)
              · refine g_iconst S (v := 1) dX6_reweigh_113 (by decide) ?_
                refine g_goto S (tgt := 118) dX6_reweigh_114 (by decide) ?_
                refine g_istore S dX6_reweigh_118 (by decide) rfl ?_
                refine g_aload_n S dX6_reweigh_120 rfl ?_
                refine g_iload_n S dX6_reweigh_121 rfl ?_
                refine g_ifb_ne S (tgt := 129) dX6_reweigh_122 (by decide) (fun c_122 => ?_) (fun c_122 => ?_)
                · refine g_iload S dX6_reweigh_129 rfl ?_
                  refine g_ifb_ne S (tgt := 138) dX6_reweigh_131 (by decide) (fun c_131 => ?_) (fun c_131 => ?_)
                  · exact absurd (c_131.symm.trans c_29) (by decide)
                  · refine g_iconst S (v := 2) dX6_reweigh_134 (by decide) ?_
                    refine g_goto S (tgt := 148) dX6_reweigh_135 (by decide) ?_
                    refine g_cVr S (c_goesWell l D ty A mo ad _ _) (cwV 1 S.2.2.2.2 gX6_reweigh_X6_goesWell rfl rfl rfl (by decide +kernel) ⟨Nat.le_of_ble_eq_true rfl, Nat.le_of_ble_eq_true rfl⟩) hK hE (fun H h => h) (m_recv hK) rfl (Nat.le_of_ble_eq_true rfl) dX6_reweigh_148 ⟨Nat.le_of_ble_eq_true rfl, Nat.le_of_ble_eq_true rfl⟩ ?_
                    refine g_if_ne S (tgt := 156) dX6_reweigh_151 (by decide) (fun c_151 => ?_) (fun c_151 => ?_)
                    · exact absurd c_151 (by decide)
                    · refine g_iconst S (v := 0) dX6_reweigh_154 (by decide) ?_
                      exact g_iret S hlk hr (fun H h => (by simp (config := { decide := true }) only [gRet, mReweigh, c_24, c_29, c_74, c_96, ecl, if_true, if_false, reduceIte, Bool.false_eq_true, not_true_eq_false, not_false_eq_true, true_and, and_true, Bool.and_self, Bool.and_true, Bool.true_and, Bool.and_false, Bool.false_and, decide_true, decide_false]; first | exact ⟨rfl, h⟩ | exact h)) (Nat.le_refl _) (Nat.le_refl _) dX6_reweigh_155
                · exact absurd (c_122.symm.trans c_24) (by decide)
              · exact absurd c_101 (by decide)
        · refine g_iconst S (v := 1) dX6_reweigh_77 (by decide) ?_
          refine g_goto S (tgt := 82) dX6_reweigh_78 (by decide) ?_
          refine g_istore S dX6_reweigh_82 (by decide) rfl ?_
          refine g_iload_n S dX6_reweigh_84 rfl ?_
          refine g_ifb_eq S (tgt := 117) dX6_reweigh_85 (by decide) (fun c_85 => ?_) (fun c_85 => ?_)
          · exact absurd (c_85.symm.trans c_24) (by decide)
          · refine g_iload S dX6_reweigh_88 rfl ?_
            refine g_aload_n S dX6_reweigh_90 rfl ?_
            refine m_getf S hK 16 (by decide) (S.2.2.2.2 _ (List.mem_of_getElem? (i := 6) rfl)) rfl dX6_reweigh_91 ?_
            refine g_iload_n S dX6_reweigh_94 rfl ?_
            refine m_iald S hK (by decide) (rin c_24 hn.2.1) dX6_reweigh_95 ?_
            refine g_icmp_le S (tgt := 113) dX6_reweigh_96 (by decide) (fun c_96 => ?_) (fun c_96 => ?_)
            · refine g_iconst S (v := 1) dX6_reweigh_113 (by decide) ?_
              refine g_goto S (tgt := 118) dX6_reweigh_114 (by decide) ?_
              refine g_istore S dX6_reweigh_118 (by decide) rfl ?_
              refine g_aload_n S dX6_reweigh_120 rfl ?_
              refine g_iload_n S dX6_reweigh_121 rfl ?_
              refine g_ifb_ne S (tgt := 129) dX6_reweigh_122 (by decide) (fun c_122 => ?_) (fun c_122 => ?_)
              · refine g_iload S dX6_reweigh_129 rfl ?_
                refine g_ifb_ne S (tgt := 138) dX6_reweigh_131 (by decide) (fun c_131 => ?_) (fun c_131 => ?_)
                · exact absurd (c_131.symm.trans c_29) (by decide)
                · refine g_iconst S (v := 2) dX6_reweigh_134 (by decide) ?_
                  refine g_goto S (tgt := 148) dX6_reweigh_135 (by decide) ?_
                  refine g_cVr S (c_goesWell l D ty A mo ad _ _) (cwV 1 S.2.2.2.2 gX6_reweigh_X6_goesWell rfl rfl rfl (by decide +kernel) ⟨Nat.le_of_ble_eq_true rfl, Nat.le_of_ble_eq_true rfl⟩) hK hE (fun H h => h) (m_recv hK) rfl (Nat.le_of_ble_eq_true rfl) dX6_reweigh_148 ⟨Nat.le_of_ble_eq_true rfl, Nat.le_of_ble_eq_true rfl⟩ ?_
                  refine g_if_ne S (tgt := 156) dX6_reweigh_151 (by decide) (fun c_151 => ?_) (fun c_151 => ?_)
                  · exact absurd c_151 (by decide)
                  · refine g_iconst S (v := 0) dX6_reweigh_154 (by decide) ?_
                    exact g_iret S hlk hr (fun H h => (by simp (config := { decide := true }) only [gRet, mReweigh, c_24, c_29, c_74, c_96, ecl, if_true, if_false, reduceIte, Bool.false_eq_true, not_true_eq_false, not_false_eq_true, true_and, and_true, Bool.and_self, Bool.and_true, Bool.true_and, Bool.and_false, Bool.false_and, decide_true, decide_false]; first | exact ⟨rfl, h⟩ | exact h)) (Nat.le_refl _) (Nat.le_refl _) dX6_reweigh_155
              · exact absurd (c_122.symm.trans c_24) (by decide)
            · refine g_iload S dX6_reweigh_99 rfl ?_
              refine g_if_eq S (tgt := 113) dX6_reweigh_101 (by decide) (fun c_101 => ?_) (fun c_101 => ?_)
              · exact absurd c_101 (by decide)
              · refine g_aload_n S dX6_reweigh_104 rfl ?_
                refine m_getf S hK 20 (by decide) (S.2.2.2.2 _ (List.mem_of_getElem? (i := 7) rfl)) rfl dX6_reweigh_105 ?_
                refine g_bipush S (v := 80) dX6_reweigh_108 (by decide) ?_
                refine g_icmp_ge S (tgt := 117) dX6_reweigh_110 (by decide) (fun c_110 => ?_) (fun c_110 => ?_)
                · refine g_iconst S (v := 0) dX6_reweigh_117 (by decide) ?_
                  refine g_istore S dX6_reweigh_118 (by decide) rfl ?_
                  refine g_aload_n S dX6_reweigh_120 rfl ?_
                  refine g_iload_n S dX6_reweigh_121 rfl ?_
                  refine g_ifb_ne S (tgt := 129) dX6_reweigh_122 (by decide) (fun c_122 => ?_) (fun c_122 => ?_)
                  · refine g_iload S dX6_reweigh_129 rfl ?_
                    refine g_ifb_ne S (tgt := 138) dX6_reweigh_131 (by decide) (fun c_131 => ?_) (fun c_131 => ?_)
                    · exact absurd (c_131.symm.trans c_29) (by decide)
                    · refine g_iconst S (v := 2) dX6_reweigh_134 (by decide) ?_
                      refine g_goto S (tgt := 148) dX6_reweigh_135 (by decide) ?_
                      refine g_cVr S (c_goesWell l D ty A mo ad _ _) (cwV 1 S.2.2.2.2 gX6_reweigh_X6_goesWell rfl rfl rfl (by decide +kernel) ⟨Nat.le_of_ble_eq_true rfl, Nat.le_of_ble_eq_true rfl⟩) hK hE (fun H h => h) (m_recv hK) rfl (Nat.le_of_ble_eq_true rfl) dX6_reweigh_148 ⟨Nat.le_of_ble_eq_true rfl, Nat.le_of_ble_eq_true rfl⟩ ?_
                      refine g_if_ne S (tgt := 156) dX6_reweigh_151 (by decide) (fun c_151 => ?_) (fun c_151 => ?_)
                      · exact absurd c_151 (by decide)
                      · refine g_iconst S (v := 0) dX6_reweigh_154 (by decide) ?_
                        exact g_iret S hlk hr (fun H h => (by simp (config := { decide := true }) only [gRet, mReweigh, c_24, c_29, c_74, c_96, c_110, ecl, if_true, if_false, reduceIte, Bool.false_eq_true, not_true_eq_false, not_false_eq_true, true_and, and_true, Bool.and_self, Bool.and_true, Bool.true_and, Bool.and_false, Bool.false_and, decide_true, decide_false]; first | exact ⟨rfl, h⟩ | exact h)) (Nat.le_refl _) (Nat.le_refl _) dX6_reweigh_155
                  · exact absurd (c_122.symm.trans c_24) (by decide)
                · refine g_iconst S (v := 1) dX6_reweigh_113 (by decide) ?_
                  refine g_goto S (tgt := 118) dX6_reweigh_114 (by decide) ?_
                  refine g_istore S dX6_reweigh_118 (by decide) rfl ?_
                  refine g_aload_n S dX6_reweigh_120 rfl ?_
                  refine g_iload_n S dX6_reweigh_121 rfl ?_
                  refine g_ifb_ne S (tgt := 129) dX6_reweigh_122 (by decide) (fun c_122 => ?_) (fun c_122 => ?_)
                  · refine g_iload S dX6_reweigh_129 rfl ?_
                    refine g_ifb_ne S (tgt := 138) dX6_reweigh_131 (by decide) (fun c_131 => ?_) (fun c_131 => ?_)
                    · exact absurd (c_131.symm.trans c_29) (by decide)
                    · refine g_iconst S (v := 2) dX6_reweigh_134 (by decide) ?_
                      refine g_goto S (tgt := 148) dX6_reweigh_135 (by decide) ?_
                      refine g_cVr S (c_goesWell l D ty A mo ad _ _) (cwV 1 S.2.2.2.2 gX6_reweigh_X6_goesWell rfl rfl rfl (by decide +kernel) ⟨Nat.le_of_ble_eq_true rfl, Nat.le_of_ble_eq_true rfl⟩) hK hE (fun H h => h) (m_recv hK) rfl (Nat.le_of_ble_eq_true rfl) dX6_reweigh_148 ⟨Nat.le_of_ble_eq_true rfl, Nat.le_of_ble_eq_true rfl⟩ ?_
                      refine g_if_ne S (tgt := 156) dX6_reweigh_151 (by decide) (fun c_151 => ?_) (fun c_151 => ?_)
                      · exact absurd c_151 (by decide)
                      · refine g_iconst S (v := 0) dX6_reweigh_154 (by decide) ?_
                        exact g_iret S hlk hr (fun H h => (by simp (config := { decide := true }) only [gRet, mReweigh, c_24, c_29, c_74, c_96, c_110, ecl, if_true, if_false, reduceIte, Bool.false_eq_true, not_true_eq_false, not_false_eq_true, true_and, and_true, Bool.and_self, Bool.and_true, Bool.true_and, Bool.and_false, Bool.false_and, decide_true, decide_false]; first | exact ⟨rfl, h⟩ | exact h)) (Nat.le_refl _) (Nat.le_refl _) dX6_reweigh_155
                  · exact absurd (c_122.symm.trans c_24) (by decide)
    · refine g_aload_n S dX6_reweigh_32 rfl ?_
      refine m_getf S hK 15 (by decide) (S.2.2.2.2 _ (List.mem_of_getElem? (i := 2) rfl)) rfl dX6_reweigh_33 ?_
      refine g_iload_n S dX6_reweigh_36 rfl ?_
      refine m_iald S hK (by decide) (rin c_24 hn.2.1) dX6_reweigh_37 ?_
      refine g_iload_n S dX6_reweigh_38 rfl ?_
      refine g_cSr S (c_dryOf l D ty A _ _ _) (va_cwS 2 S.2.2.2.2 gX6_reweigh_X6_dryOf rfl rfl rfl (by decide +kernel) ⟨Nat.le_of_ble_eq_true rfl, Nat.le_of_ble_eq_true rfl⟩) hK hE (fun H h => h) rfl (Nat.le_of_ble_eq_true rfl) dX6_reweigh_39 ⟨Nat.le_of_ble_eq_true rfl, Nat.le_of_ble_eq_true rfl⟩ ?_
      refine g_goto S (tgt := 46) dX6_reweigh_42 (by decide) ?_
      refine g_istore S dX6_reweigh_46 (by decide) rfl ?_
      refine g_iload_n S dX6_reweigh_48 rfl ?_
      refine g_ifb_eq S (tgt := 81) dX6_reweigh_49 (by decide) (fun c_49 => ?_) (fun c_49 => ?_)
      · exact absurd (c_49.symm.trans c_24) (by decide)
      · refine g_aload_n S dX6_reweigh_52 rfl ?_
        refine g_aload_n S dX6_reweigh_53 rfl ?_
        refine m_getf S hK 19 (by decide) (S.2.2.2.2 _ (List.mem_of_getElem? (i := 3) rfl)) rfl dX6_reweigh_54 ?_
        refine g_iload_n S dX6_reweigh_57 rfl ?_
        refine m_iald S hK (by decide) (rin c_24 hn.2.1) dX6_reweigh_58 ?_
        refine g_aload_n S dX6_reweigh_59 rfl ?_
        refine m_getf S hK 17 (by decide) (S.2.2.2.2 _ (List.mem_of_getElem? (i := 4) rfl)) rfl dX6_reweigh_60 ?_
        refine g_iload_n S dX6_reweigh_63 rfl ?_
        refine m_iald S hK (by decide) (rin c_24 hn.2.1) dX6_reweigh_64 ?_
        refine g_aload_n S dX6_reweigh_65 rfl ?_
        refine m_getf S hK 18 (by decide) (S.2.2.2.2 _ (List.mem_of_getElem? (i := 5) rfl)) rfl dX6_reweigh_66 ?_
        refine g_iload_n S dX6_reweigh_69 rfl ?_
        refine m_iald S hK (by decide) (rin c_24 hn.2.1) dX6_reweigh_70 ?_
        refine g_cVr S (c_isOf l D ty A mo ad _ _ _ _ (by exact hw 19 _)) (cwV 3 S.2.2.2.2 gX6_reweigh_X6_isOf rfl rfl rfl (by decide +kernel) ⟨Nat.le_of_ble_eq_true rfl, Nat.le_of_ble_eq_true rfl⟩) hK hE (fun H h => h) (m_recv hK) rfl (Nat.le_of_ble_eq_true rfl) dX6_reweigh_71 ⟨Nat.le_of_ble_eq_true rfl, Nat.le_of_ble_eq_true rfl⟩ ?_
        refine g_ifb_eq S (tgt := 81) dX6_reweigh_74 (by decide) (fun c_74 => ?_) (fun c_74 => ?_)
        · refine g_iconst S (v := 0) dX6_reweigh_81 (by decide) ?_
          refine g_istore S dX6_reweigh_82 (by decide) rfl ?_
          refine g_iload_n S dX6_reweigh_84 rfl ?_
          refine g_ifb_eq S (tgt := 117) dX6_reweigh_85 (by decide) (fun c_85 => ?_) (fun c_85 => ?_)
          · exact absurd (c_85.symm.trans c_24) (by decide)
          · refine g_iload S dX6_reweigh_88 rfl ?_
            refine g_aload_n S dX6_reweigh_90 rfl ?_
            refine m_getf S hK 16 (by decide) (S.2.2.2.2 _ (List.mem_of_getElem? (i := 6) rfl)) rfl dX6_reweigh_91 ?_
            refine g_iload_n S dX6_reweigh_94 rfl ?_
            refine m_iald S hK (by decide) (rin c_24 hn.2.1) dX6_reweigh_95 ?_
            refine g_icmp_le S (tgt := 113) dX6_reweigh_96 (by decide) (fun c_96 => ?_) (fun c_96 => ?_)
            · refine g_iconst S (v := 1) dX6_reweigh_113 (by decide) ?_
              refine g_goto S (tgt := 118) dX6_reweigh_114 (by decide) ?_
              refine g_istore S dX6_reweigh_118 (by decide) rfl ?_
              refine g_aload_n S dX6_reweigh_120 rfl ?_
              refine g_iload_n S dX6_reweigh_121 rfl ?_
              refine g_ifb_ne S (tgt := 129) dX6_reweigh_122 (by decide) (fun c_122 => ?_) (fun c_122 => ?_)
              · refine g_iload S dX6_reweigh_129 rfl ?_
                refine g_ifb_ne S (tgt := 138) dX6_reweigh_131 (by decide) (fun c_131 => ?_) (fun c_131 => ?_)
                · refine g_iload S dX6_reweigh_138 rfl ?_
                  refine g_if_eq S (tgt := 147) dX6_reweigh_140 (by decide) (fun c_140 => ?_) (fun c_140 => ?_)
                  · exact absurd c_140 (by decide)
                  · refine g_iconst S (v := 0) dX6_reweigh_143 (by decide) ?_
                    refine g_goto S (tgt := 148) dX6_reweigh_144 (by decide) ?_
                    refine g_cVr S (c_goesWell l D ty A mo ad _ _) (cwV 1 S.2.2.2.2 gX6_reweigh_X6_goesWell rfl rfl rfl (by decide +kernel) ⟨Nat.le_of_ble_eq_true rfl, Nat.le_of_ble_eq_true rfl⟩) hK hE (fun H h => h) (m_recv hK) rfl (Nat.le_of_ble_eq_true rfl) dX6_reweigh_148 ⟨Nat.le_of_ble_eq_true rfl, Nat.le_of_ble_eq_true rfl⟩ ?_
                    refine g_if_ne S (tgt := 156) dX6_reweigh_151 (by decide) (fun c_151 => ?_) (fun c_151 => ?_)
                    · refine g_iload S dX6_reweigh_156 rfl ?_
                      refine g_aload_n S dX6_reweigh_158 rfl ?_
                      refine m_getf S hK 16 (by decide) (S.2.2.2.2 _ (List.mem_of_getElem? (i := 6) rfl)) rfl dX6_reweigh_159 ?_
                      refine g_iload_n S dX6_reweigh_162 rfl ?_
                      refine m_iald S hK (by decide) (rin c_24 hn.2.1) dX6_reweigh_163 ?_
                      refine g_isub S dX6_reweigh_164 ?_
                      refine g_istore S dX6_reweigh_165 (by decide) rfl ?_
                      refine g_aload_n S dX6_reweigh_167 rfl ?_
                      refine m_getf S hK 16 (by decide) (S.2.2.2.2 _ (List.mem_of_getElem? (i := 6) rfl)) rfl dX6_reweigh_168 ?_
                      refine g_iload_n S dX6_reweigh_171 rfl ?_
                      refine g_iload S dX6_reweigh_172 rfl ?_
                      refine m_iast S hK (by decide) (rin c_24 hn.2.1) dX6_reweigh_174 ?_
                      refine g_aload_n S dX6_reweigh_175 rfl ?_
                      refine m_getf S hK 14 (by decide) (S.2.2.2.2 _ (List.mem_of_getElem? (i := 8) rfl)) rfl dX6_reweigh_176 ?_
                      refine g_iload_n S dX6_reweigh_179 rfl ?_
                      refine m_iald S hK (by decide) (rin c_24 hn.2.1) dX6_reweigh_180 ?_
                      refine g_istore S dX6_reweigh_181 (by decide) rfl ?_
                      refine g_iload S dX6_reweigh_183 rfl ?_
                      refine g_if_ne S (tgt := 203) dX6_reweigh_185 (by decide) (fun c_185 => ?_) (fun c_185 => ?_)
                      · exact absurd c_185 (by decide)
                      · refine g_aload_n S dX6_reweigh_188 rfl ?_
                        refine m_getf S hK 6 (by decide) (S.2.2.2.2 _ (List.mem_of_getElem? (i := 9) rfl)) rfl dX6_reweigh_189 ?_
                        refine g_iload S dX6_reweigh_192 rfl ?_
                        refine g_dup2_11 S dX6_reweigh_194 rfl rfl ?_
                        refine m_iald S hK (by decide) hwho dX6_reweigh_195 ?_
                        refine g_iload S dX6_reweigh_196 rfl ?_
                        refine g_isub S dX6_reweigh_198 ?_
                        refine m_iast S hK (by decide) hwho dX6_reweigh_199 ?_
                        refine g_goto S (tgt := 381) dX6_reweigh_200 (by decide) ?_
                        refine g_iload S dX6_reweigh_381 rfl ?_
                        exact g_iret S hlk hr (fun H h => (by simp (config := { decide := true }) only [gRet, mReweigh, c_24, c_29, c_74, c_96, ecl, if_true, if_false, reduceIte, Bool.false_eq_true, not_true_eq_false, not_false_eq_true, true_and, and_true, Bool.and_self, Bool.and_true, Bool.true_and, Bool.and_false, Bool.false_and, decide_true, decide_false]; first | exact ⟨rfl, h⟩ | exact h)) (Nat.le_refl _) (Nat.le_refl _) dX6_reweigh_383
                    · exact absurd c_151 (by decide)
                · exact absurd (c_131.symm.trans c_29) (by decide)
              · exact absurd (c_122.symm.trans c_24) (by decide)
            · refine g_iload S dX6_reweigh_99 rfl ?_
              refine g_if_eq S (tgt := 113) dX6_reweigh_101 (by decide) (fun c_101 => ?_) (fun c_101 => ?_)
              · refine g_iconst S (v := 1) dX6_reweigh_113 (by decide) ?_
                refine g_goto S (tgt := 118) dX6_reweigh_114 (by decide) ?_
                refine g_istore S dX6_reweigh_118 (by decide) rfl ?_
                refine g_aload_n S dX6_reweigh_120 rfl ?_
                refine g_iload_n S dX6_reweigh_121 rfl ?_
                refine g_ifb_ne S (tgt := 129) dX6_reweigh_122 (by decide) (fun c_122 => ?_) (fun c_122 => ?_)
                · refine g_iload S dX6_reweigh_129 rfl ?_
                  refine g_ifb_ne S (tgt := 138) dX6_reweigh_131 (by decide) (fun c_131 => ?_) (fun c_131 => ?_)
                  · refine g_iload S dX6_reweigh_138 rfl ?_
                    refine g_if_eq S (tgt := 147) dX6_reweigh_140 (by decide) (fun c_140 => ?_) (fun c_140 => ?_)
                    · exact absurd c_140 (by decide)
                    · refine g_iconst S (v := 0) dX6_reweigh_143 (by decide) ?_
                      refine g_goto S (tgt := 148) dX6_reweigh_144 (by decide) ?_
                      refine g_cVr S (c_goesWell l D ty A mo ad _ _) (cwV 1 S.2.2.2.2 gX6_reweigh_X6_goesWell rfl rfl rfl (by decide +kernel) ⟨Nat.le_of_ble_eq_true rfl, Nat.le_of_ble_eq_true rfl⟩) hK hE (fun H h => h) (m_recv hK) rfl (Nat.le_of_ble_eq_true rfl) dX6_reweigh_148 ⟨Nat.le_of_ble_eq_true rfl, Nat.le_of_ble_eq_true rfl⟩ ?_
                      refine g_if_ne S (tgt := 156) dX6_reweigh_151 (by decide) (fun c_151 => ?_) (fun c_151 => ?_)
                      · refine g_iload S dX6_reweigh_156 rfl ?_
                        refine g_aload_n S dX6_reweigh_158 rfl ?_
                        refine m_getf S hK 16 (by decide) (S.2.2.2.2 _ (List.mem_of_getElem? (i := 6) rfl)) rfl dX6_reweigh_159 ?_
                        refine g_iload_n S dX6_reweigh_162 rfl ?_
                        refine m_iald S hK (by decide) (rin c_24 hn.2.1) dX6_reweigh_163 ?_
                        refine g_isub S dX6_reweigh_164 ?_
                        refine g_istore S dX6_reweigh_165 (by decide) rfl ?_
                        refine g_aload_n S dX6_reweigh_167 rfl ?_
                        refine m_getf S hK 16 (by decide) (S.2.2.2.2 _ (List.mem_of_getElem? (i := 6) rfl)) rfl dX6_reweigh_168 ?_
                        refine g_iload_n S dX6_reweigh_171 rfl ?_
                        refine g_iload S dX6_reweigh_172 rfl ?_
                        refine m_iast S hK (by decide) (rin c_24 hn.2.1) dX6_reweigh_174 ?_
                        refine g_aload_n S dX6_reweigh_175 rfl ?_
                        refine m_getf S hK 14 (by decide) (S.2.2.2.2 _ (List.mem_of_getElem? (i := 8) rfl)) rfl dX6_reweigh_176 ?_
                        refine g_iload_n S dX6_reweigh_179 rfl ?_
                        refine m_iald S hK (by decide) (rin c_24 hn.2.1) dX6_reweigh_180 ?_
                        refine g_istore S dX6_reweigh_181 (by decide) rfl ?_
                        refine g_iload S dX6_reweigh_183 rfl ?_
                        refine g_if_ne S (tgt := 203) dX6_reweigh_185 (by decide) (fun c_185 => ?_) (fun c_185 => ?_)
                        · exact absurd c_185 (by decide)
                        · refine g_aload_n S dX6_reweigh_188 rfl ?_
                          refine m_getf S hK 6 (by decide) (S.2.2.2.2 _ (List.mem_of_getElem? (i := 9) rfl)) rfl dX6_reweigh_189 ?_
                          refine g_iload S dX6_reweigh_192 rfl ?_
                          refine g_dup2_11 S dX6_reweigh_194 rfl rfl ?_
                          refine m_iald S hK (by decide) hwho dX6_reweigh_195 ?_
                          refine g_iload S dX6_reweigh_196 rfl ?_
                          refine g_isub S dX6_reweigh_198 ?_
                          refine m_iast S hK (by decide) hwho dX6_reweigh_199 ?_
                          refine g_goto S (tgt := 381) dX6_reweigh_200 (by decide) ?_
                          refine g_iload S dX6_reweigh_381 rfl ?_
                          exact g_iret S hlk hr (fun H h => (by simp (config := { decide := true }) only [gRet, mReweigh, c_24, c_29, c_74, c_96, ecl, if_true, if_false, reduceIte, Bool.false_eq_true, not_true_eq_false, not_false_eq_true, true_and, and_true, Bool.and_self, Bool.and_true, Bool.true_and, Bool.and_false, Bool.false_and, decide_true, decide_false]; first | exact ⟨rfl, h⟩ | exact h)) (Nat.le_refl _) (Nat.le_refl _) dX6_reweigh_383
                      · exact absurd c_151 (by decide)
                  · exact absurd (c_131.symm.trans c_29) (by decide)
                · exact absurd (c_122.symm.trans c_24) (by decide)
              · exact absurd c_101 (by decide)
        · refine g_iconst S (v := 1) dX6_reweigh_77 (by decide) ?_
          refine g_goto S (tgt := 82) dX6_reweigh_78 (by decide) ?_
          refine g_istore S dX6_reweigh_82 (by decide) rfl ?_
          refine g_iload_n S dX6_reweigh_84 rfl ?_
          refine g_ifb_eq S (tgt := 117) dX6_reweigh_85 (by decide) (fun c_85 => ?_) (fun c_85 => ?_)
          · exact absurd (c_85.symm.trans c_24) (by decide)
          · refine g_iload S dX6_reweigh_88 rfl ?_
            refine g_aload_n S dX6_reweigh_90 rfl ?_
            refine m_getf S hK 16 (by decide) (S.2.2.2.2 _ (List.mem_of_getElem? (i := 6) rfl)) rfl dX6_reweigh_91 ?_
            refine g_iload_n S dX6_reweigh_94 rfl ?_
            refine m_iald S hK (by decide) (rin c_24 hn.2.1) dX6_reweigh_95 ?_
            refine g_icmp_le S (tgt := 113) dX6_reweigh_96 (by decide) (fun c_96 => ?_) (fun c_96 => ?_)
            · refine g_iconst S (v := 1) dX6_reweigh_113 (by decide) ?_
              refine g_goto S (tgt := 118) dX6_reweigh_114 (by decide) ?_
              refine g_istore S dX6_reweigh_118 (by decide) rfl ?_
              refine g_aload_n S dX6_reweigh_120 rfl ?_
              refine g_iload_n S dX6_reweigh_121 rfl ?_
              refine g_ifb_ne S (tgt := 129) dX6_reweigh_122 (by decide) (fun c_122 => ?_) (fun c_122 => ?_)
              · refine g_iload S dX6_reweigh_129 rfl ?_
                refine g_ifb_ne S (tgt := 138) dX6_reweigh_131 (by decide) (fun c_131 => ?_) (fun c_131 => ?_)
                · refine g_iload S dX6_reweigh_138 rfl ?_
                  refine g_if_eq S (tgt := 147) dX6_reweigh_140 (by decide) (fun c_140 => ?_) (fun c_140 => ?_)
                  · exact absurd c_140 (by decide)
                  · refine g_iconst S (v := 0) dX6_reweigh_143 (by decide) ?_
                    refine g_goto S (tgt := 148) dX6_reweigh_144 (by decide) ?_
                    refine g_cVr S (c_goesWell l D ty A mo ad _ _) (cwV 1 S.2.2.2.2 gX6_reweigh_X6_goesWell rfl rfl rfl (by decide +kernel) ⟨Nat.le_of_ble_eq_true rfl, Nat.le_of_ble_eq_true rfl⟩) hK hE (fun H h => h) (m_recv hK) rfl (Nat.le_of_ble_eq_true rfl) dX6_reweigh_148 ⟨Nat.le_of_ble_eq_true rfl, Nat.le_of_ble_eq_true rfl⟩ ?_
                    refine g_if_ne S (tgt := 156) dX6_reweigh_151 (by decide) (fun c_151 => ?_) (fun c_151 => ?_)
                    · refine g_iload S dX6_reweigh_156 rfl ?_
                      refine g_aload_n S dX6_reweigh_158 rfl ?_
                      refine m_getf S hK 16 (by decide) (S.2.2.2.2 _ (List.mem_of_getElem? (i := 6) rfl)) rfl dX6_reweigh_159 ?_
                      refine g_iload_n S dX6_reweigh_162 rfl ?_
                      refine m_iald S hK (by decide) (rin c_24 hn.2.1) dX6_reweigh_163 ?_
                      refine g_isub S dX6_reweigh_164 ?_
                      refine g_istore S dX6_reweigh_165 (by decide) rfl ?_
                      refine g_aload_n S dX6_reweigh_167 rfl ?_
                      refine m_getf S hK 16 (by decide) (S.2.2.2.2 _ (List.mem_of_getElem? (i := 6) rfl)) rfl dX6_reweigh_168 ?_
                      refine g_iload_n S dX6_reweigh_171 rfl ?_
                      refine g_iload S dX6_reweigh_172 rfl ?_
                      refine m_iast S hK (by decide) (rin c_24 hn.2.1) dX6_reweigh_174 ?_
                      refine g_aload_n S dX6_reweigh_175 rfl ?_
                      refine m_getf S hK 14 (by decide) (S.2.2.2.2 _ (List.mem_of_getElem? (i := 8) rfl)) rfl dX6_reweigh_176 ?_
                      refine g_iload_n S dX6_reweigh_179 rfl ?_
                      refine m_iald S hK (by decide) (rin c_24 hn.2.1) dX6_reweigh_180 ?_
                      refine g_istore S dX6_reweigh_181 (by decide) rfl ?_
                      refine g_iload S dX6_reweigh_183 rfl ?_
                      refine g_if_ne S (tgt := 203) dX6_reweigh_185 (by decide) (fun c_185 => ?_) (fun c_185 => ?_)
                      · refine g_iload S dX6_reweigh_203 rfl ?_
                        refine g_if_le S (tgt := 244) dX6_reweigh_205 (by decide) (fun c_205 => ?_) (fun c_205 => ?_)
                        · refine g_iload S dX6_reweigh_244 rfl ?_
                          refine g_ineg S dX6_reweigh_246 ?_
                          refine g_istore S dX6_reweigh_247 (by decide) rfl ?_
                          refine g_aload_n S dX6_reweigh_249 rfl ?_
                          refine m_getf S hK 20 (by decide) (S.2.2.2.2 _ (List.mem_of_getElem? (i := 7) rfl)) rfl dX6_reweigh_250 ?_
                          refine g_istore S dX6_reweigh_253 (by decide) rfl ?_
                          refine g_iconst S (v := 0) dX6_reweigh_255 (by decide) ?_
                          refine g_istore S dX6_reweigh_256 (by decide) rfl ?_
                          exact L1 nr 0 _ _ (Nat.zero_add _) hwb rfl (by simp (config := { decide := true }) only [gRet, mReweigh, c_24, c_29, c_74, c_96, c_205, ecl, if_true, if_false, reduceIte, Bool.false_eq_true, not_true_eq_false, not_false_eq_true, true_and, and_true, Bool.and_self, Bool.and_true, Bool.true_and, Bool.and_false, Bool.false_and, decide_true, decide_false]) (rin c_24 hn.2.1)
                        · exact absurd (hsub c_24 c_29 c_96) c_205
                      · exact absurd c_185 (by decide)
                    · exact absurd c_151 (by decide)
                · exact absurd (c_131.symm.trans c_29) (by decide)
              · exact absurd (c_122.symm.trans c_24) (by decide)
            · refine g_iload S dX6_reweigh_99 rfl ?_
              refine g_if_eq S (tgt := 113) dX6_reweigh_101 (by decide) (fun c_101 => ?_) (fun c_101 => ?_)
              · exact absurd c_101 (by decide)
              · refine g_aload_n S dX6_reweigh_104 rfl ?_
                refine m_getf S hK 20 (by decide) (S.2.2.2.2 _ (List.mem_of_getElem? (i := 7) rfl)) rfl dX6_reweigh_105 ?_
                refine g_bipush S (v := 80) dX6_reweigh_108 (by decide) ?_
                refine g_icmp_ge S (tgt := 117) dX6_reweigh_110 (by decide) (fun c_110 => ?_) (fun c_110 => ?_)
                · refine g_iconst S (v := 0) dX6_reweigh_117 (by decide) ?_
                  refine g_istore S dX6_reweigh_118 (by decide) rfl ?_
                  refine g_aload_n S dX6_reweigh_120 rfl ?_
                  refine g_iload_n S dX6_reweigh_121 rfl ?_
                  refine g_ifb_ne S (tgt := 129) dX6_reweigh_122 (by decide) (fun c_122 => ?_) (fun c_122 => ?_)
                  · refine g_iload S dX6_reweigh_129 rfl ?_
                    refine g_ifb_ne S (tgt := 138) dX6_reweigh_131 (by decide) (fun c_131 => ?_) (fun c_131 => ?_)
                    · refine g_iload S dX6_reweigh_138 rfl ?_
                      refine g_if_eq S (tgt := 147) dX6_reweigh_140 (by decide) (fun c_140 => ?_) (fun c_140 => ?_)
                      · refine g_iconst S (v := 3) dX6_reweigh_147 (by decide) ?_
                        refine g_cVr S (c_goesWell l D ty A mo ad _ _) (cwV 1 S.2.2.2.2 gX6_reweigh_X6_goesWell rfl rfl rfl (by decide +kernel) ⟨Nat.le_of_ble_eq_true rfl, Nat.le_of_ble_eq_true rfl⟩) hK hE (fun H h => h) (m_recv hK) rfl (Nat.le_of_ble_eq_true rfl) dX6_reweigh_148 ⟨Nat.le_of_ble_eq_true rfl, Nat.le_of_ble_eq_true rfl⟩ ?_
                        refine g_if_ne S (tgt := 156) dX6_reweigh_151 (by decide) (fun c_151 => ?_) (fun c_151 => ?_)
                        · exact absurd c_151 (by decide)
                        · refine g_iconst S (v := 0) dX6_reweigh_154 (by decide) ?_
                          exact g_iret S hlk hr (fun H h => (by simp (config := { decide := true }) only [gRet, mReweigh, c_24, c_29, c_74, c_96, c_110, ecl, if_true, if_false, reduceIte, Bool.false_eq_true, not_true_eq_false, not_false_eq_true, true_and, and_true, Bool.and_self, Bool.and_true, Bool.true_and, Bool.and_false, Bool.false_and, decide_true, decide_false]; first | exact ⟨rfl, h⟩ | exact h)) (Nat.le_refl _) (Nat.le_refl _) dX6_reweigh_155
                      · exact absurd c_140 (by decide)
                    · exact absurd (c_131.symm.trans c_29) (by decide)
                  · exact absurd (c_122.symm.trans c_24) (by decide)
                · refine g_iconst S (v := 1) dX6_reweigh_113 (by decide) ?_
                  refine g_goto S (tgt := 118) dX6_reweigh_114 (by decide) ?_
                  refine g_istore S dX6_reweigh_118 (by decide) rfl ?_
                  refine g_aload_n S dX6_reweigh_120 rfl ?_
                  refine g_iload_n S dX6_reweigh_121 rfl ?_
                  refine g_ifb_ne S (tgt := 129) dX6_reweigh_122 (by decide) (fun c_122 => ?_) (fun c_122 => ?_)
                  · refine g_iload S dX6_reweigh_129 rfl ?_
                    refine g_ifb_ne S (tgt := 138) dX6_reweigh_131 (by decide) (fun c_131 => ?_) (fun c_131 => ?_)
                    · refine g_iload S dX6_reweigh_138 rfl ?_
                      refine g_if_eq S (tgt := 147) dX6_reweigh_140 (by decide) (fun c_140 => ?_) (fun c_140 => ?_)
                      · exact absurd c_140 (by decide)
                      · refine g_iconst S (v := 0) dX6_reweigh_143 (by decide) ?_
                        refine g_goto S (tgt := 148) dX6_reweigh_144 (by decide) ?_
                        refine g_cVr S (c_goesWell l D ty A mo ad _ _) (cwV 1 S.2.2.2.2 gX6_reweigh_X6_goesWell rfl rfl rfl (by decide +kernel) ⟨Nat.le_of_ble_eq_true rfl, Nat.le_of_ble_eq_true rfl⟩) hK hE (fun H h => h) (m_recv hK) rfl (Nat.le_of_ble_eq_true rfl) dX6_reweigh_148 ⟨Nat.le_of_ble_eq_true rfl, Nat.le_of_ble_eq_true rfl⟩ ?_
                        refine g_if_ne S (tgt := 156) dX6_reweigh_151 (by decide) (fun c_151 => ?_) (fun c_151 => ?_)
                        · refine g_iload S dX6_reweigh_156 rfl ?_
                          refine g_aload_n S dX6_reweigh_158 rfl ?_
                          refine m_getf S hK 16 (by decide) (S.2.2.2.2 _ (List.mem_of_getElem? (i := 6) rfl)) rfl dX6_reweigh_159 ?_
                          refine g_iload_n S dX6_reweigh_162 rfl ?_
                          refine m_iald S hK (by decide) (rin c_24 hn.2.1) dX6_reweigh_163 ?_
                          refine g_isub S dX6_reweigh_164 ?_
                          refine g_istore S dX6_reweigh_165 (by decide) rfl ?_
                          refine g_aload_n S dX6_reweigh_167 rfl ?_
                          refine m_getf S hK 16 (by decide) (S.2.2.2.2 _ (List.mem_of_getElem? (i := 6) rfl)) rfl dX6_reweigh_168 ?_
                          refine g_iload_n S dX6_reweigh_171 rfl ?_
                          refine g_iload S dX6_reweigh_172 rfl ?_
                          refine m_iast S hK (by decide) (rin c_24 hn.2.1) dX6_reweigh_174 ?_
                          refine g_aload_n S dX6_reweigh_175 rfl ?_
                          refine m_getf S hK 14 (by decide) (S.2.2.2.2 _ (List.mem_of_getElem? (i := 8) rfl)) rfl dX6_reweigh_176 ?_
                          refine g_iload_n S dX6_reweigh_179 rfl ?_
                          refine m_iald S hK (by decide) (rin c_24 hn.2.1) dX6_reweigh_180 ?_
                          refine g_istore S dX6_reweigh_181 (by decide) rfl ?_
                          refine g_iload S dX6_reweigh_183 rfl ?_
                          refine g_if_ne S (tgt := 203) dX6_reweigh_185 (by decide) (fun c_185 => ?_) (fun c_185 => ?_)
                          · refine g_iload S dX6_reweigh_203 rfl ?_
                            refine g_if_le S (tgt := 244) dX6_reweigh_205 (by decide) (fun c_205 => ?_) (fun c_205 => ?_)
                            · refine g_iload S dX6_reweigh_244 rfl ?_
                              refine g_ineg S dX6_reweigh_246 ?_
                              refine g_istore S dX6_reweigh_247 (by decide) rfl ?_
                              refine g_aload_n S dX6_reweigh_249 rfl ?_
                              refine m_getf S hK 20 (by decide) (S.2.2.2.2 _ (List.mem_of_getElem? (i := 7) rfl)) rfl dX6_reweigh_250 ?_
                              refine g_istore S dX6_reweigh_253 (by decide) rfl ?_
                              refine g_iconst S (v := 0) dX6_reweigh_255 (by decide) ?_
                              refine g_istore S dX6_reweigh_256 (by decide) rfl ?_
                              exact L1 nr 0 _ _ (Nat.zero_add _) hwb rfl (by simp (config := { decide := true }) only [gRet, mReweigh, c_24, c_29, c_74, c_96, c_110, c_205, ecl, if_true, if_false, reduceIte, Bool.false_eq_true, not_true_eq_false, not_false_eq_true, true_and, and_true, Bool.and_self, Bool.and_true, Bool.true_and, Bool.and_false, Bool.false_and, decide_true, decide_false]) (rin c_24 hn.2.1)
                            · refine g_aload_n S dX6_reweigh_208 rfl ?_
                              refine m_getf S hK 9 (by decide) (S.2.2.2.2 _ (List.mem_of_getElem? (i := 10) rfl)) rfl dX6_reweigh_209 ?_
                              refine g_aload_n S dX6_reweigh_212 rfl ?_
                              refine m_getf S hK 19 (by decide) (S.2.2.2.2 _ (List.mem_of_getElem? (i := 3) rfl)) rfl dX6_reweigh_213 ?_
                              refine g_iload_n S dX6_reweigh_216 rfl ?_
                              refine m_iald S hK (by decide) (rin c_24 hn.2.1) dX6_reweigh_217 ?_
                              refine g_dup2_11 S dX6_reweigh_218 rfl rfl ?_
                              refine m_iald S hK (by decide) (hwb 19 _) dX6_reweigh_219 ?_
                              refine g_iload S dX6_reweigh_220 rfl ?_
                              refine g_iadd S dX6_reweigh_222 ?_
                              refine m_iast S hK (by decide) (hwb 19 _) dX6_reweigh_223 ?_
                              refine g_aload_n S dX6_reweigh_224 rfl ?_
                              refine g_iload S dX6_reweigh_225 rfl ?_
                              refine g_iload S dX6_reweigh_227 rfl ?_
                              refine g_aload_n S dX6_reweigh_229 rfl ?_
                              refine m_getf S hK 19 (by decide) (S.2.2.2.2 _ (List.mem_of_getElem? (i := 3) rfl)) rfl dX6_reweigh_230 ?_
                              refine g_iload_n S dX6_reweigh_233 rfl ?_
                              refine m_iald S hK (by decide) (rin c_24 hn.2.1) dX6_reweigh_234 ?_
                              refine g_iload_n S dX6_reweigh_235 rfl ?_
                              refine g_cVr S (c_make l D ty A mo ad _ _ _ _ _ (by exact vin_lt hn.2.2.1 (by decide) c_110) (by exact (vin_mono hc (by decide)))) (cwV 4 S.2.2.2.2 gX6_reweigh_X6_make rfl rfl rfl (by decide +kernel) ⟨Nat.le_of_ble_eq_true rfl, Nat.le_of_ble_eq_true rfl⟩) hK hE (fun H h => h) (m_recv hK) rfl (Nat.le_of_ble_eq_true rfl) dX6_reweigh_236 ⟨Nat.le_of_ble_eq_true rfl, Nat.le_of_ble_eq_true rfl⟩ ?_
                              refine g_istore S dX6_reweigh_239 (by decide) rfl ?_
                              refine g_goto S (tgt := 381) dX6_reweigh_241 (by decide) ?_
                              refine g_iload S dX6_reweigh_381 rfl ?_
                              exact g_iret S hlk hr (fun H h => (by simp (config := { decide := true }) only [gRet, mReweigh, c_24, c_29, c_74, c_96, c_110, c_205, ecl, if_true, if_false, reduceIte, Bool.false_eq_true, not_true_eq_false, not_false_eq_true, true_and, and_true, Bool.and_self, Bool.and_true, Bool.true_and, Bool.and_false, Bool.false_and, decide_true, decide_false]; first | exact ⟨rfl, h⟩ | exact h)) (Nat.le_refl _) (Nat.le_refl _) dX6_reweigh_383
                          · exact absurd c_185 (by decide)
                        · exact absurd c_151 (by decide)
                    · exact absurd (c_131.symm.trans c_29) (by decide)
                  · exact absurd (c_122.symm.trans c_24) (by decide)

