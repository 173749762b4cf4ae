/-! a weight told anew, on both sides -/
theorem mIn_ix {v : Int32} {n : Nat} (hn : n < 2 ^ 31) : mIn v 0 (nI n - 1) = true ↔ vp_in v n := by
  rw [mIn_int, i_sub1 (by rw [nI_toInt hn]; omega), nI_toInt hn, i32_0, vp_in_iff]
  omega
theorem mIn_ixn {n d : Nat} (hn : n < 2 ^ 31) (hd : d < n) : mIn (nI d) 0 (nI n - 1) = true := (mIn_ix hn).mpr (vin_nI hd hn)
theorem i32_neg (x : Int32) : -x = 0 - x := by rw [Int32.sub_eq_add_neg, Int32.zero_add]
theorem i32_negi {x : Int32} (h : -2147483648 < x.toInt) : (-x).toInt = -x.toInt := by
  have hb := i32_bd x
  rw [i32_neg, i32_sub (by rw [i32_0]; omega) (by rw [i32_0]; omega), i32_0]
  omega
theorem i32_back (x y : Int32) : y + (x - y) = x := by rw [Int32.add_comm, Int32.sub_add_cancel]
theorem SC.set16 {L : List (Nat × Nat × Nat)} (hL : sLok L) {B : Nat} {a : CS} {b : MS} (h : SC L B a b) {d : Nat} (hd9 : d < cL a 1) {v : Int32} (h0 : 0 ≤ v.toInt) (h4 : v.toInt ≤ 40000) : SC L B (cSI a 2 6 d v) (mX b 16 (nI d) v) := by
  obtain ⟨ci, e, sc, ct, ac, ow, gr, no, dl, ds, hd, pl, co, tw, wf, hs, sm, pe, de, ze, cn, rm, bt⟩ := h
  have h40 := ci.2.2.2.1.2
  refine ⟨ci.of rfl rfl rfl, e.set hL (p := (16, 2, 6)) (by decide) (by omega) v, sc, ct, ac, ow, gr, no, dl, ds, hd, pl, co, tw.to rfl rfl rfl, mWf_X (k := 16) wf _ trivial, hs, sm, pe, ?_, ze, cn, rm, bt⟩
  show sDe (cL a 1) ((mX b 16 (nI d) v).2.1 15) ((mX b 16 (nI d) v).2.1 16)
  rw [mX_at b 16 (by omega), mX_ne _ (by decide)]
  intro q hq
  obtain ⟨d1, d2⟩ := de q hq
  refine ⟨d1, ?_⟩
  by_cases hqd : q = d
  · rw [show upd (b.2.1 16) d v q = v from if_pos hqd]; exact ⟨h0, h4⟩
  · rw [show upd (b.2.1 16) d v q = b.2.1 16 q from if_neg hqd]; exact d2
theorem mMake_f0 {b : MS} {much w s d : Int32} : (mMake b much w s d).1 0 = b.1 0 := rfl
theorem reweigh_sim {B : Nat} {a : CS} {b : MS} (h : SC sL B a b) (hB : B ≤ 4000) {d : Nat} (hd9 : d < cL a 1) {mo9 : Int32} (hmo : mIn mo9 50 300 = true) :
    (kDiff a d mo9 = mDry (b.2.1 15 d) mo9 - b.2.1 16 d ∧ (kDiff a d mo9).toInt = (mDry (b.2.1 15 d) mo9).toInt - (b.2.1 16 d).toInt) ∧
    (¬ (0 < kDiff a d mo9 ∧ kLike a d = true ∧ 80 ≤ cL a 2) → (mReweigh b (nI d) mo9).1 = kDiff a d mo9 ∧ SC sL B (kReweigh a d mo9) (mReweigh b (nI d) mo9).2 ∧ (mReweigh b (nI d) mo9).2.1 0 = 0) ∧
    ((0 < kDiff a d mo9 ∧ kLike a d = true ∧ 80 ≤ cL a 2) → mReweigh b (nI d) mo9 = (0, mS b 0 3)) := by
  have h0 : SC sL B a (mS b 0 0) := h.thr 0
  obtain ⟨ci, e, sc, ct, ac, ow, gr, no, dl, ds, hd, pl, co, tw, wf, hs, sm, pe, de, ze, cn, rm, bt⟩ := id h
  have h80 := ci.2.1.2
  have h40 := ci.2.2.2.1
  have h06 := ci.2.2.1
  have hdN : d < cN a 2 := by omega
  have hsN : kS a d < cL a 0 := by rw [h06.1]; exact (ci.1.1.2.1 d hdN).2
  obtain ⟨⟨d1, d2⟩, d3, d4⟩ := de d hd9
  obtain ⟨m1, m2⟩ := mIn_int.mp hmo
  rw [show (50 : Int32).toInt = 50 by decide] at m1
  rw [show (300 : Int32).toInt = 300 by decide] at m2
  obtain ⟨q1, q2, q3⟩ := dry_eq d1 d2 m1 m2
  have e15 : b.2.1 15 = a.2.1 2 5 := e (15, 2, 5) (by decide)
  have e16 : b.2.1 16 = a.2.1 2 6 := e (16, 2, 6) (by decide)
  have e14 : b.2.1 14 = a.2.1 2 1 := e (14, 2, 1) (by decide)
  have e17 : b.2.1 17 = a.2.1 2 2 := e (17, 2, 2) (by decide)
  have e18 : b.2.1 18 = a.2.1 2 3 := e (18, 2, 3) (by decide)
  have ek : kDiff a d mo9 = mDry (b.2.1 15 d) mo9 - b.2.1 16 d := by
    unfold kDiff
    rw [← q1, e15, e16]
  have ei : (kDiff a d mo9).toInt = (mDry (b.2.1 15 d) mo9).toInt - (b.2.1 16 d).toInt := by
    rw [ek]
    exact i32_sub (by omega) (by omega)
  have hlk : mIsOf b (gA b 19 (nI d)) (gA b 17 (nI d)) (gA b 18 (nI d)) = kLike a d := by
    rw [gA_nI _ _ (by omega), gA_nI _ _ (by omega), gA_nI _ _ (by omega), ds d hd9, h.isOf (by decide) hsN, e17, e18]
    rfl
  have g15 : gA b 15 (nI d) = b.2.1 15 d := gA_nI _ _ (by omega)
  have g16 : gA b 16 (nI d) = b.2.1 16 d := gA_nI _ _ (by omega)
  have g14 : gA b 14 (nI d) = cI a 2 1 d := by rw [gA_nI _ _ (by omega), e14]
  have hix : mIn (nI d) 0 (gS b 13 - 1) = true := by
    rw [show gS b 13 = nI (cL a 1) from ct.2.1]
    exact mIn_ixn (by omega) hd9
  have i80 : (80 : Int32) ≤ gS b 20 ↔ 80 ≤ cL a 2 := by
    rw [show gS b 20 = nI (cL a 2) from ct.2.2.1, i32_le, nI_toInt (by omega), show (80 : Int32).toInt = 80 by decide]
    omega
  have hpos : ¬ mDry (gA b 15 (nI d)) mo9 ≤ gA b 16 (nI d) ↔ 0 < kDiff a d mo9 := by
    rw [g15, g16, i32_le, i32_lt, i32_0, ei]
    omega
  have hcond : (decide (¬ mDry (gA b 15 (nI d)) mo9 ≤ gA b 16 (nI d)) && (mIsOf b (gA b 19 (nI d)) (gA b 17 (nI d)) (gA b 18 (nI d)) && decide (80 ≤ gS b 20))) = true ↔ (0 < kDiff a d mo9 ∧ kLike a d = true ∧ 80 ≤ cL a 2) := by
    rw [Bool.and_eq_true, Bool.and_eq_true, decide_eq_true_eq, decide_eq_true_eq, hpos, hlk, i80]
  refine ⟨⟨ek, ei⟩, fun hv => ?_, fun hv => by unfold mReweigh; rw [if_pos hix, if_pos hmo, if_pos (hcond.mpr hv)]⟩
  have s1 := h0.set16 sL_ok hd9 (v := mDry (b.2.1 15 d) mo9) (by omega) q3
  have eA : cSI a 2 6 d (cI a 2 6 d + kDiff a d mo9) = cSI a 2 6 d (mDry (b.2.1 15 d) mo9) := by
    rw [ek, ← show b.2.1 16 d = cI a 2 6 d by rw [e16], i32_back]
  have hwho : vp_in (cI a 2 1 d) 6 := by rw [← g14]; exact wf 14 _
  have w1 : cI (cSI a 2 6 d (mDry (b.2.1 15 d) mo9)) 2 1 d = cI a 2 1 d := by
    show (cSI a 2 6 d (mDry (b.2.1 15 d) mo9)).2.1 2 1 d = _
    rw [cSI_row, if_neg (by decide)]
  have eM : mReweigh b (nI d) mo9 = (if ¬ kLike a d = true then (kDiff a d mo9, mX (mX (mS b 0 0) 16 (nI d) (mDry (b.2.1 15 d) mo9)) 6 (cI a 2 1 d) (gA (mX (mS b 0 0) 16 (nI d) (mDry (b.2.1 15 d) mo9)) 6 (cI a 2 1 d) - kDiff a d mo9))
      else if kDiff a d mo9 ≤ 0 then (kDiff a d mo9, mX (mTake2 (nI d) (cI a 2 1 d) 0 (cL a 2) (mTake1 (nI d) 0 (cL a 2) (mX (mS b 0 0) 16 (nI d) (mDry (b.2.1 15 d) mo9)) (-kDiff a d mo9)).1 (mTake1 (nI d) 0 (cL a 2) (mX (mS b 0 0) 16 (nI d) (mDry (b.2.1 15 d) mo9)) (-kDiff a d mo9)).2).1 6 (cI a 2 1 d) (gA (mTake2 (nI d) (cI a 2 1 d) 0 (cL a 2) (mTake1 (nI d) 0 (cL a 2) (mX (mS b 0 0) 16 (nI d) (mDry (b.2.1 15 d) mo9)) (-kDiff a d mo9)).1 (mTake1 (nI d) 0 (cL a 2) (mX (mS b 0 0) 16 (nI d) (mDry (b.2.1 15 d) mo9)) (-kDiff a d mo9)).2).1 6 (cI a 2 1 d) + (mTake2 (nI d) (cI a 2 1 d) 0 (cL a 2) (mTake1 (nI d) 0 (cL a 2) (mX (mS b 0 0) 16 (nI d) (mDry (b.2.1 15 d) mo9)) (-kDiff a d mo9)).1 (mTake1 (nI d) 0 (cL a 2) (mX (mS b 0 0) 16 (nI d) (mDry (b.2.1 15 d) mo9)) (-kDiff a d mo9)).2).2))
      else (kDiff a d mo9, mMake (mX (mX (mS b 0 0) 16 (nI d) (mDry (b.2.1 15 d) mo9)) 9 (nI (kS a d)) ((mX (mS b 0 0) 16 (nI d) (mDry (b.2.1 15 d) mo9)).2.1 9 (kS a d) + kDiff a d mo9)) (kDiff a d mo9) (cI a 2 1 d) (nI (kS a d)) (nI d))) := by
    have ew : gA (mX (mS b 0 0) 16 (nI d) (mDry (b.2.1 15 d) mo9)) 14 (nI d) = cI a 2 1 d := by
      show (mX (mS b 0 0) 16 (nI d) (mDry (b.2.1 15 d) mo9)).2.1 14 (nI d).toNatClampNeg = _
      rw [mX_ne _ (by decide)]
      exact g14
    have es : gA (mX (mS b 0 0) 16 (nI d) (mDry (b.2.1 15 d) mo9)) 19 (nI d) = nI (kS a d) := by
      show (mX (mS b 0 0) 16 (nI d) (mDry (b.2.1 15 d) mo9)).2.1 19 (nI d).toNatClampNeg = _
      rw [mX_ne _ (by decide), nI_clamp (by omega)]
      exact ds d hd9
    have e9 : gA (mX (mS b 0 0) 16 (nI d) (mDry (b.2.1 15 d) mo9)) 9 (nI (kS a d)) = (mX (mS b 0 0) 16 (nI d) (mDry (b.2.1 15 d) mo9)).2.1 9 (kS a d) := gA_nI _ _ (by omega)
    have es2 : ∀ x : Int32, gA (mX (mX (mS b 0 0) 16 (nI d) (mDry (b.2.1 15 d) mo9)) 9 (nI (kS a d)) x) 19 (nI d) = nI (kS a d) := fun x => by
      show (mX (mX (mS b 0 0) 16 (nI d) (mDry (b.2.1 15 d) mo9)) 9 (nI (kS a d)) x).2.1 19 (nI d).toNatClampNeg = _
      rw [mX_ne _ (by decide)]
      exact es
    have e20 : (gS b 20).toNatClampNeg = cL a 2 := by
      rw [show gS b 20 = nI (cL a 2) from ct.2.2.1]
      exact nI_clamp (by omega)
    have em : mDry (gA b 15 (nI d)) mo9 - gA (mS b 0 0) 16 (nI d) = kDiff a d mo9 := by
      rw [ek, g15, show gA (mS b 0 0) 16 (nI d) = b.2.1 16 d from g16]
    unfold mReweigh
    rw [if_pos hix, if_pos hmo, if_neg (fun z => hv (hcond.mp z))]
    simp only
    rw [em, g15, ew, hlk, es, e9, es2, e20]
  rw [eM]
  unfold kReweigh
  simp only
  rw [eA]
  by_cases hlike : kLike a d = true
  · rw [if_pos hlike, if_neg (fun z => z hlike)]
    by_cases hle : kDiff a d mo9 ≤ 0
    · rw [if_pos hle, if_pos hle]
      by_cases hge : 0 ≤ kDiff a d mo9
      · rw [if_pos hge]
        have z0 : kDiff a d mo9 = 0 := Int32.le_antisymm hle hge
        have en : -kDiff a d mo9 = 0 := by rw [z0]; decide
        rw [en]
        have t1 := mTake1_0 s1 (nI d) (cL a 2) 0 (by show 0 + cL a 2 ≤ cL a 2; omega)
        have t2 := mTake2_0 s1 (nI d) (cI a 2 1 d) (cL a 2) 0 (by show 0 + cL a 2 ≤ cL a 2; omega)
        rw [t1]
        simp only
        rw [t2]
        simp only
        rw [Int32.add_zero, mX_id]
        exact ⟨trivial, s1, rfl⟩
      · rw [if_neg hge]
        have hx : 0 ≤ (-kDiff a d mo9).toInt := by
          rw [i32_negi (by omega)]
          rw [i32_le, i32_0] at hle
          omega
        obtain ⟨t1, t2, t3⟩ := takeBack_sim (d := d) s1 hd9 hx
        rw [w1] at t1 t3
        exact ⟨rfl, t1, (congrFun t3 0).trans rfl⟩
    · rw [if_neg hle, if_neg hle]
      have hlt : 0 < (kDiff a d mo9).toInt := by rw [i32_le, i32_0] at hle; omega
      have hc4 : 0 < cI a 4 4 (kS a d) := by
        have z := hlike
        unfold kLike kIsOf at z
        rw [Bool.and_eq_true, decide_eq_true_eq] at z
        exact z.1
      have p1 := s1.putIn sL_ok (by decide) hB (d := d) hd9 (kg := kDiff a d mo9) (by
        show cL a 2 < 80
        have hz : ¬ 80 ≤ cL a 2 := fun z => hv ⟨by rw [i32_lt, i32_0]; exact hlt, hlike, z⟩
        omega) ⟨hlt, by omega⟩ (by rw [w1]; exact hwho) (by
        have gg := gr (kS a d) hc4
        show (mX (mS b 0 0) 16 (nI d) (mDry (b.2.1 15 d) mo9)).2.1 10 (kS a d) = (cSI a 2 6 d (mDry (b.2.1 15 d) mo9)).2.1 4 2 (kS a d) ∧ (mX (mS b 0 0) 16 (nI d) (mDry (b.2.1 15 d) mo9)).2.1 11 (kS a d) = (cSI a 2 6 d (mDry (b.2.1 15 d) mo9)).2.1 4 3 (kS a d)
        rw [mX_ne _ (by decide), mX_ne _ (by decide), cSI_row, if_neg (by decide), cSI_row, if_neg (by decide)]
        exact gg)
      rw [w1] at p1
      exact ⟨rfl, p1, rfl⟩
  · rw [if_neg hlike, if_pos hlike]
    have o1 := s1.owe sL_ok (i := cI a 2 1 d) hwho (-kDiff a d mo9)
    rw [w1, Int32.sub_eq_add_neg]
    exact ⟨rfl, o1, rfl⟩
