/-! what each call does, on both sides: without an effect, or with one -/
def oT (b : MS) (R : Int32 × MS) (k : Int32) : Prop := R = (0, mS b 0 k)
def oS (B : Nat) (a' : CS) (R : Int32 × MS) (v : Int32) : Prop := R.1 = v ∧ R.2.1 0 = 0 ∧ SC sL B a' R.2
theorem SC.ix {L : List (Nat × Nat × Nat)} {B : Nat} {a : CS} {b : MS} (h : SC L B a b) (v : Int32) : (mIn v 0 (gS b 7 - 1) = true ↔ vp_in v (cL a 0)) ∧ (mIn v 0 (gS b 13 - 1) = true ↔ vp_in v (cL a 1)) ∧ (mIn v 0 (gS b 20 - 1) = true ↔ vp_in v (cL a 2)) ∧ (mIn v 0 (gS b 33 - 1) = true ↔ vp_in v (cL a 3)) := by
  obtain ⟨ci, e, sc, ct, -⟩ := h
  obtain ⟨c1, c2, c3, c4⟩ := ct
  have h1 := ci.2.1.2
  have h2 := ci.2.2.1.2
  have h3 := ci.2.2.2.1.2
  have h4 := ci.2.2.2.2.2
  rw [show gS b 7 = nI (cL a 0) from c1, show gS b 13 = nI (cL a 1) from c2, show gS b 20 = nI (cL a 2) from c3, show gS b 33 = nI (cL a 3) from c4]
  exact ⟨mIn_ix (by omega), mIn_ix (by omega), mIn_ix (by omega), mIn_ix (by omega)⟩
theorem mIn_v6 {v : Int32} : mIn v 0 5 = true ↔ vp_in v 6 := by
  rw [mIn_int, vp_in_iff, i32_0, show (5 : Int32).toInt = 5 by decide]
  omega
theorem bne_true {b : Bool} (h : ¬ b = true) : b = false := by cases b <;> simp_all
/-- a receipt's numbers, on both sides -/
theorem SC.rcp {B : Nat} {a : CS} {b : MS} (h : SC sL B a b) {q : Nat} (hq : q < cL a 2) : gA b 21 (nI q) = cI a 3 3 q ∧ gA b 25 (nI q) = cI a 3 4 q ∧ gA b 22 (nI q) = cI a 5 2 (kT a q) ∧ gA b 23 (nI q) = nI (kS a (kD a q)) ∧ gA b 24 (nI q) = nI (kD a q) ∧ gA b 28 (nI q) = sOI (cR a 3 7 q) ∧ (0 ≤ (cI a 3 3 q).toInt ∧ (cI a 3 3 q).toInt ≤ 40000) := by
  obtain ⟨ci, e, sc, ct, ac, ow, gr, no, dl, ds, hd, pl, co, tw, wf, hs, -⟩ := h
  have h80 := ci.2.1.2
  have e21 : b.2.1 21 = a.2.1 3 3 := e (21, 3, 3) (by decide)
  have e25 : b.2.1 25 = a.2.1 3 4 := e (25, 3, 4) (by decide)
  have hq2 := hs q hq
  rw [gA_nI _ _ (by omega), gA_nI _ _ (by omega), gA_nI _ _ (by omega), gA_nI _ _ (by omega), gA_nI _ _ (by omega), gA_nI _ _ (by omega), e21, e25]
  rw [e21] at hq2
  exact ⟨rfl, rfl, hd q hq, (dl q hq).2, (dl q hq).1, co q hq, hq2⟩
theorem p_terms {B : Nat} {a : CS} {b : MS} (h : SC sL B a b) (r f q : Int32) :
    ((mIn r 0 5000 = false ∨ (mIn r 0 5000 = true ∧ mIn f 0 1000 = false) ∨ (mIn r 0 5000 = true ∧ mIn f 0 1000 = true ∧ mIn q 0 1000 = false)) ∧ mTerms b r f q = mS b 0 1) ∨
    ((mIn r 0 5000 = true ∧ mIn f 0 1000 = true ∧ mIn q 0 1000 = true) ∧ (mTerms b r f q).1 0 = 0 ∧ SC sL B (kTerms a r f q) (mTerms b r f q)) := by
  unfold mTerms
  by_cases h1 : mIn r 0 5000 = true
  · rw [if_pos h1]
    by_cases h2 : mIn f 0 1000 = true
    · rw [if_pos h2]
      by_cases h3 : mIn q 0 1000 = true
      · rw [if_pos h3]
        refine Or.inr ⟨⟨h1, h2, h3⟩, rfl, ?_⟩
        obtain ⟨ci, e, sc, ct, ac, ow, gr, no, dl, ds, hd, pl, co, tw, wf, hs, sm, pe, de, ze, cn, rm, bt⟩ := h
        have k0 : ∀ {j k : Nat}, j ≠ 6 → (kTerms a r f q).2.1 j k = a.2.1 j k := fun hj => by
          unfold kTerms
          rw [cSI_row, if_neg (fun z => hj z.1), cSI_row, if_neg (fun z => hj z.1), cSI_row, if_neg (fun z => hj z.1)]
        have k6 : ∀ {k : Nat}, k ≠ 6 → k ≠ 7 → k ≠ 8 → (kTerms a r f q).2.1 6 k = a.2.1 6 k := fun a1 a2 a3 => by
          unfold kTerms
          rw [cSI_row, if_neg (fun z => a3 z.2), cSI_row, if_neg (fun z => a2 z.2), cSI_row, if_neg (fun z => a1 z.2)]
        refine ⟨ci.of rfl rfl rfl, ?_, ?_, ct, ac, ow, ?_, ?_, dl, ds, ?_, ?_, co, tw.to rfl (funext fun k => k0 (by decide)) rfl, wf, hs, sm, pe, de, ze, ?_, rm, ?_⟩
        · intro p hp
          rw [k0 (sL_6 p hp).1]
          exact e p hp
        · refine ⟨?_, ?_, ?_, ?_⟩
          · show _ = (kTerms a r f q).2.1 6 9 0
            rw [k6 (by decide) (by decide) (by decide)]; exact sc.1
          · show r = (kTerms a r f q).2.1 6 6 0
            unfold kTerms
            rw [cSI_row, if_neg (by decide), cSI_row, if_neg (by decide), cSI_row, if_pos ⟨rfl, rfl⟩]; rfl
          · show f = (kTerms a r f q).2.1 6 7 0
            unfold kTerms
            rw [cSI_row, if_neg (by decide), cSI_row, if_pos ⟨rfl, rfl⟩]; rfl
          · show q = (kTerms a r f q).2.1 6 8 0
            unfold kTerms
            rw [cSI_row, if_pos ⟨rfl, rfl⟩]; rfl
        · rw [k0 (by decide), k0 (by decide), k0 (by decide)]; exact gr
        · rw [k0 (by decide), k0 (by decide), k0 (by decide), k0 (by decide)]; exact no
        · intro i hi
          show _ = (kTerms a r f q).2.1 5 2 _
          rw [k0 (by decide)]; exact hd i hi
        · rw [k0 (by decide), k0 (by decide), k0 (by decide)]; exact pl
        · show sCn B (cL a 2) (b.1 29) (b.2.1 25) (b.2.1 30) ((kTerms a r f q).2.1 6 10 0)
          rw [k6 (by decide) (by decide) (by decide)]; exact cn
        · obtain ⟨w1, w2⟩ := mIn_int.mp h1
          exact ⟨w1, w2⟩
      · rw [if_neg h3]; exact Or.inl ⟨Or.inr (Or.inr ⟨h1, h2, bne_true h3⟩), rfl⟩
    · rw [if_neg h2]; exact Or.inl ⟨Or.inr (Or.inl ⟨h1, bne_true h2⟩), rfl⟩
  · rw [if_neg h1]; exact Or.inl ⟨Or.inl (bne_true h1), rfl⟩
theorem p_split {B : Nat} {a : CS} {b : MS} (h : SC sL B a b) (hB : B ≤ 4000) (r kg : Int32) :
    (¬ vp_in r (cL a 2) ∧ oT b (mSplit b r kg) 1) ∨ ∃ q, q < cL a 2 ∧ r = nI q ∧ ((mIn kg 1 40000 = false ∧ oT b (mSplit b r kg) 2) ∨ (mIn kg 1 40000 = true ∧ ((¬ (¬ cI a 3 3 q ≤ kg ∧ cI a 3 4 q = -1 ∧ cL a 2 < 80) ∧ oT b (mSplit b r kg) 3) ∨
      ((¬ cI a 3 3 q ≤ kg ∧ cI a 3 4 q = -1 ∧ cL a 2 < 80) ∧ oS B (kSplitOff a q kg) (mSplit b r kg) (nI (cL a 2)))))) := by
  have hx := (h.ix r).2.2.1
  unfold mSplit
  by_cases h1 : vp_in r (cL a 2)
  · rw [if_pos (hx.mpr h1)]
    obtain ⟨ci, e, sc, ct, -⟩ := id h
    have h80 := ci.2.1.2
    obtain ⟨q, hq, rfl⟩ := vp_in_of h1 (by omega)
    refine Or.inr ⟨q, hq, rfl, ?_⟩
    obtain ⟨r1, r2, r3, r4, r5, r6, r7⟩ := h.rcp hq
    by_cases h2 : mIn kg 1 40000 = true
    · refine Or.inr ⟨h2, ?_⟩
      rw [if_pos h2, r1, r2]
      by_cases h3 : cI a 3 3 q ≤ kg
      · rw [if_pos h3]; exact Or.inl ⟨fun z => z.1 h3, rfl⟩
      · rw [if_neg h3]
        by_cases h4 : cI a 3 4 q = -1
        · rw [if_neg (fun z => z h4)]
          have i80 : (80 : Int32) ≤ gS b 20 ↔ 80 ≤ cL a 2 := by
            rw [show gS b 20 = nI (cL a 2) from ct.2.2.1, i32_le, nI_toInt (by omega), show (80 : Int32).toInt = 80 by decide]
            omega
          by_cases h5 : 80 ≤ cL a 2
          · rw [if_pos (i80.mpr h5)]; exact Or.inl ⟨fun z => by omega, rfl⟩
          · rw [if_neg (fun z => h5 (i80.mp z))]
            obtain ⟨k1, k2⟩ := mIn_int.mp h2
            rw [show (1 : Int32).toInt = 1 by decide] at k1
            rw [i32_le] at h3
            have e21 : b.2.1 21 = a.2.1 3 3 := e (21, 3, 3) (by decide)
            obtain ⟨s1, s2, s3, s4⟩ := (h.thr 0).splitOff sL_ok (by decide) hB hq (by omega) (kg := kg) (by omega) (by
              show kg.toInt < (b.2.1 21 q).toInt
              rw [e21]; exact Int.not_le.mp h3)
            exact Or.inr ⟨⟨by rw [i32_le]; exact h3, h4, by omega⟩, ct.2.2.1, s4 0 (by decide) (by decide), s1⟩
        · rw [if_pos h4]; exact Or.inl ⟨fun z => h4 z.2.1, rfl⟩
    · rw [if_neg h2]; exact Or.inl ⟨bne_true h2, rfl⟩
  · rw [if_neg (fun z => h1 (hx.mp z))]; exact Or.inl ⟨h1, rfl⟩
theorem p_sell {B : Nat} {a : CS} {b : MS} (h : SC sL B a b) (hB : B ≤ 4000) (r to cents : Int32) :
    (¬ vp_in r (cL a 2) ∧ oT b (mSell b r to cents) 1) ∨ ∃ q, q < cL a 2 ∧ r = nI q ∧ (((mIn to 0 5 = false ∨ (mIn to 0 5 = true ∧ mIn cents 0 10000000 = false)) ∧ oT b (mSell b r to cents) 2) ∨ ((mIn to 0 5 = true ∧ mIn cents 0 10000000 = true) ∧ ((¬ (0 < cI a 3 3 q ∧ cI a 3 4 q = -1 ∧ ¬ cI a 5 2 (kT a q) = to) ∧ oT b (mSell b r to cents) 3) ∨
      ((0 < cI a 3 3 q ∧ cI a 3 4 q = -1 ∧ ¬ cI a 5 2 (kT a q) = to) ∧ oS (B + 1) (kSell a q to cents) (mSell b r to cents) (cI a 5 2 (kT a q)))))) := by
  have hx := (h.ix r).2.2.1
  unfold mSell
  by_cases h1 : vp_in r (cL a 2)
  · rw [if_pos (hx.mpr h1)]
    obtain ⟨ci, e, sc, ct, -⟩ := id h
    have h80 := ci.2.1.2
    obtain ⟨q, hq, rfl⟩ := vp_in_of h1 (by omega)
    refine Or.inr ⟨q, hq, rfl, ?_⟩
    obtain ⟨r1, r2, r3, r4, r5, r6, r7⟩ := h.rcp hq
    by_cases h2 : mIn to 0 5 = true
    · by_cases h3 : mIn cents 0 10000000 = true
      · refine Or.inr ⟨⟨h2, h3⟩, ?_⟩
        rw [if_pos (by rw [h2, h3]; rfl), r1, r2, r3]
        by_cases h4 : cI a 3 3 q ≤ 0
        · rw [if_pos h4]; exact Or.inl ⟨fun z => Int32.not_lt.mpr h4 z.1, rfl⟩
        · rw [if_neg h4]
          by_cases h5 : cI a 3 4 q = -1
          · rw [if_neg (fun z => z h5)]
            by_cases h6 : cI a 5 2 (kT a q) = to
            · rw [if_pos h6]; exact Or.inl ⟨fun z => z.2.2 h6, rfl⟩
            · rw [if_neg h6]
              have s1 := (h.thr 0).pay (i := to) (j := cI a 5 2 (kT a q)) (mIn_v6.mp h2) (h.hd6 hq) cents.toInt64
              have ep := kPayT_same a to (cI a 5 2 (kT a q)) cents.toInt64
              have s2 := s1.become sL_ok hB (r := q) (by rw [show cL (kPayT a to (cI a 5 2 (kT a q)) cents.toInt64) 2 = cL a 2 from congrFun ep.2.2.1 2]; exact hq) (w := to) (mIn_v6.mp h2)
              exact Or.inr ⟨⟨Int32.not_le.mp h4, h5, h6⟩, rfl, rfl, s2⟩
          · rw [if_pos h5]; exact Or.inl ⟨fun z => h5 z.2.1, rfl⟩
      · rw [if_neg (fun z => h3 (by rw [Bool.and_eq_true] at z; exact z.2))]; exact Or.inl ⟨Or.inr ⟨h2, bne_true h3⟩, rfl⟩
    · rw [if_neg (fun z => h2 (by rw [Bool.and_eq_true] at z; exact z.1))]; exact Or.inl ⟨Or.inl (bne_true h2), rfl⟩
  · rw [if_neg (fun z => h1 (hx.mp z))]; exact Or.inl ⟨h1, rfl⟩
theorem p_redeem {B : Nat} {a : CS} {b : MS} (h : SC sL B a b) (r : Int32) :
    (¬ vp_in r (cL a 2) ∧ oT b (mRedeem b r) 1) ∨ ∃ q, q < cL a 2 ∧ r = nI q ∧ ((cI a 3 4 q = -1 ∧ oT b (mRedeem b r) 2) ∨ (¬ cI a 3 4 q = -1 ∧ vp_in (cI a 3 4 q) 6 ∧ oS B (kRedeem a q (kT a q)) (mRedeem b r) (cI a 3 5 q))) := by
  have hx := (h.ix r).2.2.1
  unfold mRedeem
  by_cases h1 : vp_in r (cL a 2)
  · rw [if_pos (hx.mpr h1)]
    obtain ⟨ci, e, sc, ct, ac, ow, gr, no, dl, ds, hd, pl, co, tw, wf, -⟩ := id h
    have h80 := ci.2.1.2
    obtain ⟨q, hq, rfl⟩ := vp_in_of h1 (by omega)
    refine Or.inr ⟨q, hq, rfl, ?_⟩
    obtain ⟨r1, r2, r3, r4, r5, r6, r7⟩ := h.rcp hq
    rw [r2]
    by_cases h2 : cI a 3 4 q = -1
    · rw [if_neg (fun z => z h2)]; exact Or.inl ⟨h2, rfl⟩
    · rw [if_pos h2]
      have hp6 : vp_in (cI a 3 4 q) 6 := by
        rw [← r2]
        exact (show mOk 25 _ from wf 25 _).resolve_left (by show ¬ gA b 25 (nI q) = -1; rw [r2]; exact h2)
      have e26 : gA b 26 (nI q) = cI a 3 5 q := by
        rw [gA_nI _ _ (by omega)]
        exact ((pl q hq).1 h2).1
      refine Or.inr ⟨h2, hp6, ?_⟩
      have s1 := ((h.thr 0).pay (i := cI a 5 2 (kT a q)) (j := cI a 3 4 q) (h.hd6 hq) hp6 (cI a 3 5 q).toInt64).mono (show B ≤ B + 1 by omega)
      have ep := kPayT_same a (cI a 5 2 (kT a q)) (cI a 3 4 q) (cI a 3 5 q).toInt64
      have s2 := s1.unpledge sL_ok (by decide) (r := q) (by rw [show cL (kPayT a (cI a 5 2 (kT a q)) (cI a 3 4 q) (cI a 3 5 q).toInt64) 2 = cL a 2 from congrFun ep.2.2.1 2]; exact hq) (by
        show ¬ b.2.1 25 q = -1
        rw [← gA_nI _ _ (show q < 2 ^ 31 by omega), r2]; exact h2)
      rw [kPayT_in (h.hd6 hq) hp6] at s2
      have g22 : gA b 22 (nI q) = cI a 5 2 (kT a q) := r3
      have g25 : gA b 25 (nI q) = cI a 3 4 q := r2
      simp only [g22, e26]
      refine ⟨?_, rfl, s2⟩
      show (mX (mPay (mS b 0 0) (cI a 5 2 (kT a q)) (cI a 3 4 q) (cI a 3 5 q).toInt64) 25 (nI q) (-1)).2.1 26 (nI q).toNatClampNeg = cI a 3 5 q
      rw [mX_ne _ (by decide)]
      exact e26
  · rw [if_neg (fun z => h1 (hx.mp z))]; exact Or.inl ⟨h1, rfl⟩
theorem p_takeOut {B : Nat} {a : CS} {b : MS} (h : SC sL B a b) (r : Int32) :
    (¬ vp_in r (cL a 2) ∧ oT b (mTakeOut b r) 1) ∨ ∃ q, q < cL a 2 ∧ r = nI q ∧ ((¬ (0 < cI a 3 3 q ∧ cI a 3 4 q = -1) ∧ oT b (mTakeOut b r) 2) ∨ ((0 < cI a 3 3 q ∧ cI a 3 4 q = -1) ∧ oS B (kTakeFrom a q (kS a (kD a q)) (cI a 3 3 q)) (mTakeOut b r) (cI a 3 3 q))) := by
  have hx := (h.ix r).2.2.1
  unfold mTakeOut
  by_cases h1 : vp_in r (cL a 2)
  · rw [if_pos (hx.mpr h1)]
    obtain ⟨ci, e, sc, ct, ac, ow, gr, no, dl, ds, -⟩ := id h
    have h80 := ci.2.1.2
    obtain ⟨q, hq, rfl⟩ := vp_in_of h1 (by omega)
    refine Or.inr ⟨q, hq, rfl, ?_⟩
    obtain ⟨r1, r2, r3, r4, r5, r6, r7, r8⟩ := h.rcp hq
    rw [r1, r2]
    by_cases h2 : cI a 3 3 q = 0
    · rw [if_pos h2]; exact Or.inl ⟨fun z => absurd z.1 (by rw [h2]; decide), rfl⟩
    · rw [if_neg h2]
      by_cases h3 : cI a 3 4 q = -1
      · rw [if_pos h3]
        have e21 : b.2.1 21 = a.2.1 3 3 := e (21, 3, 3) (by decide)
        have s1 := (h.thr 0).lose sL_ok (by decide) (by decide) (by decide) hq (x := cI a 3 3 q) r7 (by
          show (cI a 3 3 q).toInt ≤ (b.2.1 21 q).toInt
          rw [e21]; exact Int.le_refl _)
        have hsN : kS a (kD a q) < cN a 4 := (ci.1.1.2.1 _ (ci.1.1.1 q (by rw [← ci.2.1.1]; exact hq)).2.1).2
        have h64 := ci.2.2.1
        have f0 : (mLose (mS b 0 0) (nI q) (cI a 3 3 q)).1 = (mS b 0 0).1 := (mLose_o (b := mS b 0 0) (r := q) (s := kS a (kD a q)) (x := cI a 3 3 q) (by omega) (by omega) (dl q hq).2).2
        refine Or.inr ⟨⟨?_, h3⟩, rfl, ?_, s1⟩
        · rw [i32_lt, i32_0]
          rw [i32_eq0] at h2
          omega
        · show (mLose (mS b 0 0) (nI q) (cI a 3 3 q)).1 0 = 0
          rw [f0]; rfl
      · rw [if_neg h3]; exact Or.inl ⟨fun z => h3 z.2, rfl⟩
  · rw [if_neg (fun z => h1 (hx.mp z))]; exact Or.inl ⟨h1, rfl⟩
