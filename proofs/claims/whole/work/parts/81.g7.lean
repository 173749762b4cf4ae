/-! a delivery, on both sides -/
theorem mFst_congr {p q : Nat → Bool} : ∀ (k i : Nat), (∀ j, i ≤ j → j < i + k → p j = q j) → mFst p i k = mFst q i k
  | 0, _, _ => rfl
  | k + 1, i, h => by
    show (if p i = true then some i else mFst p (i + 1) k) = (if q i = true then some i else mFst q (i + 1) k)
    rw [h i (Nat.le_refl i) (by omega), mFst_congr k (i + 1) (fun j h1 h2 => h j (by omega) (by omega))]
theorem SC.siloFor {B : Nat} {a : CS} {b : MS} (h : SC sL B a b) (g q : Int32) {x : Int32} (h0 : 0 ≤ x.toInt) (hx : x.toInt ≤ 40000) : mSiloFor b g q x = match kSiloFor a g q x with
    | some s => nI s
    | none => -1 := by
  obtain ⟨ci, e, sc, ct, ac, ow, gr, no, dl, ds, hd, pl, co, tw, wf, hs, sm, pe, de, ze, cn, rm, bt⟩ := id h
  have h06 := ci.2.2.1.2
  have h80 := ci.2.1.2
  have e8 : b.2.1 8 = a.2.1 4 1 := e (8, 4, 1) (by decide)
  have e9 : b.2.1 9 = a.2.1 4 4 := e (9, 4, 4) (by decide)
  have g7 : (gS b 7).toNatClampNeg = cL a 0 := by rw [show gS b 7 = nI (cL a 0) from ct.1, nI_clamp (by omega)]
  have f1 : ∀ s, s < cL a 0 → (0 ≤ (cI a 4 4 s).toInt ∧ (cI a 4 4 s).toInt ≤ 3200000) ∧ (1 ≤ (cI a 4 1 s).toInt ∧ (cI a 4 1 s).toInt ≤ 1000000) := fun s hs9 => by
    have q1 := sm.bd hs h80 hs9
    have q2 := rm s hs9
    rw [e9] at q1
    rw [e8] at q2
    exact ⟨q1, q2⟩
  have f2 : ∀ s, s < cL a 0 → (gA b 9 (nI s) + x ≤ gA b 8 (nI s) ↔ x ≤ cI a 4 1 s - cI a 4 4 s) := fun s hs9 => by
    rw [gA_nI _ _ (by omega), gA_nI _ _ (by omega), e8, e9]
    obtain ⟨⟨q1, q2⟩, q3, q4⟩ := f1 s hs9
    show cI a 4 4 s + x ≤ cI a 4 1 s ↔ _
    rw [i32_le, i32_le, i32_add (by omega) (by omega), i32_sub (by omega) (by omega)]
    omega
  have c1 : mFst (fun s => mIsOf b (nI s) g q && decide (gA b 9 (nI s) + x ≤ gA b 8 (nI s))) 0 (cL a 0) = mFst (kSF1 a g q x) 0 (cL a 0) := mFst_congr _ _ (fun s _ hs9 => by
    unfold kSF1
    rw [h.isOf (by decide) (by omega), decide_eq_decide.mpr (f2 s (by omega))])
  have c2 : mFst (fun s => decide (gA b 9 (nI s) = 0) && decide (x ≤ gA b 8 (nI s))) 0 (cL a 0) = mFst (kSF2 a x) 0 (cL a 0) := mFst_congr _ _ (fun s _ hs9 => by
    unfold kSF2
    obtain ⟨⟨q1, q2⟩, q3, q4⟩ := f1 s (by omega)
    rw [gA_nI _ _ (by omega), gA_nI _ _ (by omega), e8, e9]
    show (decide (cI a 4 4 s = 0) && decide (x ≤ cI a 4 1 s)) = _
    by_cases z : cI a 4 4 s = 0
    · rw [z, show cI a 4 1 s - 0 = cI a 4 1 s by rw [← Int32.toInt_inj, i32_sub (by rw [i32_0]; omega) (by rw [i32_0]; omega), i32_0]; omega]
      rw [show decide ((0 : Int32) = 0) = true by decide, show decide ((0 : Int32) ≤ 0) = true by decide]
    · rw [decide_eq_false z, decide_eq_false (p := cI a 4 4 s ≤ 0) (fun y => z (by
        rw [i32_le, i32_0] at y
        rw [i32_eq0]
        omega)), Bool.false_and, Bool.false_and])
  unfold mSiloFor kSiloFor
  rw [g7, c1, c2]
  cases mFst (kSF1 a g q x) 0 (cL a 0) with
  | some s => rfl
  | none => rfl
theorem kDeliver1_I (a : CS) (who g kg gr dry : Int32) (s : Nat) (j k : Nat) : (kDeliver1 a who g kg gr dry s).2.1 j k = if j = 2 then upd (a.2.1 2 k) (cN a 2) (if k = 6 then dry else if k = 5 then kg else if k = 3 then gr else if k = 2 then g else if k = 1 then who else if k = 0 then nI (cL a 1) else 0) else if j = 4 ∧ k = 3 then upd (a.2.1 4 3) s gr else if j = 4 ∧ k = 2 then upd (a.2.1 4 2) s g else a.2.1 j k := by
  show (cSI (cSI (cSI (cSI (cSI (cSI (cSI (cSI (cNew a 2) 2 0 (cN a 2) (nI (cL a 1))) 2 1 (cN a 2) who) 2 2 (cN a 2) g) 2 3 (cN a 2) gr) 2 5 (cN a 2) kg) 2 6 (cN a 2) dry) 4 2 s g) 4 3 s gr).2.1 j k = _
  simp only [cSI_row]
  by_cases hj : j = 2
  · subst hj
    by_cases h6 : k = 6
    · subst h6; simp [cNew_s, upd2]
    · by_cases h5 : k = 5
      · subst h5; simp [cNew_s, upd2]
      · by_cases h3 : k = 3
        · subst h3; simp [cNew_s, upd2]
        · by_cases h2 : k = 2
          · subst h2; simp [cNew_s, upd2]
          · by_cases h1 : k = 1
            · subst h1; simp [cNew_s, upd2]
            · by_cases h0 : k = 0
              · subst h0; simp [cNew_s, upd2]
              · simp [h0, h1, h2, h3, h5, h6, cNew_s]
  · by_cases h4 : j = 4
    · subst h4
      by_cases h3 : k = 3
      · subst h3; simp [cNew_o a hj]
      · by_cases h2 : k = 2
        · subst h2; simp [cNew_o a hj]
        · simp [h2, h3, cNew_o a hj]
    · simp [hj, h4, cNew_o a hj]
def mDel (b : MS) (n : Nat) (who g kg gr dry : Int32) (s : Nat) : MS := mX (mX (mS (mX (mX (mX (mX (mX (mX b 14 (nI n) who) 15 (nI n) kg) 16 (nI n) dry) 17 (nI n) g) 18 (nI n) gr) 19 (nI n) (nI s)) 13 (nI (n + 1))) 10 (nI s) g) 11 (nI s) gr
theorem mX_rowS (b : MS) (k z : Nat) (y : Int32) {i : Nat} (h : i < 2 ^ 31) (x : Int32) (q : Nat) : (mX (mS b z y) k (nI i) x).2.1 q = if q = k then upd (b.2.1 k) i x else b.2.1 q := mX_row b k h x q
theorem mDel_row (b : MS) {n s : Nat} (hn : n < 2 ^ 31) (hs : s < 2 ^ 31) (who g kg gr dry : Int32) (q : Nat) : (mDel b n who g kg gr dry s).2.1 q = if q = 11 then upd (b.2.1 11) s gr else if q = 10 then upd (b.2.1 10) s g else if q = 19 then upd (b.2.1 19) n (nI s) else if q = 18 then upd (b.2.1 18) n gr else if q = 17 then upd (b.2.1 17) n g else if q = 16 then upd (b.2.1 16) n dry else if q = 15 then upd (b.2.1 15) n kg else if q = 14 then upd (b.2.1 14) n who else b.2.1 q := by
  unfold mDel
  have eS : ∀ (c : MS) (y : Int32), (mS c 13 y).2.1 = c.2.1 := fun _ _ => rfl
  simp [mX_row _ _ hn, mX_row _ _ hs, eS]
theorem mDel_lo (b : MS) {n s : Nat} (hn : n < 2 ^ 31) (hs : s < 2 ^ 31) (who g kg gr dry : Int32) {q : Nat} (h : ¬ (14 ≤ q ∧ q ≤ 19)) (h1 : q ≠ 10) (h2 : q ≠ 11) : (mDel b n who g kg gr dry s).2.1 q = b.2.1 q := by
  rw [mDel_row b hn hs, if_neg h2, if_neg h1, if_neg (by omega), if_neg (by omega), if_neg (by omega), if_neg (by omega), if_neg (by omega), if_neg (by omega)]
theorem SC.deliver1 {B : Nat} {a : CS} {b : MS} (h : SC sL B a b) (h40 : cL a 1 < 40) {s : Nat} (hs9 : s < cL a 0) {who : Int32} (hw : vp_in who 6) {kg dry : Int32} (hk : 100 ≤ kg.toInt ∧ kg.toInt ≤ 40000) (hdr : 0 ≤ dry.toInt ∧ dry.toInt ≤ 40000) (g gr9 : Int32) : SC sL B (kDeliver1 a who g kg gr9 dry s) (mDel b (cL a 1) who g kg gr9 dry s) := by
  obtain ⟨ci, e, sc, ct, ac, ow, gr, no, dl, ds, hd, pl, co, tw, wf, hs, sm, pe, de, ze, cn, rm, bt⟩ := h
  have hn2 : cN a 2 = cL a 1 := ci.2.2.2.1.1.symm
  have h06 := ci.2.2.1.2
  have hs4 : s < cN a 4 := by rw [← ci.2.2.1.1]; exact hs9
  have ks := kDeliver1_I a who g kg gr9 dry s
  rw [hn2] at ks
  have ms := mDel_row b (n := cL a 1) (s := s) (by omega) (by omega) who g kg gr9 dry
  have mo : ∀ {q : Nat}, ¬ (14 ≤ q ∧ q ≤ 19) → q ≠ 10 → q ≠ 11 → (mDel b (cL a 1) who g kg gr9 dry s).2.1 q = b.2.1 q := fun hq h1 h2 => mDel_lo b (by omega) (by omega) _ _ _ _ _ hq h1 h2
  have ko : ∀ {j k : Nat}, j ≠ 2 → j ≠ 4 → (kDeliver1 a who g kg gr9 dry s).2.1 j k = a.2.1 j k := fun {j k} h1 h2 => by rw [ks, if_neg h1, if_neg (fun z => h2 z.1), if_neg (fun z => h2 z.1)]
  have k4 : ∀ {k : Nat}, k ≠ 2 → k ≠ 3 → (kDeliver1 a who g kg gr9 dry s).2.1 4 k = a.2.1 4 k := fun {k} h1 h2 => by rw [ks, if_neg (by decide), if_neg (fun z => h2 z.2), if_neg (fun z => h1 z.2)]
  have hR : (kDeliver1 a who g kg gr9 dry s).2.2.1 = (cSR (cNew a 2) 2 4 (cN a 2) (some s)).2.2.1 := rfl
  have r3 : (kDeliver1 a who g kg gr9 dry s).2.2.1 3 = a.2.2.1 3 := by
    rw [hR, show (cSR (cNew a 2) 2 4 (cN a 2) (some s)).2.2.1 3 = (cNew a 2).2.2.1 3 from by
      funext k
      exact u3_ne (cNew a 2).2.2.1 (cN a 2) (some s) (j := 2) (k := 4) (j' := 3) (k' := k) (by simp)]
    exact cNew_R a (by decide)
  have r5 : (kDeliver1 a who g kg gr9 dry s).2.2.1 5 = a.2.2.1 5 := by
    rw [hR, show (cSR (cNew a 2) 2 4 (cN a 2) (some s)).2.2.1 5 = (cNew a 2).2.2.1 5 from by
      funext k
      exact u3_ne (cNew a 2).2.2.1 (cN a 2) (some s) (j := 2) (k := 4) (j' := 5) (k' := k) (by simp)]
    exact cNew_R a (by decide)
  have sn : kS (kDeliver1 a who g kg gr9 dry s) (cL a 1) = s := by
    unfold kS
    have : cR (kDeliver1 a who g kg gr9 dry s) 2 4 (cL a 1) = some s := by
      show (kDeliver1 a who g kg gr9 dry s).2.2.1 2 4 (cL a 1) = _
      rw [hR, hn2]
      exact if_pos ⟨rfl, rfl, rfl⟩
    rw [this]; rfl
  have so : ∀ d, d < cL a 1 → kS (kDeliver1 a who g kg gr9 dry s) d = kS a d := fun d hd9 => by
    unfold kS
    have : cR (kDeliver1 a who g kg gr9 dry s) 2 4 d = cR a 2 4 d := by
      show (kDeliver1 a who g kg gr9 dry s).2.2.1 2 4 d = _
      rw [hR, hn2]
      show (if 2 = 2 ∧ 4 = 4 ∧ d = cL a 1 then some s else (if 2 = 2 ∧ d = a.1 2 then none else a.2.2.1 2 4 d)) = _
      rw [if_neg (fun z => by omega), if_neg (fun z => by
        have : d = cN a 2 := z.2
        omega)]
    rw [this]
  have eD : kD (kDeliver1 a who g kg gr9 dry s) = kD a := by funext q; unfold kD cR; rw [r3]
  have eT : kT (kDeliver1 a who g kg gr9 dry s) = kT a := by funext q; unfold kT cR; rw [r3]
  have eL1 : cL (kDeliver1 a who g kg gr9 dry s) 1 = cL a 1 + 1 := rfl
  have ok := cOk_newD (X := kDeliver1 a who g kg gr9 dry s) ci.1 hs4 ci.2.2.2.1.1 rfl rfl rfl
  refine ⟨⟨ok, ci.2.1, ci.2.2.1, ⟨?_, ?_⟩, ci.2.2.2.2⟩, ?_, ?_, ⟨ct.1, rfl, ct.2.2.1, ct.2.2.2⟩, ac, ?_, ?_, ?_, ?_, ?_, ?_, ?_, ?_, ?_, ?_, ?_, ?_, ?_, ?_, ?_, ?_, ?_, bt⟩
  · show cL a 1 + 1 = cN a 2 + 1
    omega
  · rw [eL1]; omega
  · intro p hp
    rcases (show ∀ p ∈ sL, ((p.2.1 ≠ 2 ∧ ¬ (p.2.1 = 4 ∧ p.2.2 = 3) ∧ ¬ (p.2.1 = 4 ∧ p.2.2 = 2)) ∧ ¬ (14 ≤ p.1 ∧ p.1 ≤ 19) ∧ p.1 ≠ 10 ∧ p.1 ≠ 11) ∨ p = (14, 2, 1) ∨ p = (15, 2, 5) ∨ p = (16, 2, 6) ∨ p = (17, 2, 2) ∨ p = (18, 2, 3) by decide) p hp with ⟨⟨g1, g2, g3⟩, g4, g5, g6⟩ | rfl | rfl | rfl | rfl | rfl
    · rw [mo g4 g5 g6, ks, if_neg g1, if_neg g2, if_neg g3]; exact e p hp
    · have := e _ hp
      simp only at this ⊢
      rw [ms, ks, this]; simp
    · have := e _ hp
      simp only at this ⊢
      rw [ms, ks, this]; simp
    · have := e _ hp
      simp only at this ⊢
      rw [ms, ks, this]; simp
    · have := e _ hp
      simp only at this ⊢
      rw [ms, ks, this]; simp
    · have := e _ hp
      simp only at this ⊢
      rw [ms, ks, this]; simp
  · unfold sSc cI
    rw [ko (by decide) (by decide), ko (by decide) (by decide), ko (by decide) (by decide), ko (by decide) (by decide)]
    exact sc
  · rw [mo (by decide) (by decide) (by decide)]; exact ow
  · rw [ms 10, ms 11, ks 4 2, ks 4 3, k4 (by decide) (by decide)]
    intro q hq
    simp only [if_pos, if_neg (show ¬ (10 : Nat) = 11 by decide), if_neg (show ¬ (4 : Nat) = 2 by decide), true_and, if_neg (show ¬ (2 : Nat) = 3 by decide), upd]
    by_cases hqs : q = s
    · rw [if_pos hqs, if_pos hqs, if_pos hqs, if_pos hqs]; exact ⟨rfl, rfl⟩
    · rw [if_neg hqs, if_neg hqs, if_neg hqs, if_neg hqs]; exact gr q hq
  · rw [eL1, ks 2 0, k4 (by decide) (by decide), ko (by decide) (by decide), ko (by decide) (by decide)]
    refine ⟨no.1, fun i hi => ?_, no.2.2⟩
    rw [if_pos rfl, if_neg (by decide), if_neg (by decide), if_neg (by decide), if_neg (by decide), if_neg (by decide), if_pos rfl]
    unfold upd
    by_cases hin : i = cL a 1
    · rw [if_pos hin, hin]
    · rw [if_neg hin]; exact no.2.1 i (by omega)
  · rw [mo (by decide) (by decide) (by decide), mo (by decide) (by decide) (by decide), eD]
    intro r hr
    have hdN : kD a r < cL a 1 := by
      have := (ci.1.1.1 r (by rw [← ci.2.1.1]; exact hr)).2.1
      omega
    show b.2.1 24 r = nI (kD a r) ∧ b.2.1 23 r = nI (kS (kDeliver1 a who g kg gr9 dry s) (kD a r))
    rw [so _ hdN]
    exact dl r hr
  · rw [ms 19, eL1]
    intro d hd9
    simp only [if_neg (show ¬ (19 : Nat) = 11 by decide), if_neg (show ¬ (19 : Nat) = 10 by decide), if_pos, upd]
    by_cases hdn : d = cL a 1
    · rw [if_pos hdn, hdn, sn]
    · rw [if_neg hdn, so d (by omega)]; exact ds d (by omega)
  · rw [mo (by decide) (by decide) (by decide)]
    intro q hq
    show _ = (kDeliver1 a who g kg gr9 dry s).2.1 5 2 (kT (kDeliver1 a who g kg gr9 dry s) q)
    rw [eT, ko (by decide) (by decide)]; exact hd q hq
  · rw [mo (by decide) (by decide) (by decide), mo (by decide) (by decide) (by decide), ko (by decide) (by decide), ko (by decide) (by decide), ko (by decide) (by decide)]; exact pl
  · rw [mo (by decide) (by decide) (by decide)]
    intro q hq
    show _ = sOI ((kDeliver1 a who g kg gr9 dry s).2.2.1 3 7 q)
    rw [r3]; exact co q hq
  · rw [mo (by decide) (by decide) (by decide), mo (by decide) (by decide) (by decide), mo (by decide) (by decide) (by decide)]
    exact tw.to2 rfl rfl (funext fun k => ko (by decide) (by decide)) r5 r3
  · exact mWf_X (k := 11) (mWf_X (k := 10) (mWf_S (mWf_X (k := 19) (mWf_X (k := 18) (mWf_X (k := 17) (mWf_X (k := 16) (mWf_X (k := 15) (mWf_X (k := 14) wf _ hw) _ trivial) _ trivial) _ trivial) _ trivial) _ (vin_nI (by omega) (by omega))) 13 _) _ trivial) _ trivial
  · rw [mo (by decide) (by decide) (by decide)]; exact hs
  · rw [mo (by decide) (by decide) (by decide), mo (by decide) (by decide) (by decide), mo (by decide) (by decide) (by decide)]; exact sm
  · rw [mo (by decide) (by decide) (by decide), mo (by decide) (by decide) (by decide)]; exact pe
  · rw [ms 15, ms 16, eL1]
    intro d hd9
    simp only [if_neg (show ¬ (15 : Nat) = 11 by decide), if_neg (show ¬ (15 : Nat) = 10 by decide), if_neg (show ¬ (15 : Nat) = 19 by decide), if_neg (show ¬ (15 : Nat) = 18 by decide), if_neg (show ¬ (15 : Nat) = 17 by decide), if_neg (show ¬ (15 : Nat) = 16 by decide), if_neg (show ¬ (16 : Nat) = 11 by decide), if_neg (show ¬ (16 : Nat) = 10 by decide), if_neg (show ¬ (16 : Nat) = 19 by decide), if_neg (show ¬ (16 : Nat) = 18 by decide), if_neg (show ¬ (16 : Nat) = 17 by decide), if_pos, upd]
    by_cases hdn : d = cL a 1
    · rw [if_pos hdn, if_pos hdn]; exact ⟨hk, hdr⟩
    · rw [if_neg hdn, if_neg hdn]; exact de d (by omega)
  · rw [mo (by decide) (by decide) (by decide), mo (by decide) (by decide) (by decide), mo (by decide) (by decide) (by decide), mo (by decide) (by decide) (by decide), mo (by decide) (by decide) (by decide)]
    exact ze
  · show sCn B (cL a 2) (b.1 29) _ _ ((kDeliver1 a who g kg gr9 dry s).2.1 6 10 0)
    rw [mo (by decide) (by decide) (by decide), mo (by decide) (by decide) (by decide), ko (by decide) (by decide)]; exact cn
  · rw [mo (by decide) (by decide) (by decide)]; exact rm
def cD (who g kg mo : Int32) : Prop := mIn who 0 5 = true ∧ mIn g 0 2 = true ∧ mIn kg 100 40000 = true ∧ mIn mo 50 300 = true
theorem p_deliver {B : Nat} {a : CS} {b : MS} (h : SC sL B a b) (hB : B ≤ 4000) (who g kg mo : Int32) :
    (¬ cD who g kg mo ∧ oT b (mDeliver b who g kg mo) 1) ∨ (cD who g kg mo ∧ (((40 ≤ cL a 1 ∨ 80 ≤ cL a 2 ∨ kSiloFor a g (mGrade mo) (kDry kg mo) = none) ∧ oT b (mDeliver b who g kg mo) 2) ∨
      ∃ s, kSiloFor a g (mGrade mo) (kDry kg mo) = some s ∧ cL a 1 < 40 ∧ cL a 2 < 80 ∧ oS B (kDeliver a who g kg (mGrade mo) (kDry kg mo) s) (mDeliver b who g kg mo) (nI (cL a 2)))) := by
  obtain ⟨ci, e, sc, ct, -⟩ := id h
  have h40 := ci.2.2.2.1.2
  have h80 := ci.2.1.2
  have h06 := ci.2.2.1.2
  have g13 : gS b 13 = nI (cL a 1) := ct.2.1
  have g20 : gS b 20 = nI (cL a 2) := ct.2.2.1
  have hc : (mIn who 0 5 && (mIn g 0 2 && (mIn kg 100 40000 && mIn mo 50 300))) = true ↔ cD who g kg mo := by
    unfold cD
    simp only [Bool.and_eq_true]
  unfold mDeliver
  by_cases h1 : cD who g kg mo
  · refine Or.inr ⟨h1, ?_⟩
    rw [if_pos (hc.mpr h1)]
    obtain ⟨q1, q2, q3, q4⟩ := h1
    obtain ⟨w1, w2⟩ := mIn_int.mp q3
    obtain ⟨w3, w4⟩ := mIn_int.mp q4
    rw [show (100 : Int32).toInt = 100 by decide] at w1
    rw [show (40000 : Int32).toInt = 40000 by decide] at w2
    rw [show (50 : Int32).toInt = 50 by decide] at w3
    rw [show (300 : Int32).toInt = 300 by decide] at w4
    obtain ⟨d1, d2, d3⟩ := dry_eq w1 w2 w3 w4
    rw [← d1] at d2 d3
    rw [← d1]
    have i40 : (40 : Int32) ≤ gS b 13 ↔ 40 ≤ cL a 1 := by
      rw [g13, i32_le, nI_toInt (by omega), show (40 : Int32).toInt = 40 by decide]
      omega
    have i80 : (80 : Int32) ≤ gS b 20 ↔ 80 ≤ cL a 2 := by
      rw [g20, i32_le, nI_toInt (by omega), show (80 : Int32).toInt = 80 by decide]
      omega
    by_cases h2 : 40 ≤ cL a 1
    · rw [if_pos (i40.mpr h2)]; exact Or.inl ⟨Or.inl h2, rfl⟩
    · rw [if_neg (fun z => h2 (i40.mp z))]
      by_cases h3 : 80 ≤ cL a 2
      · rw [if_pos (i80.mpr h3)]; exact Or.inl ⟨Or.inr (Or.inl h3), rfl⟩
      · rw [if_neg (fun z => h3 (i80.mp z)), h.siloFor g (mGrade mo) (by omega) d3]
        cases hsf : kSiloFor a g (mGrade mo) (kDry kg mo) with
        | none => 
          rw [if_pos rfl]; exact Or.inl ⟨Or.inr (Or.inr rfl), rfl⟩
        | some s =>
          have hs9 := kSiloFor_lt hsf
          refine Or.inr ⟨s, rfl, by omega, by omega, ?_⟩
          simp only
          rw [if_neg (fun z => by
            have := congrArg Int32.toInt z
            rw [nI_toInt (by omega), show (-1 : Int32).toInt = -1 by decide] at this
            omega)]
          have s1 := (h.thr 0).deliver1 (by omega) hs9 (who := who) (mIn_v6.mp q1) (kg := kg) (dry := kDry kg mo) ⟨w1, w2⟩ ⟨by omega, d3⟩ g (mGrade mo)
          have hn2 : cN a 2 = cL a 1 := ci.2.2.2.1.1.symm
          have ks := kDeliver1_I a who g kg (mGrade mo) (kDry kg mo) s
          rw [hn2] at ks
          have eS : kS (kDeliver1 a who g kg (mGrade mo) (kDry kg mo) s) (cL a 1) = s := by
            unfold kS
            have : cR (kDeliver1 a who g kg (mGrade mo) (kDry kg mo) s) 2 4 (cL a 1) = some s := by
              show (cSR (cNew a 2) 2 4 (cN a 2) (some s)).2.2.1 2 4 (cL a 1) = _
              rw [hn2]
              exact if_pos ⟨rfl, rfl, rfl⟩
            rw [this]; rfl
          have e21 : cI (kDeliver1 a who g kg (mGrade mo) (kDry kg mo) s) 2 1 (cL a 1) = who := by
            show (kDeliver1 a who g kg (mGrade mo) (kDry kg mo) s).2.1 2 1 (cL a 1) = who
            rw [ks]; simp [upd]
          have ms := mDel_row (mS b 0 0) (n := cL a 1) (s := s) (by omega) (by omega) who g kg (mGrade mo) (kDry kg mo)
          have s2 := s1.putIn sL_ok (by decide) hB (d := cL a 1) (Nat.lt_succ_self _) (by show cL a 2 < 80; omega) (kg := kDry kg mo) ⟨d2, d3⟩ (by rw [e21]; exact mIn_v6.mp q1) (by
            rw [eS, ms 10, ms 11, ks 4 2, ks 4 3]
            simp [upd])
          rw [eS, e21] at s2
          have e9 : (mDel (mS b 0 0) (cL a 1) who g kg (mGrade mo) (kDry kg mo) s).2.1 9 s = gA b 9 (nI s) := by
            rw [mDel_lo (mS b 0 0) (by omega) (by omega) _ _ _ _ _ (by decide) (by decide) (by decide), gA_nI _ _ (by omega)]; rfl
          rw [e9] at s2
          have eM : mDeliverS (mS b 0 0) who g kg (mGrade mo) (kDry kg mo) (nI s) = mMake (mX (mDel (mS b 0 0) (cL a 1) who g kg (mGrade mo) (kDry kg mo) s) 9 (nI s) (gA b 9 (nI s) + kDry kg mo)) (kDry kg mo) who (nI s) (nI (cL a 1)) := by
            have g13' : gS (mS b 0 0) 13 = nI (cL a 1) := g13
            have gX : ∀ (c : MS) (k : Nat) (i x : Int32) (q : Nat), gS (mX c k i x) q = gS c q := fun _ _ _ _ _ => rfl
            have gSS : ∀ (c : MS) (k : Nat) (x : Int32), gS (mS c k x) k = x := fun c k x => if_pos rfl
            unfold mDeliverS mDel
            simp only [gX, g13', gSS]
            rw [show nI (cL a 1) + 1 = nI (cL a 1 + 1) from nI_1 _]
            rw [mX_comm _ (show (11 : Nat) ≠ 9 by decide), mX_comm _ (show (10 : Nat) ≠ 9 by decide)]
            rw [show nI (cL a 1 + 1) - 1 = nI (cL a 1) by rw [← show nI (cL a 1) + 1 = nI (cL a 1 + 1) from nI_1 _, i_a1]]
            rfl
          rw [eM]
          rw [show kDeliver a who g kg (mGrade mo) (kDry kg mo) s = kPutIn (kDeliver1 a who g kg (mGrade mo) (kDry kg mo) s) (cL a 1) (kDry kg mo) by unfold kDeliver; rw [hn2]]
          exact ⟨g20, rfl, s2⟩
  · rw [if_neg (fun z => h1 (hc.mp z))]; exact Or.inl ⟨h1, rfl⟩
