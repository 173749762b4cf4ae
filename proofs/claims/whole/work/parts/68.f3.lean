/-! a receipt has another holder -/
theorem cSR_I (a : CS) (j k i : Nat) (x : Option Nat) : (cSR a j k i x).2.1 = a.2.1 := rfl
theorem cSI_R (a : CS) (j k i : Nat) (x : Int32) : (cSI a j k i x).2.2.1 = a.2.2.1 := rfl
theorem cNew_I (a : CS) (j0 j k : Nat) : (cNew a j0).2.1 j k = if j = j0 then (fun i => if i = a.1 j0 then 0 else a.2.1 j k i) else a.2.1 j k := by
  funext i
  show (if j = j0 ∧ i = a.1 j0 then 0 else a.2.1 j k i) = _
  by_cases h : j = j0
  · rw [if_pos h]
    by_cases hi : i = a.1 j0
    · rw [if_pos ⟨h, hi⟩, if_pos hi]
    · rw [if_neg (fun z => hi z.2), if_neg hi]
  · rw [if_neg (fun z => h z.1), if_neg h]
theorem kCh_I {a : CS} {r : Nat} {h : Int32} {j k : Nat} (hj : j ≠ 5) (hk : ¬ (j = 6 ∧ k = 10)) : (kCh a r h).2.1 j k = a.2.1 j k := by
  have e1 : (kChSame a r (kT a r) h).2.1 j k = a.2.1 j k := by
    unfold kChSame kCh0
    rw [cSI_row, if_neg (fun z => hj z.1), cSR_I]
  unfold kCh
  split
  · exact e1
  · split
    · unfold kChNew kCh0
      simp only [cSI_row, cSR_I, cNew_I, if_neg hk, hj, false_and, if_false]
    · exact e1
theorem kCh_R {a : CS} {r : Nat} {h : Int32} : (∀ q, cR (kCh a r h) 3 1 q = cR a 3 1 q) ∧ (∀ d, cR (kCh a r h) 2 4 d = cR a 2 4 d) ∧ ∀ q, cR (kCh a r h) 3 7 q = if q = r then none else cR a 3 7 q := by
  have e0 : ∀ {X : Nat → Nat → Nat → Option Nat}, (∀ q, u3 X 3 7 r none 3 1 q = X 3 1 q) ∧ (∀ d, u3 X 3 7 r none 2 4 d = X 2 4 d) ∧ ∀ q, u3 X 3 7 r none 3 7 q = if q = r then none else X 3 7 q := fun {X} =>
    ⟨fun q => congrFun (u3_ne X r none (by decide)) q, fun q => congrFun (u3_ne X r none (by decide)) q, fun q => congrFun (u3_at X 3 7 r none) q⟩
  have e1 : (∀ q, cR (kChSame a r (kT a r) h) 3 1 q = cR a 3 1 q) ∧ (∀ d, cR (kChSame a r (kT a r) h) 2 4 d = cR a 2 4 d) ∧ ∀ q, cR (kChSame a r (kT a r) h) 3 7 q = if q = r then none else cR a 3 7 q := e0 (X := a.2.2.1)
  unfold kCh
  split
  · exact e1
  · split
    · refine ⟨fun q => ?_, fun q => ?_, fun q => ?_⟩
      · simp [kChNew, kCh0, cSI, cSR, cNew, cR, u3]
      · simp [kChNew, kCh0, cSI, cSR, cNew, cR, u3]
      · simp [kChNew, kCh0, cSI, cSR, cNew, cR, u3]
    · exact e1
theorem kCh_rest (a : CS) (r : Nat) (h : Int32) : (kCh a r h).2.2.2 = a.2.2.2 := by
  unfold kCh
  split
  · rfl
  · split <;> rfl
theorem kOwn_step {a : CS} (hd : cDec a) (day : Int32) {t : Nat} (ht : t < cN a 5) : kOwn a day t = if cI a 5 0 t ≤ day then cI a 5 2 t else match cR a 5 1 t with
    | none => -1
    | some t' => kOwn a day t' := by
  unfold kOwn
  rw [kOwnF_eq hd day t t (t + 1) ht (Nat.le_refl _) (Nat.le_succ _)]
  show (if cI a 5 0 t ≤ day then cI a 5 2 t else match cR a 5 1 t with | none => -1 | some t' => kOwnF a day t t') = _
  split
  · rfl
  · cases hc : cR a 5 1 t with
    | none => rfl
    | some t' =>
      have hlt := hd t t' ht hc
      exact kOwnF_eq hd day t' t t' (by omega) (by omega) (Nat.le_refl _)
theorem kOwnF_fr {a a' : CS} {P : Nat → Prop} (hP : ∀ t t', P t → cR a 5 1 t = some t' → P t') (hs : ∀ t, P t → cI a' 5 0 t = cI a 5 0 t ∧ cI a' 5 2 t = cI a 5 2 t ∧ cR a' 5 1 t = cR a 5 1 t) (day : Int32) : ∀ (k t : Nat), P t → kOwnF a' day k t = kOwnF a day k t
  | 0, t, ht => by
    obtain ⟨h1, h2, -⟩ := hs t ht
    show (if cI a' 5 0 t ≤ day then cI a' 5 2 t else -1) = (if cI a 5 0 t ≤ day then cI a 5 2 t else -1)
    rw [h1, h2]
  | k + 1, t, ht => by
    obtain ⟨h1, h2, h3⟩ := hs t ht
    show (if cI a' 5 0 t ≤ day then cI a' 5 2 t else match cR a' 5 1 t with | none => -1 | some t' => kOwnF a' day k t') = (if cI a 5 0 t ≤ day then cI a 5 2 t else match cR a 5 1 t with | none => -1 | some t' => kOwnF a day k t')
    rw [h1, h2, h3]
    cases hc : cR a 5 1 t with
    | none => rfl
    | some t' =>
      show (if _ then _ else kOwnF a' day k t') = (if _ then _ else kOwnF a day k t')
      rw [kOwnF_fr hP hs day k t' (hP t t' ht hc)]
/-- what the reference's changes tell after one more -/
theorem mOwn_more {x30 x31 x32 : Nat → Int32} {nch r q : Nat} (hr : r < 80) (hq : q < 80) {td h day : Int32} : mOwn (upd x30 nch (nI r)) (upd x31 nch td) (upd x32 nch h) (nch + 1) q day = if q = r then (if day < td then mOwn x30 x31 x32 nch q day else h) else mOwn x30 x31 x32 nch q day := by
  unfold mOwn
  rw [mLastF_snoc, Nat.zero_add]
  rw [mLastF_congr (f := mOwnF (upd x30 nch (nI r)) (upd x31 nch td) (upd x32 nch h) q day) (g := mOwnF x30 x31 x32 q day) nch 0 (-1) (fun i w _ hi => by
    have : i ≠ nch := by omega
    unfold mOwnF upd
    simp only [if_neg this])]
  have e30 : upd x30 nch (nI r) nch = nI r := if_pos rfl
  have e31 : upd x31 nch td nch = td := if_pos rfl
  have e32 : upd x32 nch h nch = h := if_pos rfl
  have hqr : (nI r = nI q) ↔ q = r := by
    rw [nI_eq (by omega) (by omega)]
    exact eq_comm
  show (if ¬ upd x30 nch (nI r) nch = nI q then _ else if day < upd x31 nch td nch then _ else upd x32 nch h nch) = _
  rw [e30, e31, e32]
  by_cases hh : q = r
  · rw [if_neg (fun z => z (hqr.mpr hh)), if_pos hh]
  · rw [if_pos (fun z => hh (hqr.mp z)), if_neg hh]
theorem mBecome_rd {b : MS} {r nch : Nat} {h : Int32} (hr : r < 80) (hn : b.1 29 = nI nch) (hnl : nch < 6000) : (mBecome b (nI r) h).1 = uS b.1 29 (nI (nch + 1)) ∧ (mBecome b (nI r) h).2.2 = b.2.2 ∧ (mBecome b (nI r) h).2.1 22 = upd (b.2.1 22) r h ∧ (mBecome b (nI r) h).2.1 28 = upd (b.2.1 28) r (-1) ∧ (mBecome b (nI r) h).2.1 30 = upd (b.2.1 30) nch (nI r) ∧ (mBecome b (nI r) h).2.1 31 = upd (b.2.1 31) nch (b.1 1) ∧ (mBecome b (nI r) h).2.1 32 = upd (b.2.1 32) nch h ∧ ∀ k, k ≠ 22 → k ≠ 28 → k ≠ 30 → k ≠ 31 → k ≠ 32 → (mBecome b (nI r) h).2.1 k = b.2.1 k := by
  have e : mBecome b (nI r) h = mS (mX (mX (mX (mX (mX b 22 (nI r) h) 28 (nI r) (-1)) 30 (nI nch) (nI r)) 31 (nI nch) (b.1 1)) 32 (nI nch) h) 29 (nI (nch + 1)) := by
    unfold mBecome
    rw [show gS b 29 = nI nch from hn, nI_1]
  have ex : ∀ k, (mBecome b (nI r) h).2.1 k = (mX (mX (mX (mX (mX b 22 (nI r) h) 28 (nI r) (-1)) 30 (nI nch) (nI r)) 31 (nI nch) (b.1 1)) 32 (nI nch) h).2.1 k := fun k => by rw [e]; rfl
  refine ⟨by rw [e]; rfl, by rw [e]; rfl, ?_, ?_, ?_, ?_, ?_, fun k h1 h2 h3 h4 h5 => ?_⟩
  · rw [ex, mX_ne _ (by decide), mX_ne _ (by decide), mX_ne _ (by decide), mX_ne _ (by decide), mX_at _ _ (by omega)]
  · rw [ex, mX_ne _ (by decide), mX_ne _ (by decide), mX_ne _ (by decide), mX_at _ _ (by omega), mX_ne _ (by decide)]
  · rw [ex, mX_ne _ (by decide), mX_ne _ (by decide), mX_at _ _ (by omega), mX_ne _ (by decide), mX_ne _ (by decide)]
  · rw [ex, mX_ne _ (by decide), mX_at _ _ (by omega), mX_ne _ (by decide), mX_ne _ (by decide), mX_ne _ (by decide)]
  · rw [ex, mX_at _ _ (by omega), mX_ne _ (by decide), mX_ne _ (by decide), mX_ne _ (by decide), mX_ne _ (by decide)]
  · rw [ex, mX_ne _ h5, mX_ne _ h4, mX_ne _ h3, mX_ne _ h2, mX_ne _ h1]
theorem sL_b : ∀ p ∈ sL, p.1 ≠ 22 ∧ p.1 ≠ 28 ∧ p.1 ≠ 30 ∧ p.1 ≠ 31 ∧ p.1 ≠ 32 ∧ p.1 ≠ 23 ∧ p.1 ≠ 24 ∧ p.1 ≠ 19 ∧ p.1 ≠ 10 ∧ p.1 ≠ 11 ∧ p.1 ≠ 26 ∧ p.1 ≠ 27 ∧ p.1 ≠ 44 ∧ p.1 ≠ 45 := by decide
/-- the class's tenures after a change of holder -/
theorem kCh_own {a : CS} {x30 x31 x32 : Nat → Int32} {nch : Nat} (tw : sOw a x30 x31 x32 nch) (ci : cInv a) {r : Nat} (hr : r < cL a 2) (h : Int32) (hten : cI a 6 10 0 < 4096) :
    sOw (kCh a r h) (upd x30 nch (nI r)) (upd x31 nch (cI a 6 9 0)) (upd x32 nch h) (nch + 1) ∧ (∀ q, q < cN a 3 → cI (kCh a r h) 5 2 (kT (kCh a r h) q) = if q = r then h else cI a 5 2 (kT a q)) ∧ (cI (kCh a r h) 6 10 0 = cI a 6 10 0 ∨ cI (kCh a r h) 6 10 0 = cI a 6 10 0 + 1) := by
  obtain ⟨hd, ⟨ow, o1, o2⟩, o3⟩ := tw
  have hrN : r < cN a 3 := by rw [← ci.2.1.1]; exact hr
  have h80 := ci.2.1.2
  have h83 : cN a 3 ≤ 80 := by have := ci.2.1.1; omega
  have htN : ∀ q, q < cN a 3 → kT a q < cN a 5 := fun q hq => (ci.1.1.1 q hq).2.2.2
  have hne : ∀ q, q < cN a 3 → q ≠ r → kT a q ≠ kT a r := fun q hq hn e => hn (by rw [← o1 q hq, e, o1 r hrN])
  by_cases hc : cI a 5 0 (kT a r) = cI a 6 9 0
  · -- the same day
    have e : kCh a r h = kChSame a r (kT a r) h := by unfold kCh; rw [if_pos hc]
    rw [e]
    have e0 : ∀ t, cI (kChSame a r (kT a r) h) 5 0 t = cI a 5 0 t := fun t => by
      show (kChSame a r (kT a r) h).2.1 5 0 t = _
      unfold kChSame kCh0
      rw [cSI_row, if_neg (by decide), cSR_I]
    have e2 : ∀ t, cI (kChSame a r (kT a r) h) 5 2 t = if t = kT a r then h else cI a 5 2 t := fun t => by
      show (kChSame a r (kT a r) h).2.1 5 2 t = _
      unfold kChSame kCh0
      rw [cSI_row, if_pos ⟨rfl, rfl⟩, cSR_I]
      rfl
    have eR : ∀ t, cR (kChSame a r (kT a r) h) 5 1 t = cR a 5 1 t := fun t => congrFun (u3_ne a.2.2.1 (j := 3) (k := 7) (j' := 5) (k' := 1) r none (by decide)) t
    have eT : ∀ q, kT (kChSame a r (kT a r) h) q = kT a q := fun q => by
      show (cR (kChSame a r (kT a r) h) 3 2 q).getD 0 = (cR a 3 2 q).getD 0
      rw [show cR (kChSame a r (kT a r) h) 3 2 q = cR a 3 2 q from congrFun (u3_ne a.2.2.1 (j := 3) (k := 7) (j' := 3) (k' := 2) r none (by decide)) q]
    have hd' : cDec (kChSame a r (kT a r) h) := fun t t' ht hq => hd t t' ht (by rwa [eR] at hq)
    refine ⟨⟨hd', ⟨ow, fun q hq => by rw [eT]; exact o1 q hq, fun t t' ht hq => o2 t t' ht (by rwa [eR] at hq)⟩, fun q hq day => ?_⟩, fun q hq => ?_, Or.inl ?_⟩
    · have hqN : q < cN a 3 := hq
      rw [eT, mOwn_more (by omega) (by omega), ← o3 q hqN day]
      by_cases hqr : q = r
      · subst hqr
        rw [if_pos rfl, kOwn_step hd' day (htN q hqN), kOwn_step hd day (htN q hqN), e0, e2, if_pos rfl, eR, hc]
        by_cases hl : cI a 6 9 0 ≤ day
        · rw [if_pos hl, if_neg (Int32.not_lt.mpr hl)]
        · rw [if_neg hl, if_pos (Int32.not_le.mp hl), if_neg hl]
          cases hb : cR a 5 1 (kT a q) with
          | none => rfl
          | some t' =>
            have hlt := hd _ t' (htN q hqN) hb
            show kOwn (kChSame a q (kT a q) h) day t' = kOwn a day t'
            unfold kOwn
            exact kOwnF_fr (P := fun t => t < kT a q) (fun t u ht hu => Nat.lt_trans (hd t u (Nat.lt_trans ht (htN q hqN)) hu) ht) (fun t ht => ⟨e0 t, by rw [e2, if_neg (Nat.ne_of_lt ht)], eR t⟩) day t' t' hlt
      · rw [if_neg hqr]
        unfold kOwn
        refine kOwnF_fr (P := fun t => t < cN a 5 ∧ ow t = q) (fun t u ht hu => ⟨Nat.lt_trans (hd t u ht.1 hu) ht.1, (o2 t u ht.1 hu).trans ht.2⟩) (fun t ht => ⟨e0 t, ?_, eR t⟩) day _ _ ⟨htN q hqN, o1 q hqN⟩
        rw [e2, if_neg]
        intro z
        rw [z, o1 r hrN] at ht
        exact hqr ht.2.symm
    · rw [eT, e2]
      by_cases hqr : q = r
      · rw [hqr, if_pos rfl, if_pos rfl]
      · rw [if_neg (hne q hq hqr), if_neg hqr]
    · show (kChSame a r (kT a r) h).2.1 6 10 0 = _
      unfold kChSame kCh0
      rw [cSI_row, if_neg (by decide), cSR_I]
  · -- another tenure
    have e : kCh a r h = kChNew a r (kT a r) h := by unfold kCh; rw [if_neg hc, if_pos hten]
    rw [e]
    generalize hA : kChNew a r (kT a r) h = a'
    have i0 : ∀ t, cI a' 5 0 t = if t = cN a 5 then cI a 6 9 0 else cI a 5 0 t := fun t => by
      rw [← hA]
      by_cases ht : t = cN a 5 <;> simp [kChNew, kCh0, cSI, cSR, cNew, cI, cN, u3, ht]
    have i2 : ∀ t, cI a' 5 2 t = if t = cN a 5 then h else cI a 5 2 t := fun t => by
      rw [← hA]
      by_cases ht : t = cN a 5 <;> simp [kChNew, kCh0, cSI, cSR, cNew, cI, cN, u3, ht]
    have r1 : ∀ t, cR a' 5 1 t = if t = cN a 5 then some (kT a r) else cR a 5 1 t := fun t => by
      rw [← hA]
      by_cases ht : t = cN a 5 <;> simp [kChNew, kCh0, cSI, cSR, cNew, cR, cN, u3, ht]
    have r2 : ∀ q, cR a' 3 2 q = if q = r then some (cN a 5) else cR a 3 2 q := fun q => by
      rw [← hA]
      by_cases hq : q = r <;> simp [kChNew, kCh0, cSI, cSR, cNew, cR, cN, u3, hq]
    have n5 : cN a' 5 = cN a 5 + 1 := by rw [← hA]; rfl
    have n3 : cN a' 3 = cN a 3 := by rw [← hA]; rfl
    have eT : ∀ q, kT a' q = if q = r then cN a 5 else kT a q := fun q => by
      unfold kT
      rw [r2]
      by_cases hq : q = r
      · rw [if_pos hq, if_pos hq]; rfl
      · rw [if_neg hq, if_neg hq]
    have hd' : cDec a' := fun t t' ht hq => by
      rw [r1] at hq
      by_cases htn : t = cN a 5
      · rw [if_pos htn] at hq
        cases hq
        rw [htn]
        exact htN r hrN
      · rw [if_neg htn] at hq
        exact hd t t' (by omega) hq
    have old : ∀ day q, q < cN a 3 → kOwn a' day (kT a q) = kOwn a day (kT a q) := fun day q hq => by
      unfold kOwn
      exact kOwnF_fr (P := fun t => t < cN a 5) (fun t u ht hu => Nat.lt_trans (hd t u ht hu) ht) (fun t ht => ⟨by rw [i0, if_neg (Nat.ne_of_lt ht)], by rw [i2, if_neg (Nat.ne_of_lt ht)], by rw [r1, if_neg (Nat.ne_of_lt ht)]⟩) day _ _ (htN q hq)
    refine ⟨⟨hd', ⟨fun t => if t = cN a 5 then r else ow t, fun q hq => ?_, fun t t' ht hq => ?_⟩, fun q hq day => ?_⟩, fun q hq => ?_, Or.inr ?_⟩
    · rw [n3] at hq
      show (if kT a' q = cN a 5 then r else ow (kT a' q)) = q
      rw [eT]
      by_cases hqr : q = r
      · rw [if_pos hqr, if_pos rfl, hqr]
      · rw [if_neg hqr, if_neg (Nat.ne_of_lt (htN q hq))]
        exact o1 q hq
    · rw [r1] at hq
      show (if t' = cN a 5 then r else ow t') = (if t = cN a 5 then r else ow t)
      by_cases htn : t = cN a 5
      · rw [if_pos htn] at hq
        cases hq
        rw [if_pos htn, if_neg (Nat.ne_of_lt (htN r hrN)), o1 r hrN]
      · rw [if_neg htn] at hq
        have htl : t < cN a 5 := by omega
        have hlt := hd t t' htl hq
        rw [if_neg htn, if_neg (by omega)]
        exact o2 t t' htl hq
    · rw [n3] at hq
      rw [eT, mOwn_more (by omega) (by omega), ← o3 q hq day]
      by_cases hqr : q = r
      · subst hqr
        rw [if_pos rfl, if_pos rfl, kOwn_step hd' day (by omega), i0, if_pos rfl, i2, if_pos rfl, r1, if_pos rfl]
        by_cases hl : cI a 6 9 0 ≤ day
        · rw [if_pos hl, if_neg (Int32.not_lt.mpr hl)]
        · rw [if_neg hl, if_pos (Int32.not_le.mp hl)]
          exact old day q hq
      · rw [if_neg hqr, if_neg hqr]
        exact old day q hq
    · rw [eT, i2]
      by_cases hqr : q = r
      · rw [if_pos hqr, if_pos rfl, if_pos hqr]
      · rw [if_neg hqr, if_neg hqr, if_neg (Nat.ne_of_lt (htN q hq))]
    · rw [← hA]
      simp [kChNew, kCh0, cSI, cSR, cNew, cI, cN, u3]
theorem sCn.lt {B nr : Nat} {S29 ten : Int32} {x25 x30 : Nat → Int32} (h : sCn B nr S29 x25 x30 ten) (hnr : nr ≤ 80) (hB : B ≤ 4000) : ten < 4096 ∧ vp_in S29 5600 := by
  obtain ⟨nch, tn, h1, h2, h3, h4, h5⟩ := h
  rw [h1, h2]
  exact ⟨nI_lt (b := 4096) (by omega) (by decide), vin_nI (by omega) (by decide)⟩
theorem SC.become {L : List (Nat × Nat × Nat)} (hL : sLok L) {B : Nat} {a : CS} {b : MS} (h : SC L B a b) (hB : B ≤ 4000) {r : Nat} (hr : r < cL a 2) {w : Int32} (hw : vp_in w 6) : SC L (B + 1) (kCh a r w) (mBecome b (nI r) w) := by
  obtain ⟨ci, e, sc, ct, ac, ow, gr, no, dl, ds, hd, pl, co, tw, wf, hs, sm, pe, de, ze, cn, rm, bt⟩ := h
  have h80 := ci.2.1.2
  have hrN : r < cN a 3 := by rw [← ci.2.1.1]; exact hr
  obtain ⟨htn, -⟩ := cn.lt h80 hB
  obtain ⟨nch, tn, c1, c2, c3, c4, c5⟩ := cn
  have ecl : (b.1 29).toNatClampNeg = nch := by rw [c1]; exact nI_clamp (by omega)
  rw [ecl] at tw
  obtain ⟨t1, t2, t3⟩ := kCh_own tw ci hr w htn
  obtain ⟨m1, m2, m22, m28, m30, m31, m32, mo⟩ := mBecome_rd (b := b) (r := r) (nch := nch) (h := w) (by omega) c1 (by omega)
  obtain ⟨r1, r2, r3⟩ := kCh_R (a := a) (r := r) (h := w)
  have q2 := kCh_rest a r w
  obtain ⟨l1, l2, l3⟩ := kCh_le (a := a) (r := r) w
  have eL : ∀ j, cL (kCh a r w) j = cL a j := fun j => congrFun l3 j
  have eD : kD (kCh a r w) = kD a := by funext q; unfold kD; rw [r1]
  have eS : kS (kCh a r w) = kS a := by funext q; unfold kS; rw [r2]
  have eS1 : ∀ k, k ≠ 29 → (mBecome b (nI r) w).1 k = b.1 k := fun k hk => by rw [m1]; exact if_neg hk
  have eS29 : (mBecome b (nI r) w).1 29 = nI (nch + 1) := by rw [m1]; exact if_pos rfl
  have e6 : ∀ k, k ≠ 10 → (kCh a r w).2.1 6 k = a.2.1 6 k := fun k hk => kCh_I (by decide) (fun z => hk z.2)
  refine ⟨ci.ofGr (kCh_gr r w) (kCh_ok w hrN ci.1) (by rw [eL, l2 3 (by decide)]; exact ci.2.1.1) (by rw [eL]; exact h80), ?_, ?_, ?_, ?_, ?_, ?_, ?_, ?_, ?_, ?_, ?_, ?_, ?_, mBecome_wf wf _ hw, ?_, ?_, ?_, ?_, ?_, ?_, ?_, ?_⟩
  · intro p hp
    obtain ⟨s1, s2, s3, s4, s5, -⟩ := sL_b p (hL p hp)
    have s6 := sL_6 p (hL p hp)
    rw [mo p.1 s1 s2 s3 s4 s5, e p hp, kCh_I s6.2.1 (fun z => s6.1 z.1)]
  · unfold sSc cI
    rw [eS1 1 (by decide), eS1 2 (by decide), eS1 3 (by decide), eS1 4 (by decide), e6 9 (by decide), e6 6 (by decide), e6 7 (by decide), e6 8 (by decide)]
    exact sc
  · unfold sCt
    rw [eS1 7 (by decide), eS1 13 (by decide), eS1 20 (by decide), eS1 33 (by decide), eL, eL, eL, eL]
    exact ct
  · rw [m2, q2]; exact ac
  · rw [mo 6 (by decide) (by decide) (by decide) (by decide) (by decide), q2]; exact ow
  · rw [mo 10 (by decide) (by decide) (by decide) (by decide) (by decide), mo 11 (by decide) (by decide) (by decide) (by decide) (by decide), kCh_I (by decide) (by decide), kCh_I (by decide) (by decide), kCh_I (by decide) (by decide)]; exact gr
  · rw [eL, eL, eL, eL, kCh_I (by decide) (by decide), kCh_I (by decide) (by decide), kCh_I (by decide) (by decide), kCh_I (by decide) (by decide)]; exact no
  · rw [eL, mo 23 (by decide) (by decide) (by decide) (by decide) (by decide), mo 24 (by decide) (by decide) (by decide) (by decide) (by decide), eD, eS]; exact dl
  · rw [eL, mo 19 (by decide) (by decide) (by decide) (by decide) (by decide), eS]; exact ds
  · rw [eL, m22]
    intro q hq
    show (if q = r then w else b.2.1 22 q) = cI (kCh a r w) 5 2 (kT (kCh a r w) q)
    rw [t2 q (by rw [← ci.2.1.1]; exact hq), show b.2.1 22 q = cI a 5 2 (kT a q) from hd q hq]
  · rw [eL, kCh_I (by decide) (by decide), kCh_I (by decide) (by decide), kCh_I (by decide) (by decide), mo 26 (by decide) (by decide) (by decide) (by decide) (by decide), mo 27 (by decide) (by decide) (by decide) (by decide) (by decide)]; exact pl
  · rw [eL, m28]
    intro q hq
    show (if q = r then (-1) else b.2.1 28 q) = sOI (cR (kCh a r w) 3 7 q)
    rw [r3]
    by_cases hqr : q = r
    · rw [if_pos hqr, if_pos hqr]; rfl
    · rw [if_neg hqr, if_neg hqr]; exact co q hq
  · rw [m30, m31, m32, eS29, nI_clamp (by omega), show b.1 1 = cI a 6 9 0 from sc.1]
    exact t1
  · rw [eL, mo 21 (by decide) (by decide) (by decide) (by decide) (by decide)]; exact hs
  · rw [eL, eL, mo 9 (by decide) (by decide) (by decide) (by decide) (by decide), mo 21 (by decide) (by decide) (by decide) (by decide) (by decide), mo 23 (by decide) (by decide) (by decide) (by decide) (by decide)]; exact sm
  · rw [eL, mo 21 (by decide) (by decide) (by decide) (by decide) (by decide), mo 25 (by decide) (by decide) (by decide) (by decide) (by decide)]; exact pe
  · rw [eL, mo 15 (by decide) (by decide) (by decide) (by decide) (by decide), mo 16 (by decide) (by decide) (by decide) (by decide) (by decide)]; exact de
  · rw [eL, eL, mo 9 (by decide) (by decide) (by decide) (by decide) (by decide), mo 12 (by decide) (by decide) (by decide) (by decide) (by decide), mo 41 (by decide) (by decide) (by decide) (by decide) (by decide), mo 42 (by decide) (by decide) (by decide) (by decide) (by decide), mo 43 (by decide) (by decide) (by decide) (by decide) (by decide)]; exact ze
  · rw [eL, eS29, mo 25 (by decide) (by decide) (by decide) (by decide) (by decide), m30]
    have hx : ∀ i, i < nch + 1 → ∃ q, q < cL a 2 ∧ upd (b.2.1 30) nch (nI r) i = nI q := fun i hi => by
      by_cases hin : i = nch
      · exact ⟨r, hr, if_pos hin⟩
      · obtain ⟨q, g1, g2⟩ := c5 i (by omega)
        exact ⟨q, g1, by rw [show upd (b.2.1 30) nch (nI r) i = b.2.1 30 i from if_neg hin]; exact g2⟩
    rcases t3 with t3 | t3
    · exact ⟨nch + 1, tn, rfl, by rw [t3]; exact c2, by omega, by omega, hx⟩
    · exact ⟨nch + 1, tn + 1, rfl, by rw [t3, c2, nI_1], by omega, by omega, hx⟩
  · rw [eL, mo 8 (by decide) (by decide) (by decide) (by decide) (by decide)]; exact rm
  · unfold sBt; rw [eS1 2 (by decide)]; exact bt
