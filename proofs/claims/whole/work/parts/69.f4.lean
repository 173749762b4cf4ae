/-! what holds aside from the sums; a receipt is made -/
def SN (L : List (Nat × Nat × Nat)) (B : Nat) (a : CS) (b : MS) : Prop :=
  cInv a ∧ sEq L a b ∧ sSc a b ∧ sCt a b ∧ b.2.2 = a.2.2.2.1 ∧ b.2.1 6 = a.2.2.2.2.1 ∧ sGr (b.2.1 10) (b.2.1 11) (a.2.1 4 4) (a.2.1 4 2) (a.2.1 4 3) ∧
  (sNo (cL a 0) (a.2.1 4 0) ∧ sNo (cL a 1) (a.2.1 2 0) ∧ sNo (cL a 2) (a.2.1 3 0) ∧ sNo (cL a 3) (a.2.1 1 0)) ∧
  sDl (cL a 2) (b.2.1 23) (b.2.1 24) (kD a) (fun r => kS a (kD a r)) ∧ sDs (cL a 1) (b.2.1 19) (kS a) ∧ sHd (cL a 2) (b.2.1 22) (fun r => cI a 5 2 (kT a r)) ∧ sPl (cL a 2) (a.2.1 3 4) (a.2.1 3 5) (a.2.1 3 6) (b.2.1 26) (b.2.1 27) ∧ sCo (cL a 2) (b.2.1 28) (fun r => cR a 3 7 r) ∧
  sOw a (b.2.1 30) (b.2.1 31) (b.2.1 32) (b.1 29).toNatClampNeg ∧ mWf b ∧ sHas (cL a 2) (b.2.1 21) ∧ sPe (cL a 2) (b.2.1 21) (b.2.1 25) ∧ sDe (cL a 1) (b.2.1 15) (b.2.1 16) ∧
  (sZ (cL a 0) (b.2.1 9) ∧ sZ (cL a 0) (b.2.1 12) ∧ sZ (cL a 3) (b.2.1 41) ∧ sZ (cL a 3) (b.2.1 42) ∧ sZ (cL a 3) (b.2.1 43)) ∧ sCn B (cL a 2) (b.1 29) (b.2.1 25) (b.2.1 30) (cI a 6 10 0) ∧ sRm (cL a 0) (b.2.1 8) ∧ sBt b
def SS (a : CS) (b : MS) : Prop := sSum (cL a 0) (cL a 2) (b.2.1 9) (b.2.1 21) (b.2.1 23)
theorem SC.sn {L : List (Nat × Nat × Nat)} {B : Nat} {a : CS} {b : MS} (h : SC L B a b) : SN L B a b ∧ SS a b := by
  obtain ⟨ci, e, sc, ct, ac, ow, gr, no, dl, ds, hd, pl, co, tw, wf, hs, sm, pe, de, ze, cn, rm, bt⟩ := h
  exact ⟨⟨ci, e, sc, ct, ac, ow, gr, no, dl, ds, hd, pl, co, tw, wf, hs, pe, de, ze, cn, rm, bt⟩, sm⟩
theorem SN.sc {L : List (Nat × Nat × Nat)} {B : Nat} {a : CS} {b : MS} (h : SN L B a b) (sm : SS a b) : SC L B a b := by
  obtain ⟨ci, e, sc, ct, ac, ow, gr, no, dl, ds, hd, pl, co, tw, wf, hs, pe, de, ze, cn, rm, bt⟩ := h
  exact ⟨ci, e, sc, ct, ac, ow, gr, no, dl, ds, hd, pl, co, tw, wf, hs, sm, pe, de, ze, cn, rm, bt⟩
/-- a paired change of one number -/
theorem SN.has {L : List (Nat × Nat × Nat)} (hL : sLok L) {B : Nat} {a : CS} {b : MS} (h : SN L B a b) {r : Nat} (hr : r < cL a 2) {v : Int32} (h0 : 0 ≤ v.toInt) (h4 : v.toInt ≤ 40000) (hp : v = 0 → b.2.1 25 r = -1) : SN L B (cSI a 3 3 r v) (mX b 21 (nI r) v) := by
  obtain ⟨ci, e, sc, ct, ac, ow, gr, no, dl, ds, hd, pl, co, tw, wf, hs, pe, de, ze, cn, rm, bt⟩ := h
  have h80 := ci.2.1.2
  have m21 : (mX b 21 (nI r) v).2.1 21 = upd (b.2.1 21) r v := mX_at b 21 (by omega) v
  refine ⟨ci.of rfl rfl rfl, e.set hL (p := (21, 3, 3)) (by decide) (by omega) v, sc, ct, ac, ow, gr, no, dl, ds, hd, pl, co, tw.to rfl rfl rfl, mWf_X (k := 21) wf _ trivial, ?_, ?_, de, ze, cn, rm, bt⟩
  · show sHas (cL a 2) ((mX b 21 (nI r) v).2.1 21)
    rw [m21]
    intro q hq
    by_cases hqr : q = r
    · rw [show upd (b.2.1 21) r v q = v from if_pos hqr]
      exact ⟨h0, h4⟩
    · rw [show upd (b.2.1 21) r v q = b.2.1 21 q from if_neg hqr]
      exact hs q hq
  · show sPe (cL a 2) ((mX b 21 (nI r) v).2.1 21) (b.2.1 25)
    rw [m21]
    intro q hq hz
    by_cases hqr : q = r
    · subst hqr
      rw [show upd (b.2.1 21) q v q = v from if_pos rfl] at hz
      exact hp hz
    · rw [show upd (b.2.1 21) r v q = b.2.1 21 q from if_neg hqr] at hz
      exact pe q hq hz
theorem SN.cont {L : List (Nat × Nat × Nat)} (hL : sLok L) {B : Nat} {a : CS} {b : MS} (h : SN L B a b) {s : Nat} (hs9 : s < cL a 0) {v : Int32} (hg : 0 < v → b.2.1 10 s = a.2.1 4 2 s ∧ b.2.1 11 s = a.2.1 4 3 s) : SN L B (cSI a 4 4 s v) (mX b 9 (nI s) v) := by
  obtain ⟨ci, e, sc, ct, ac, ow, gr, no, dl, ds, hd, pl, co, tw, wf, hs, pe, de, ze, cn, rm, bt⟩ := h
  have h6 := ci.2.2.1.2
  refine ⟨ci.of rfl rfl rfl, e.set hL (p := (9, 4, 4)) (by decide) (by omega) v, sc, ct, ac, ow, ?_, no, dl, ds, hd, pl, co, tw.to rfl rfl rfl, mWf_X (k := 9) wf _ trivial, hs, pe, de, ?_, cn, rm, bt⟩
  · show sGr (b.2.1 10) (b.2.1 11) ((cSI a 4 4 s v).2.1 4 4) (a.2.1 4 2) (a.2.1 4 3)
    rw [cSI_row, if_pos ⟨rfl, rfl⟩]
    intro q hq
    by_cases hqs : q = s
    · subst hqs
      rw [show upd (a.2.1 4 4) q v q = v from if_pos rfl] at hq
      exact hg hq
    · rw [show upd (a.2.1 4 4) s v q = a.2.1 4 4 q from if_neg hqs] at hq
      exact gr q hq
  · refine ⟨?_, ze.2⟩
    show sZ (cL a 0) ((mX b 9 (nI s) v).2.1 9)
    rw [mX_at b 9 (by omega) v]
    intro q hq
    rw [show upd (b.2.1 9) s v q = b.2.1 9 q from if_neg (by omega)]
    exact ze.1 q hq
theorem cInv_37 {a : CS} (ci : cInv a) {r : Nat} {x : Option Nat} (hx : ∀ y, x = some y → y < cN a 1) : cInv (cSR a 3 7 r x) := by
  refine ⟨⟨cWf_SR7 ci.1.1, cRwf_SR 3 7 r x hx ci.1.2⟩, ci.2⟩
theorem SN.con {L : List (Nat × Nat × Nat)} (hL : sLok L) {B : Nat} {a : CS} {b : MS} (h : SN L B a b) {r : Nat} (hr : r < cL a 2) {x : Option Nat} (hx : ∀ y, x = some y → y < cL a 3) : SN L B (cSR a 3 7 r x) (mX b 28 (nI r) (sOI x)) := by
  obtain ⟨ci, e, sc, ct, ac, ow, gr, no, dl, ds, hd, pl, co, tw, wf, hs, pe, de, ze, cn, rm, bt⟩ := h
  have h80 := ci.2.1.2
  have h33 := ci.2.2.2.2
  have e1 : ∀ q, cR (cSR a 3 7 r x) 3 1 q = cR a 3 1 q := fun q => rfl
  have e2 : ∀ q, cR (cSR a 3 7 r x) 2 4 q = cR a 2 4 q := fun q => rfl
  have e3 : ∀ q, cR (cSR a 3 7 r x) 3 2 q = cR a 3 2 q := fun q => rfl
  have e5 : ∀ q, cR (cSR a 3 7 r x) 5 1 q = cR a 5 1 q := fun q => rfl
  refine ⟨cInv_37 ci (fun y hy => by rw [← h33.1]; exact hx y hy), (e.setM (fun p hp => (sL_b p (hL p hp)).2.1) (nI r) (sOI x) : sEq L a _), sc, ct, ac, ow, gr, no, dl, ds, hd, pl, ?_, ?_, mWf_X (k := 28) wf _ ?_, hs, pe, de, ze, cn, rm, bt⟩
  · show sCo (cL a 2) ((mX b 28 (nI r) (sOI x)).2.1 28) (fun q => cR (cSR a 3 7 r x) 3 7 q)
    rw [mX_at b 28 (by omega)]
    intro q hq
    have e7 : cR (cSR a 3 7 r x) 3 7 q = if q = r then x else cR a 3 7 q := congrFun (u3_at a.2.2.1 3 7 r x) q
    show (if q = r then sOI x else b.2.1 28 q) = sOI (cR (cSR a 3 7 r x) 3 7 q)
    rw [e7]
    by_cases hqr : q = r
    · rw [if_pos hqr, if_pos hqr]
    · rw [if_neg hqr, if_neg hqr]; exact co q hq
  · obtain ⟨g1, ⟨o, g2, g3⟩, g4⟩ := tw
    refine ⟨g1, ⟨o, g2, g3⟩, fun q hq day => ?_⟩
    refine Eq.trans ?_ (g4 q hq day)
    exact kOwnF_to (a := a) (a' := cSR a 3 7 r x) rfl (by funext k i; exact congrFun (u3_ne a.2.2.1 (j := 3) (k := 7) (j' := 5) (k' := k) r x (fun z => by have := congrArg Prod.fst z; simp at this)) i) day _ _
  · cases x with
    | none => exact Or.inl rfl
    | some c => exact Or.inr (vin_nI (by have := hx c rfl; omega) (by decide))
/-! making -/
theorem kMake_I {a : CS} {d : Nat} {h kg : Int32} {j k : Nat} (h3 : j ≠ 3) (h5 : j ≠ 5) : (kMake a d h kg).2.1 j k = a.2.1 j k := by
  have n3 : ∀ q, ¬ (j = 3 ∧ k = q) := fun q z => h3 z.1
  have n5 : ∀ q, ¬ (j = 5 ∧ k = q) := fun q z => h5 z.1
  show (kMakeR a d h kg).2.1 j k = _
  unfold kMakeR kMakeT
  simp only [cSI_row, cSR_I, cNew_I, if_neg (n3 _), if_neg (n5 _), if_neg h3, if_neg h5]
theorem kMake_3 (a : CS) (d : Nat) (h kg : Int32) : (kMake a d h kg).2.1 3 0 = upd (a.2.1 3 0) (cN a 3) (nI (cL a 2)) ∧ (kMake a d h kg).2.1 3 3 = upd (a.2.1 3 3) (cN a 3) kg ∧ (kMake a d h kg).2.1 3 4 = upd (a.2.1 3 4) (cN a 3) (-1) ∧ (kMake a d h kg).2.1 3 5 = upd (a.2.1 3 5) (cN a 3) (-1) ∧ (kMake a d h kg).2.1 3 6 = upd (a.2.1 3 6) (cN a 3) (-1) := by
  refine ⟨?_, ?_, ?_, ?_, ?_⟩ <;> funext i <;> by_cases hi : i = cN a 3 <;> simp [kMake, kMakeR, kMakeT, cSL, cSI, cSR, cNew, u3, cI, cN, upd, hi]
theorem kMake_5 (a : CS) (d : Nat) (h kg : Int32) : (∀ t, cI (kMake a d h kg) 5 0 t = if t = cN a 5 then cI a 6 9 0 else cI a 5 0 t) ∧ (∀ t, cI (kMake a d h kg) 5 2 t = if t = cN a 5 then h else cI a 5 2 t) ∧ (∀ t, cR (kMake a d h kg) 5 1 t = if t = cN a 5 then none else cR a 5 1 t) := by
  refine ⟨fun t => ?_, fun t => ?_, fun t => ?_⟩ <;> by_cases ht : t = cN a 5 <;> simp [kMake, kMakeR, kMakeT, cSL, cSI, cSR, cNew, u3, cI, cR, cN, ht]
theorem kMake_R (a : CS) (d : Nat) (h kg : Int32) : (∀ q, cR (kMake a d h kg) 3 1 q = if q = cN a 3 then some d else cR a 3 1 q) ∧ (∀ q, cR (kMake a d h kg) 3 2 q = if q = cN a 3 then some (cN a 5) else cR a 3 2 q) ∧ (∀ q, cR (kMake a d h kg) 3 7 q = if q = cN a 3 then none else cR a 3 7 q) ∧ (∀ q, cR (kMake a d h kg) 2 4 q = cR a 2 4 q) := by
  refine ⟨fun q => ?_, fun q => ?_, fun q => ?_, fun q => ?_⟩
  · by_cases hq : q = cN a 3 <;> simp [kMake, kMakeR, kMakeT, cSL, cSI, cSR, cNew, u3, cR, cN, hq]
  · by_cases hq : q = cN a 3 <;> simp [kMake, kMakeR, kMakeT, cSL, cSI, cSR, cNew, u3, cR, cN, hq]
  · by_cases hq : q = cN a 3 <;> simp [kMake, kMakeR, kMakeT, cSL, cSI, cSR, cNew, u3, cR, cN, hq]
  · simp [kMake, kMakeR, kMakeT, cSL, cSI, cSR, cNew, u3, cR, cN]
theorem mMake_rd {b : MS} {nr nch : Nat} {much who s d : Int32} (hr : nr < 80) (h20 : b.1 20 = nI nr) (hn : b.1 29 = nI nch) (hnl : nch < 6000) :
    (mMake b much who s d).1 = uS (uS b.1 20 (nI (nr + 1))) 29 (nI (nch + 1)) ∧ (mMake b much who s d).2.2 = b.2.2 ∧ (mMake b much who s d).2.1 21 = upd (b.2.1 21) nr much ∧ (mMake b much who s d).2.1 23 = upd (b.2.1 23) nr s ∧ (mMake b much who s d).2.1 24 = upd (b.2.1 24) nr d ∧ (mMake b much who s d).2.1 25 = upd (b.2.1 25) nr (-1) ∧ (mMake b much who s d).2.1 22 = upd (b.2.1 22) nr who ∧ (mMake b much who s d).2.1 28 = upd (b.2.1 28) nr (-1) ∧ (mMake b much who s d).2.1 30 = upd (b.2.1 30) nch (nI nr) ∧ (mMake b much who s d).2.1 31 = upd (b.2.1 31) nch (b.1 1) ∧ (mMake b much who s d).2.1 32 = upd (b.2.1 32) nch who ∧
    ∀ k, k ≠ 21 → k ≠ 22 → k ≠ 23 → k ≠ 24 → k ≠ 25 → k ≠ 28 → k ≠ 30 → k ≠ 31 → k ≠ 32 → (mMake b much who s d).2.1 k = b.2.1 k := by
  have e : mMake b much who s d = mBecome (mS (mX (mX (mX (mX b 21 (nI nr) much) 23 (nI nr) s) 24 (nI nr) d) 25 (nI nr) (-1)) 20 (nI (nr + 1))) (nI nr) who := by
    unfold mMake
    simp only
    rw [show gS b 20 = nI nr from h20, show gS (mX b 21 (nI nr) much) 20 = nI nr from h20, show gS (mX (mX b 21 (nI nr) much) 23 (nI nr) s) 20 = nI nr from h20, show gS (mX (mX (mX b 21 (nI nr) much) 23 (nI nr) s) 24 (nI nr) d) 20 = nI nr from h20, show gS (mX (mX (mX (mX b 21 (nI nr) much) 23 (nI nr) s) 24 (nI nr) d) 25 (nI nr) (-1)) 20 = nI nr from h20, nI_1]
    have e20 : gS (mS (mX (mX (mX (mX b 21 (nI nr) much) 23 (nI nr) s) 24 (nI nr) d) 25 (nI nr) (-1)) 20 (nI (nr + 1))) 20 = nI (nr + 1) := by simp [gS, mS, uS]
    rw [e20, nI_pred]
  rw [e]
  obtain ⟨m1, m2, m22, m28, m30, m31, m32, mo⟩ := mBecome_rd (b := mS (mX (mX (mX (mX b 21 (nI nr) much) 23 (nI nr) s) 24 (nI nr) d) 25 (nI nr) (-1)) 20 (nI (nr + 1))) (r := nr) (nch := nch) (h := who) hr (show uS b.1 20 (nI (nr + 1)) 29 = nI nch from hn) hnl
  have ex : ∀ k, (mS (mX (mX (mX (mX b 21 (nI nr) much) 23 (nI nr) s) 24 (nI nr) d) 25 (nI nr) (-1)) 20 (nI (nr + 1))).2.1 k = (mX (mX (mX (mX b 21 (nI nr) much) 23 (nI nr) s) 24 (nI nr) d) 25 (nI nr) (-1)).2.1 k := fun k => rfl
  have e22 : (mX (mX (mX (mX b 21 (nI nr) much) 23 (nI nr) s) 24 (nI nr) d) 25 (nI nr) (-1)).2.1 22 = b.2.1 22 := by rw [mX_ne _ (by decide), mX_ne _ (by decide), mX_ne _ (by decide), mX_ne _ (by decide)]
  have e28 : (mX (mX (mX (mX b 21 (nI nr) much) 23 (nI nr) s) 24 (nI nr) d) 25 (nI nr) (-1)).2.1 28 = b.2.1 28 := by rw [mX_ne _ (by decide), mX_ne _ (by decide), mX_ne _ (by decide), mX_ne _ (by decide)]
  have e30 : (mX (mX (mX (mX b 21 (nI nr) much) 23 (nI nr) s) 24 (nI nr) d) 25 (nI nr) (-1)).2.1 30 = b.2.1 30 := by rw [mX_ne _ (by decide), mX_ne _ (by decide), mX_ne _ (by decide), mX_ne _ (by decide)]
  have e31 : (mX (mX (mX (mX b 21 (nI nr) much) 23 (nI nr) s) 24 (nI nr) d) 25 (nI nr) (-1)).2.1 31 = b.2.1 31 := by rw [mX_ne _ (by decide), mX_ne _ (by decide), mX_ne _ (by decide), mX_ne _ (by decide)]
  have e32 : (mX (mX (mX (mX b 21 (nI nr) much) 23 (nI nr) s) 24 (nI nr) d) 25 (nI nr) (-1)).2.1 32 = b.2.1 32 := by rw [mX_ne _ (by decide), mX_ne _ (by decide), mX_ne _ (by decide), mX_ne _ (by decide)]
  refine ⟨m1, m2, ?_, ?_, ?_, ?_, by rw [m22, ex, e22], by rw [m28, ex, e28], by rw [m30, ex, e30], by rw [m31, ex, e31]; rfl, by rw [m32, ex, e32], fun k h1 h2 h3 h4 h5 h6 h7 h8 h9 => ?_⟩
  · rw [mo 21 (by decide) (by decide) (by decide) (by decide) (by decide), ex, mX_ne _ (by decide), mX_ne _ (by decide), mX_ne _ (by decide), mX_at _ _ (by omega)]
  · rw [mo 23 (by decide) (by decide) (by decide) (by decide) (by decide), ex, mX_ne _ (by decide), mX_ne _ (by decide), mX_at _ _ (by omega), mX_ne _ (by decide)]
  · rw [mo 24 (by decide) (by decide) (by decide) (by decide) (by decide), ex, mX_ne _ (by decide), mX_at _ _ (by omega), mX_ne _ (by decide), mX_ne _ (by decide)]
  · rw [mo 25 (by decide) (by decide) (by decide) (by decide) (by decide), ex, mX_at _ _ (by omega), mX_ne _ (by decide), mX_ne _ (by decide), mX_ne _ (by decide)]
  · rw [mo k h2 h6 h7 h8 h9, ex, mX_ne _ h5, mX_ne _ h4, mX_ne _ h3, mX_ne _ h1]
theorem sL_3 : ∀ p ∈ sL, p ≠ (21, 3, 3) → p ≠ (25, 3, 4) → p.2.1 ≠ 3 ∧ p.1 ≠ 21 ∧ p.1 ≠ 25 := by decide
theorem mOwn_none {x30 x31 x32 : Nat → Int32} {nr : Nat} (hr : nr < 80) {day : Int32} : ∀ {nch : Nat}, (∀ i, i < nch → ∃ q, q < nr ∧ x30 i = nI q) → mOwn x30 x31 x32 nch nr day = -1
  | 0, _ => rfl
  | n + 1, h => by
    unfold mOwn
    rw [mLastF_snoc, Nat.zero_add]
    obtain ⟨q, g1, g2⟩ := h n (Nat.lt_succ_self n)
    show (if ¬ x30 n = nI nr then _ else _) = _
    rw [if_pos (fun z => by
      rw [g2] at z
      have := (nI_eq (by omega) (by omega)).mp z
      omega)]
    exact mOwn_none hr (nch := n) (fun i hi => h i (by omega))
theorem SN.make {L : List (Nat × Nat × Nat)} (hL : sLok L) {B : Nat} {a : CS} {b : MS} (h : SN L B a b) (hB : B ≤ 4000) (hr : cL a 2 < 80) {d : Nat} (hd9 : d < cL a 1) {w kg : Int32} (hw : vp_in w 6) (hk : 0 < kg.toInt ∧ kg.toInt ≤ 40000) : SN L B (kMake a d w kg) (mMake b kg w (nI (kS a d)) (nI d)) := by
  obtain ⟨ci, e, sc, ct, ac, ow, gr, no, dl, ds, hd, pl, co, tw, wf, hs, pe, de, ze, cn, rm, bt⟩ := h
  have hn3 : cN a 3 = cL a 2 := ci.2.1.1.symm
  have h83 : cN a 3 < 80 := by omega
  have hd40 := ci.2.2.2.1.2
  have hdN : d < cN a 2 := by rw [← ci.2.2.2.1.1]; exact hd9
  have hs6 : kS a d < 6 := Nat.lt_of_lt_of_le (ci.1.1.2.1 d hdN).2 (by rw [← ci.2.2.1.1]; exact ci.2.2.1.2)
  obtain ⟨nch, tn, c1, c2, c3, c4, c5⟩ := cn
  have ecl : (b.1 29).toNatClampNeg = nch := by rw [c1]; exact nI_clamp (by omega)
  rw [ecl] at tw
  obtain ⟨m1, m2, m21, m23, m24, m25, m22, m28, m30, m31, m32, mo⟩ := mMake_rd (b := b) (nr := cL a 2) (nch := nch) (much := kg) (who := w) (s := nI (kS a d)) (d := nI d) hr ct.2.2.1 c1 (by omega)
  obtain ⟨k30, k33, k34, k35, k36⟩ := kMake_3 a d w kg
  obtain ⟨k50, k52, r51⟩ := kMake_5 a d w kg
  obtain ⟨r31, r32, r37, r24⟩ := kMake_R a d w kg
  rw [hn3] at k30 k33 k34 k35 k36
  simp only [hn3] at r31 r32 r37
  have n5 : cN (kMake a d w kg) 5 = cN a 5 + 1 := rfl
  have nN3 : cN (kMake a d w kg) 3 = cL a 2 + 1 := by rw [← hn3]; rfl
  have eS1 : ∀ k, k ≠ 29 → k ≠ 20 → (mMake b kg w (nI (kS a d)) (nI d)).1 k = b.1 k := fun k hk hk2 => by
    rw [m1]
    show (if k = 29 then _ else (if k = 20 then _ else b.1 k)) = _
    rw [if_neg hk, if_neg hk2]
  have eS29 : (mMake b kg w (nI (kS a d)) (nI d)).1 29 = nI (nch + 1) := by rw [m1]; exact if_pos rfl
  have eS20 : (mMake b kg w (nI (kS a d)) (nI d)).1 20 = nI (cL a 2 + 1) := by
    rw [m1]
    show (if 20 = 29 then _ else (if 20 = 20 then _ else b.1 20)) = _
    rw [if_neg (by decide), if_pos rfl]
  have eD : ∀ q, kD (kMake a d w kg) q = if q = cL a 2 then d else kD a q := fun q => by
    unfold kD
    rw [r31]
    by_cases hq : q = cL a 2
    · rw [if_pos hq, if_pos hq]; rfl
    · rw [if_neg hq, if_neg hq]
  have eS : kS (kMake a d w kg) = kS a := by funext q; unfold kS; rw [r24]
  have eT : ∀ q, kT (kMake a d w kg) q = if q = cL a 2 then cN a 5 else kT a q := fun q => by
    unfold kT
    rw [r32]
    by_cases hq : q = cL a 2
    · rw [if_pos hq, if_pos hq]; rfl
    · rw [if_neg hq, if_neg hq]
  have htN : ∀ q, q < cL a 2 → kT a q < cN a 5 := fun q hq => (ci.1.1.1 q (by omega)).2.2.2
  have lt1 : ∀ q, q < cL a 2 + 1 → q ≠ cL a 2 → q < cL a 2 := fun q h1 h2 => by omega
  have u21 : ∀ {f : Nat → Int32} {v : Int32} {q : Nat}, upd f (cL a 2) v q = if q = cL a 2 then v else f q := rfl
  have eL2 : cL (kMake a d w kg) 2 = cL a 2 + 1 := rfl
  have kI : ∀ {j k : Nat}, j ≠ 3 → j ≠ 5 → (kMake a d w kg).2.1 j k = a.2.1 j k := fun a1 a2 => kMake_I a1 a2
  have ok := kMake_ok ci.1 hdN w kg ci.2.1.1
  refine ⟨ci.ofGr (kMake_gr d w kg) ok (by rw [eL2, nN3]) (by rw [eL2]; omega), ?_, ?_, ?_, ?_, ?_, ?_, ?_, ?_, ?_, ?_, ?_, ?_, ?_, mMake_wf wf kg hw (vin_nI hs6 (by decide)) (vin_nI (by omega) (by decide)), ?_, ?_, ?_, ?_, ?_, ?_, ?_⟩
  · intro p hp
    by_cases a1 : p = (21, 3, 3)
    · subst a1
      show _ = (kMake a d w kg).2.1 3 3
      rw [m21, k33, e _ hp]
    · by_cases a2 : p = (25, 3, 4)
      · subst a2
        show _ = (kMake a d w kg).2.1 3 4
        rw [m25, k34, e _ hp]
      · obtain ⟨g1, g2, g3⟩ := sL_3 p (hL p hp) a1 a2
        obtain ⟨s1, s2, s3, s4, s5, s6, s7, -⟩ := sL_b p (hL p hp)
        rw [mo p.1 g2 s1 s6 s7 g3 s2 s3 s4 s5, e p hp, kI g1 (sL_6 p (hL p hp)).2.1]
  · unfold sSc cI
    rw [eS1 1 (by decide) (by decide), eS1 2 (by decide) (by decide), eS1 3 (by decide) (by decide), eS1 4 (by decide) (by decide), kI (by decide) (by decide), kI (by decide) (by decide), kI (by decide) (by decide), kI (by decide) (by decide)]
    exact sc
  · refine ⟨?_, ?_, eS20, ?_⟩
    · rw [eS1 7 (by decide) (by decide)]; exact ct.1
    · rw [eS1 13 (by decide) (by decide)]; exact ct.2.1
    · rw [eS1 33 (by decide) (by decide)]; exact ct.2.2.2
  · rw [m2]; exact ac
  · rw [mo 6 (by decide) (by decide) (by decide) (by decide) (by decide) (by decide) (by decide) (by decide) (by decide)]; exact ow
  · rw [mo 10 (by decide) (by decide) (by decide) (by decide) (by decide) (by decide) (by decide) (by decide) (by decide), mo 11 (by decide) (by decide) (by decide) (by decide) (by decide) (by decide) (by decide) (by decide) (by decide), kI (by decide) (by decide), kI (by decide) (by decide), kI (by decide) (by decide)]; exact gr
  · refine ⟨?_, ?_, ?_, ?_⟩
    · rw [kI (by decide) (by decide)]; exact no.1
    · rw [kI (by decide) (by decide)]; exact no.2.1
    · rw [eL2, k30]
      intro q hq
      rw [u21]
      by_cases hqr : q = cL a 2
      · rw [if_pos hqr, hqr]
      · rw [if_neg hqr]; exact no.2.2.1 q (lt1 q hq hqr)
    · rw [kI (by decide) (by decide)]; exact no.2.2.2
  · rw [eL2, m23, m24]
    intro q hq
    show upd (b.2.1 24) (cL a 2) (nI d) q = nI (kD (kMake a d w kg) q) ∧ upd (b.2.1 23) (cL a 2) (nI (kS a d)) q = nI (kS (kMake a d w kg) (kD (kMake a d w kg) q))
    rw [u21, u21, eD, eS]
    by_cases hqr : q = cL a 2
    · rw [if_pos hqr, if_pos hqr, if_pos hqr]; exact ⟨rfl, rfl⟩
    · rw [if_neg hqr, if_neg hqr, if_neg hqr]; exact dl q (lt1 q hq hqr)
  · rw [mo 19 (by decide) (by decide) (by decide) (by decide) (by decide) (by decide) (by decide) (by decide) (by decide), eS]; exact ds
  · rw [eL2, m22]
    intro q hq
    show upd (b.2.1 22) (cL a 2) w q = cI (kMake a d w kg) 5 2 (kT (kMake a d w kg) q)
    rw [u21, eT, k52]
    by_cases hqr : q = cL a 2
    · rw [if_pos hqr, if_pos hqr, if_pos rfl]
    · rw [if_neg hqr, if_neg hqr, if_neg (Nat.ne_of_lt (htN q (lt1 q hq hqr)))]; exact hd q (lt1 q hq hqr)
  · rw [eL2, k34, k35, k36, mo 26 (by decide) (by decide) (by decide) (by decide) (by decide) (by decide) (by decide) (by decide) (by decide), mo 27 (by decide) (by decide) (by decide) (by decide) (by decide) (by decide) (by decide) (by decide) (by decide)]
    intro q hq
    rw [u21, u21, u21]
    by_cases hqr : q = cL a 2
    · rw [if_pos hqr, if_pos hqr, if_pos hqr]; exact ⟨fun z => absurd rfl z, fun _ => ⟨rfl, rfl⟩⟩
    · rw [if_neg hqr, if_neg hqr, if_neg hqr]; exact pl q (lt1 q hq hqr)
  · rw [eL2, m28]
    intro q hq
    show upd (b.2.1 28) (cL a 2) (-1) q = sOI (cR (kMake a d w kg) 3 7 q)
    rw [u21, r37]
    by_cases hqr : q = cL a 2
    · rw [if_pos hqr, if_pos hqr]; rfl
    · rw [if_neg hqr, if_neg hqr]; exact co q (lt1 q hq hqr)
  · rw [m30, m31, m32, eS29, nI_clamp (by omega), show b.1 1 = cI a 6 9 0 from sc.1]
    obtain ⟨hdc, ⟨o, o1, o2⟩, o3⟩ := tw
    have hd' : cDec (kMake a d w kg) := fun t t' ht hq => by
      rw [r51] at hq
      by_cases htn : t = cN a 5
      · rw [if_pos htn] at hq; cases hq
      · rw [if_neg htn] at hq
        exact hdc t t' (by omega) hq
    refine ⟨hd', ⟨fun t => if t = cN a 5 then cL a 2 else o t, fun q hq => ?_, fun t t' ht hq => ?_⟩, fun q hq day => ?_⟩
    · rw [nN3] at hq
      show (if kT (kMake a d w kg) q = cN a 5 then cL a 2 else o (kT (kMake a d w kg) q)) = q
      rw [eT]
      by_cases hqr : q = cL a 2
      · rw [if_pos hqr, if_pos rfl, hqr]
      · rw [if_neg hqr, if_neg (Nat.ne_of_lt (htN q (lt1 q hq hqr)))]
        exact o1 q (by rw [hn3]; exact lt1 q hq hqr)
    · rw [r51] at hq
      show (if t' = cN a 5 then cL a 2 else o t') = (if t = cN a 5 then cL a 2 else o t)
      by_cases htn : t = cN a 5
      · rw [if_pos htn] at hq; cases hq
      · rw [if_neg htn] at hq
        have htl : t < cN a 5 := by omega
        have hlt := hdc t t' htl hq
        rw [if_neg htn, if_neg (by omega)]
        exact o2 t t' htl hq
    · rw [nN3] at hq
      rw [eT, mOwn_more hr (by omega)]
      by_cases hqr : q = cL a 2
      · subst hqr
        rw [if_pos rfl, if_pos rfl, kOwn_step hd' day (by omega), k50, if_pos rfl, k52, if_pos rfl, r51, if_pos rfl, mOwn_none hr c5]
        by_cases hl : cI a 6 9 0 ≤ day
        · rw [if_pos hl, if_neg (Int32.not_lt.mpr hl)]
        · rw [if_neg hl, if_pos (Int32.not_le.mp hl)]
      · rw [if_neg hqr, if_neg hqr, ← o3 q (by rw [hn3]; exact lt1 q hq hqr) day]
        unfold kOwn
        exact kOwnF_fr (P := fun t => t < cN a 5) (fun t u ht hu => Nat.lt_trans (hdc t u ht hu) ht) (fun t ht => ⟨by rw [k50, if_neg (Nat.ne_of_lt ht)], by rw [k52, if_neg (Nat.ne_of_lt ht)], by rw [r51, if_neg (Nat.ne_of_lt ht)]⟩) day _ _ (htN q (lt1 q hq hqr))
  · rw [eL2, m21]
    intro q hq
    rw [u21]
    by_cases hqr : q = cL a 2
    · rw [if_pos hqr]; omega
    · rw [if_neg hqr]; exact hs q (lt1 q hq hqr)
  · rw [eL2, m21, m25]
    intro q hq hz
    rw [u21] at hz ⊢
    by_cases hqr : q = cL a 2
    · rw [if_pos hqr]
    · rw [if_neg hqr] at hz ⊢; exact pe q (lt1 q hq hqr) hz
  · rw [mo 15 (by decide) (by decide) (by decide) (by decide) (by decide) (by decide) (by decide) (by decide) (by decide), mo 16 (by decide) (by decide) (by decide) (by decide) (by decide) (by decide) (by decide) (by decide) (by decide)]; exact de
  · rw [mo 9 (by decide) (by decide) (by decide) (by decide) (by decide) (by decide) (by decide) (by decide) (by decide), mo 12 (by decide) (by decide) (by decide) (by decide) (by decide) (by decide) (by decide) (by decide) (by decide), mo 41 (by decide) (by decide) (by decide) (by decide) (by decide) (by decide) (by decide) (by decide) (by decide), mo 42 (by decide) (by decide) (by decide) (by decide) (by decide) (by decide) (by decide) (by decide) (by decide), mo 43 (by decide) (by decide) (by decide) (by decide) (by decide) (by decide) (by decide) (by decide) (by decide)]; exact ze
  · rw [eL2, eS29, m25, m30]
    refine ⟨nch + 1, tn, rfl, ?_, by omega, ?_, fun i hi => ?_⟩
    · show (kMake a d w kg).2.1 6 10 0 = _
      rw [kI (by decide) (by decide)]; exact c2
    · have ep : nPl (upd (b.2.1 25) (cL a 2) (-1)) (cL a 2 + 1) = nPl (b.2.1 25) (cL a 2) := by
        show nPl (upd (b.2.1 25) (cL a 2) (-1)) (cL a 2) + (if upd (b.2.1 25) (cL a 2) (-1) (cL a 2) = -1 then 0 else 1) = _
        rw [show upd (b.2.1 25) (cL a 2) (-1) (cL a 2) = -1 from if_pos rfl, if_pos rfl, nPl_congr (x := upd (b.2.1 25) (cL a 2) (-1)) (y := b.2.1 25) (fun i hi => if_neg (Nat.ne_of_lt hi))]
        rfl
      omega
    · by_cases hin : i = nch
      · exact ⟨cL a 2, Nat.lt_succ_self _, if_pos hin⟩
      · obtain ⟨q, g1, g2⟩ := c5 i (by omega)
        exact ⟨q, by omega, by rw [show upd (b.2.1 30) nch (nI (cL a 2)) i = b.2.1 30 i from if_neg hin]; exact g2⟩
  · rw [mo 8 (by decide) (by decide) (by decide) (by decide) (by decide) (by decide) (by decide) (by decide) (by decide)]; exact rm
  · unfold sBt; rw [eS1 2 (by decide) (by decide)]; exact bt
