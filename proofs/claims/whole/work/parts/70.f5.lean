/-! split, put in, given, forfeited -/
theorem MS_ext {b b' : MS} (h1 : b.1 = b'.1) (h2 : ∀ k, b.2.1 k = b'.2.1 k) (h3 : b.2.2 = b'.2.2) : b = b' := Prod.ext h1 (Prod.ext (funext h2) h3)
theorem mX_1 (b : MS) (k : Nat) (i x : Int32) : (mX b k i x).1 = b.1 := rfl
theorem mX_22 (b : MS) (k : Nat) (i x : Int32) : (mX b k i x).2.2 = b.2.2 := rfl
theorem mXS (b : MS) (j k : Nat) (y i x : Int32) : mX (mS b j y) k i x = mS (mX b k i x) j y := rfl
theorem mX_comm (b : MS) {k k' : Nat} (h : k ≠ k') (i x i' x' : Int32) : mX (mX b k i x) k' i' x' = mX (mX b k' i' x') k i x := by
  refine MS_ext (by rw [mX_1, mX_1, mX_1, mX_1]) (fun q => ?_) (by rw [mX_22, mX_22, mX_22, mX_22])
  by_cases h1 : q = k
  · subst h1
    rw [mX_ne _ h]
    show u2 b.2.1 q i.toNatClampNeg x q = u2 (mX b k' i' x').2.1 q i.toNatClampNeg x q
    rw [u2_same, u2_same, mX_ne b h]
  · rw [mX_ne (mX b k' i' x') h1]
    by_cases h2 : q = k'
    · subst h2
      show u2 (mX b k i x).2.1 q i'.toNatClampNeg x' q = u2 b.2.1 q i'.toNatClampNeg x' q
      rw [u2_same, u2_same, mX_ne b h1]
    · rw [mX_ne _ h2, mX_ne b h1, mX_ne b h2]
theorem mX_comm2 (b : MS) (k : Nat) {i j : Nat} (hi : i < 2 ^ 31) (hj : j < 2 ^ 31) (h : i ≠ j) (x y : Int32) : mX (mX b k (nI i) x) k (nI j) y = mX (mX b k (nI j) y) k (nI i) x := by
  refine MS_ext (by rw [mX_1, mX_1, mX_1, mX_1]) (fun q => ?_) (by rw [mX_22, mX_22, mX_22, mX_22])
  by_cases h1 : q = k
  · subst h1
    rw [mX_at _ _ hj, mX_at _ _ hi, mX_at _ _ hi, mX_at _ _ hj]
    funext n
    unfold upd
    by_cases a : n = i
    · rw [if_neg (fun z => h (a.symm.trans z)), if_pos a, if_pos a]
    · rw [if_neg a, if_neg a]
  · rw [mX_ne _ h1, mX_ne _ h1, mX_ne _ h1, mX_ne _ h1]
theorem mBecome_comm (b : MS) {k : Nat} (h : k ≠ 22 ∧ k ≠ 28 ∧ k ≠ 30 ∧ k ≠ 31 ∧ k ≠ 32) (i x r w : Int32) : mBecome (mX b k i x) r w = mX (mBecome b r w) k i x := by
  unfold mBecome
  rw [show gS (mX b k i x) 29 = gS b 29 from rfl, show gS (mX b k i x) 1 = gS b 1 from rfl]
  rw [mX_comm b h.1, mX_comm _ h.2.1, mX_comm _ h.2.2.1, mX_comm _ h.2.2.2.1, mX_comm _ h.2.2.2.2]
  rfl
theorem mMake_comm {b : MS} {r nr : Nat} (h20 : b.1 20 = nI nr) (hr : r < 80) (hn : nr < 80) (hne : r ≠ nr) (v much w s d : Int32) : mMake (mX b 21 (nI r) v) much w s d = mX (mMake b much w s d) 21 (nI r) v := by
  have e : ∀ X : MS, X.1 20 = nI nr → mMake X much w s d = mBecome (mS (mX (mX (mX (mX X 21 (nI nr) much) 23 (nI nr) s) 24 (nI nr) d) 25 (nI nr) (-1)) 20 (nI nr + 1)) (nI nr + 1 - 1) w := by
    intro X hX
    unfold mMake
    simp only
    rw [show gS X 20 = nI nr from hX, show gS (mX X 21 (nI nr) much) 20 = nI nr from hX, show gS (mX (mX X 21 (nI nr) much) 23 (nI nr) s) 20 = nI nr from hX, show gS (mX (mX (mX X 21 (nI nr) much) 23 (nI nr) s) 24 (nI nr) d) 20 = nI nr from hX, show gS (mX (mX (mX (mX X 21 (nI nr) much) 23 (nI nr) s) 24 (nI nr) d) 25 (nI nr) (-1)) 20 = nI nr from hX]
    have e20 : gS (mS (mX (mX (mX (mX X 21 (nI nr) much) 23 (nI nr) s) 24 (nI nr) d) 25 (nI nr) (-1)) 20 (nI nr + 1)) 20 = nI nr + 1 := by simp [gS, mS, uS]
    rw [e20]
  rw [e (mX b 21 (nI r) v) h20, e b h20]
  rw [mX_comm2 b 21 (by omega) (by omega) hne, mX_comm _ (by decide : 21 ≠ 23), mX_comm _ (by decide : 21 ≠ 24), mX_comm _ (by decide : 21 ≠ 25)]
  rw [← mXS, mBecome_comm _ (by decide)]
theorem sI_snoc (f : Nat → Int) (n : Nat) : sI f (n + 1) = sI f n + f n := rfl
theorem SC.hd6 {L : List (Nat × Nat × Nat)} {B : Nat} {a : CS} {b : MS} (h : SC L B a b) {r : Nat} (hr : r < cL a 2) : vp_in (cI a 5 2 (kT a r)) 6 := by
  obtain ⟨ci, e, sc, ct, ac, ow, gr, no, dl, ds, hd, pl, co, tw, wf, -⟩ := h
  rw [← show b.2.1 22 r = cI a 5 2 (kT a r) from hd r hr]
  exact wf 22 r
theorem SC.splitOff {L : List (Nat × Nat × Nat)} (hL : sLok L) (h21 : (21, 3, 3) ∈ L) {B : Nat} {a : CS} {b : MS} (h : SC L B a b) (hB : B ≤ 4000) {r : Nat} (hr : r < cL a 2) (h80 : cL a 2 < 80) {kg : Int32} (h0 : 0 < kg.toInt) (hk : kg.toInt < (b.2.1 21 r).toInt) :
    SC L B (kSplitOff a r kg) (mSplitOff b (nI r) kg) ∧ (∀ q, q ≠ 21 → q ≠ 22 → q ≠ 23 → q ≠ 24 → q ≠ 25 → q ≠ 28 → q ≠ 30 → q ≠ 31 → q ≠ 32 → (mSplitOff b (nI r) kg).2.1 q = b.2.1 q) ∧ (mSplitOff b (nI r) kg).1 20 = nI (cL a 2 + 1) ∧ ∀ k, k ≠ 20 → k ≠ 29 → (mSplitOff b (nI r) kg).1 k = b.1 k := by
  have hw := h.hd6 hr
  obtain ⟨sn, sm⟩ := h.sn
  obtain ⟨ci, e, sc, ct, ac, ow, gr, no, dl, ds, hd, pl, co, tw, wf, hs, pe, de, ze, cn, rm, bt⟩ := id sn
  have hn3 : cN a 3 = cL a 2 := ci.2.1.1.symm
  have hdN := (ci.1.1.1 r (by omega)).2.1
  have hd1 : kD a r < cL a 1 := by rw [ci.2.2.2.1.1]; exact hdN
  have hs0 : kS a (kD a r) < cL a 0 := by rw [ci.2.2.1.1]; exact (ci.1.1.2.1 _ hdN).2
  have hsr := hs r hr
  have s1 := sn.make hL hB h80 (d := kD a r) hd1 hw (kg := kg) ⟨h0, by omega⟩
  have hx : ∀ y, cR (kMake a (kD a r) (cI a 5 2 (kT a r)) kg) 3 7 r = some y → y < cL (kMake a (kD a r) (cI a 5 2 (kT a r)) kg) 3 := by
    intro y hy
    rw [(kMake_R a (kD a r) (cI a 5 2 (kT a r)) kg).2.2.1, if_neg (by omega)] at hy
    show y < cL a 3
    rw [ci.2.2.2.2.1]
    exact ci.1.2 (3, 7) (by decide) r y (by show r < cN a 3; omega) hy
  have s2 := s1.con hL (r := cL a 2) (Nat.lt_succ_self _) hx
  obtain ⟨nch, tn, c1, c2, c3, c4, c5⟩ := cn
  obtain ⟨m1, m2, m21, m23, m24, m25, m22, m28, m30, m31, m32, mo⟩ := mMake_rd (b := b) (nr := cL a 2) (nch := nch) (much := kg) (who := cI a 5 2 (kT a r)) (s := nI (kS a (kD a r))) (d := nI (kD a r)) h80 ct.2.2.1 c1 (by omega)
  generalize hx7 : cR (kMake a (kD a r) (cI a 5 2 (kT a r)) kg) 3 7 r = x7 at *
  have e21 : b.2.1 21 = a.2.1 3 3 := e _ h21
  have ev : cI (cSR (kMake a (kD a r) (cI a 5 2 (kT a r)) kg) 3 7 (cL a 2) x7) 3 3 r = b.2.1 21 r := by
    show (kMake a (kD a r) (cI a 5 2 (kT a r)) kg).2.1 3 3 r = _
    rw [(kMake_3 a (kD a r) (cI a 5 2 (kT a r)) kg).2.1, e21]
    exact if_neg (by omega)
  have hv : (b.2.1 21 r - kg).toInt = (b.2.1 21 r).toInt - kg.toInt := i32_sub (by omega) (by omega)
  have s3 := s2.has hL (r := r) (show r < cL a 2 + 1 by omega) (v := b.2.1 21 r - kg) (by omega) (by omega) (fun z => by rw [i32_eq0] at z; omega)
  have eC : kSplitOff a r kg = cSI (cSR (kMake a (kD a r) (cI a 5 2 (kT a r)) kg) 3 7 (cL a 2) x7) 3 3 r (b.2.1 21 r - kg) := by
    unfold kSplitOff
    simp only
    rw [hn3, hx7, ev]
  have g21 : gA b 21 (nI r) = b.2.1 21 r := gA_nI b 21 (by omega)
  have g22 : gA (mX b 21 (nI r) (b.2.1 21 r - kg)) 22 (nI r) = cI a 5 2 (kT a r) := by rw [gA_nI _ _ (by omega), mX_ne _ (by decide)]; exact hd r hr
  have g23 : gA (mX b 21 (nI r) (b.2.1 21 r - kg)) 23 (nI r) = nI (kS a (kD a r)) := by rw [gA_nI _ _ (by omega), mX_ne _ (by decide)]; exact (dl r hr).2
  have g24 : gA (mX b 21 (nI r) (b.2.1 21 r - kg)) 24 (nI r) = nI (kD a r) := by rw [gA_nI _ _ (by omega), mX_ne _ (by decide)]; exact (dl r hr).1
  have eM : mSplitOff b (nI r) kg = mX (mX (mMake b kg (cI a 5 2 (kT a r)) (nI (kS a (kD a r))) (nI (kD a r))) 28 (nI (cL a 2)) (sOI x7)) 21 (nI r) (b.2.1 21 r - kg) := by
    unfold mSplitOff
    simp only
    rw [g21, g22, g23, g24, mMake_comm ct.2.2.1 (by omega) h80 (by omega), show gS (mX b 21 (nI r) (b.2.1 21 r - kg)) 20 = nI (cL a 2) from ct.2.2.1]
    have g28 : gA (mX (mMake b kg (cI a 5 2 (kT a r)) (nI (kS a (kD a r))) (nI (kD a r))) 21 (nI r) (b.2.1 21 r - kg)) 28 (nI r) = sOI x7 := by
      rw [gA_nI _ _ (by omega), mX_ne _ (by decide), m28, ← hx7, (kMake_R a (kD a r) (cI a 5 2 (kT a r)) kg).2.2.1, if_neg (by omega)]
      refine Eq.trans (if_neg (by omega)) ?_
      exact co r hr
    rw [g28, mX_comm _ (by decide : 21 ≠ 28)]
  rw [eC, eM]
  refine ⟨s3.sc ?_, fun q q1 q2 q3 q4 q5 q6 q7 q8 q9 => ?_, ?_, fun k k1 k2 => ?_⟩
  · show sSum (cL a 0) (cL a 2 + 1) ((mX (mX (mMake b kg (cI a 5 2 (kT a r)) (nI (kS a (kD a r))) (nI (kD a r))) 28 (nI (cL a 2)) (sOI x7)) 21 (nI r) (b.2.1 21 r - kg)).2.1 9) _ _
    rw [mX_ne _ (by decide), mX_ne _ (by decide), mo 9 (by decide) (by decide) (by decide) (by decide) (by decide) (by decide) (by decide) (by decide) (by decide), mX_at _ _ (by omega), mX_ne _ (by decide), m21, mX_ne _ (by decide), mX_ne _ (by decide), m23]
    intro s hs9
    rw [sm s hs9, sI_snoc]
    have hne : r ≠ cL a 2 := by omega
    have h23 := (dl r hr).2
    have t1 : sI (fun q => if upd (b.2.1 23) (cL a 2) (nI (kS a (kD a r))) q = nI s then (upd (upd (b.2.1 21) (cL a 2) kg) r (b.2.1 21 r - kg) q).toInt else 0) (cL a 2) = sI (fun q => if b.2.1 23 q = nI s then (b.2.1 21 q).toInt else 0) (cL a 2) - (if b.2.1 23 r = nI s then (b.2.1 21 r).toInt else 0) + (if b.2.1 23 r = nI s then (b.2.1 21 r - kg).toInt else 0) := by
      rw [sI_upd (g := fun q => if b.2.1 23 q = nI s then (b.2.1 21 q).toInt else 0) hr (fun i hi hin => by simp only [upd, if_neg hin, if_neg (Nat.ne_of_lt hi)])]
      simp only [upd, if_pos, if_neg hne]
    rw [t1]
    have t2 : (if upd (b.2.1 23) (cL a 2) (nI (kS a (kD a r))) (cL a 2) = nI s then (upd (upd (b.2.1 21) (cL a 2) kg) r (b.2.1 21 r - kg) (cL a 2)).toInt else 0) = if b.2.1 23 r = nI s then kg.toInt else 0 := by
      simp only [upd, if_pos, if_neg (Ne.symm hne)]
      rw [show b.2.1 23 r = nI (kS a (kD a r)) from h23]
    rw [t2]
    by_cases hz : b.2.1 23 r = nI s
    · rw [if_pos hz, if_pos hz, if_pos hz, hv]; omega
    · rw [if_neg hz, if_neg hz, if_neg hz]; omega
  · rw [mX_ne _ q1, mX_ne _ q6]; exact mo q q1 q2 q3 q4 q5 q6 q7 q8 q9
  · show (mMake b kg (cI a 5 2 (kT a r)) (nI (kS a (kD a r))) (nI (kD a r))).1 20 = _
    rw [m1]
    show (if 20 = 29 then _ else (if 20 = 20 then nI (cL a 2 + 1) else b.1 20)) = _
    rw [if_neg (by decide), if_pos rfl]
  · show (mMake b kg (cI a 5 2 (kT a r)) (nI (kS a (kD a r))) (nI (kD a r))).1 k = _
    rw [m1]
    show (if k = 29 then _ else (if k = 20 then _ else b.1 k)) = _
    rw [if_neg k2, if_neg k1]
theorem SC.putIn {L : List (Nat × Nat × Nat)} (hL : sLok L) (h9 : (9, 4, 4) ∈ L) {B : Nat} {a : CS} {b : MS} (h : SC L B a b) (hB : B ≤ 4000) {d : Nat} (hd9 : d < cL a 1) (h80 : cL a 2 < 80) {kg : Int32} (hk : 0 < kg.toInt ∧ kg.toInt ≤ 40000) (hw : vp_in (cI a 2 1 d) 6) (hg : b.2.1 10 (kS a d) = a.2.1 4 2 (kS a d) ∧ b.2.1 11 (kS a d) = a.2.1 4 3 (kS a d)) :
    SC L B (kPutIn a d kg) (mMake (mX b 9 (nI (kS a d)) (b.2.1 9 (kS a d) + kg)) kg (cI a 2 1 d) (nI (kS a d)) (nI d)) := by
  have hbd9 : ∀ s, s < cL a 0 → 0 ≤ (b.2.1 9 s).toInt ∧ (b.2.1 9 s).toInt ≤ 3200000 := by
    obtain ⟨ci, e, sc, ct, ac, ow, gr, no, dl, ds, hd, pl, co, tw, wf, hs, sm, -⟩ := id h
    exact fun s hs9 => sm.bd hs ci.2.1.2 hs9
  obtain ⟨sn, sm⟩ := h.sn
  obtain ⟨ci, e, sc, ct, ac, ow, gr, no, dl, ds, hd, pl, co, tw, wf, hs, pe, de, ze, cn, rm, bt⟩ := id sn
  have hdN : d < cN a 2 := by rw [← ci.2.2.2.1.1]; exact hd9
  have hs0 : kS a d < cL a 0 := by rw [ci.2.2.1.1]; exact (ci.1.1.2.1 _ hdN).2
  have h06 := ci.2.2.1.2
  have e9 : b.2.1 9 = a.2.1 4 4 := e _ h9
  have hb9 := hbd9 _ hs0
  have hv : (b.2.1 9 (kS a d) + kg).toInt = (b.2.1 9 (kS a d)).toInt + kg.toInt := i32_add (by omega) (by omega)
  have s1 := sn.cont hL hs0 (v := b.2.1 9 (kS a d) + kg) (fun _ => hg)
  have eS : kS (cSI a 4 4 (kS a d) (b.2.1 9 (kS a d) + kg)) d = kS a d := rfl
  have s2 := s1.make hL hB (show cL a 2 < 80 from h80) (d := d) hd9 hw (kg := kg) hk
  rw [eS] at s2
  have eC : kPutIn a d kg = kMake (cSI a 4 4 (kS a d) (b.2.1 9 (kS a d) + kg)) d (cI a 2 1 d) kg := by
    unfold kPutIn
    rw [show cI a 4 4 (kS a d) = b.2.1 9 (kS a d) from by rw [e9]]
  rw [eC]
  refine s2.sc ?_
  obtain ⟨nch, tn, c1, c2, c3, c4, c5⟩ := cn
  obtain ⟨m1, m2, m21, m23, m24, m25, m22, m28, m30, m31, m32, mo⟩ := mMake_rd (b := mX b 9 (nI (kS a d)) (b.2.1 9 (kS a d) + kg)) (nr := cL a 2) (nch := nch) (much := kg) (who := cI a 2 1 d) (s := nI (kS a d)) (d := nI d) h80 ct.2.2.1 c1 (by omega)
  show sSum (cL a 0) (cL a 2 + 1) ((mMake (mX b 9 (nI (kS a d)) (b.2.1 9 (kS a d) + kg)) kg (cI a 2 1 d) (nI (kS a d)) (nI d)).2.1 9) _ _
  rw [mo 9 (by decide) (by decide) (by decide) (by decide) (by decide) (by decide) (by decide) (by decide) (by decide), m21, m23, mX_at _ _ (by omega), mX_ne _ (by decide), mX_ne _ (by decide)]
  intro s hs9
  rw [sI_snoc, sI_congr (g := fun q => if b.2.1 23 q = nI s then (b.2.1 21 q).toInt else 0) (fun i hi => by simp only [upd, if_neg (Nat.ne_of_lt hi)]), ← sm s hs9]
  simp only [upd, if_pos]
  by_cases hz : s = kS a d
  · rw [if_pos hz, hz, if_pos rfl, hv]
  · rw [if_neg hz, if_neg (fun z => hz ((nI_eq (by omega) (by omega)).mp z).symm)]; omega
theorem SC.mono {L : List (Nat × Nat × Nat)} {B B' : Nat} {a : CS} {b : MS} (h : SC L B a b) (hB : B ≤ B') : SC L B' a b := by
  obtain ⟨ci, e, sc, ct, ac, ow, gr, no, dl, ds, hd, pl, co, tw, wf, hs, sm, pe, de, ze, cn, rm, bt⟩ := h
  obtain ⟨nch, tn, c1, c2, c3, c4, c5⟩ := cn
  exact ⟨ci, e, sc, ct, ac, ow, gr, no, dl, ds, hd, pl, co, tw, wf, hs, sm, pe, de, ze, ⟨nch, tn, c1, c2, c3, by omega, c5⟩, rm, bt⟩
theorem SC.conS {L : List (Nat × Nat × Nat)} (hL : sLok L) {B : Nat} {a : CS} {b : MS} (h : SC L B a b) {r : Nat} (hr : r < cL a 2) {x : Option Nat} (hx : ∀ y, x = some y → y < cL a 3) : SC L B (cSR a 3 7 r x) (mX b 28 (nI r) (sOI x)) := by
  obtain ⟨sn, sm⟩ := h.sn
  exact (sn.con hL hr hx).sc sm
/-- the pledge is over -/
theorem SC.unpledge {L : List (Nat × Nat × Nat)} (hL : sLok L) (h25 : (25, 3, 4) ∈ L) {B : Nat} {a : CS} {b : MS} (h : SC L (B + 1) a b) {r : Nat} (hr : r < cL a 2) (hp : ¬ b.2.1 25 r = -1) : SC L B (kEndPledge a r) (mX b 25 (nI r) (-1)) := by
  obtain ⟨ci, e, sc, ct, ac, ow, gr, no, dl, ds, hd, pl, co, tw, wf, hs, sm, pe, de, ze, cn, rm, bt⟩ := h
  have h80 := ci.2.1.2
  have m25 : (mX b 25 (nI r) (-1)).2.1 25 = upd (b.2.1 25) r (-1) := mX_at b 25 (by omega) _
  have e1 : ∀ {j k : Nat}, ¬ (j = 3 ∧ k = 5) → ¬ (j = 3 ∧ k = 6) → (kEndPledge a r).2.1 j k = (cSI a 3 4 r (-1)).2.1 j k := fun a1 a2 => by
    unfold kEndPledge
    rw [cSI_row, if_neg a2, cSI_row, if_neg a1]
  have e4 : (kEndPledge a r).2.1 3 4 = upd (a.2.1 3 4) r (-1) := by rw [e1 (by decide) (by decide), cSI_row, if_pos ⟨rfl, rfl⟩]
  have e5 : (kEndPledge a r).2.1 3 5 = upd (a.2.1 3 5) r (-1) := by
    unfold kEndPledge
    rw [cSI_row, if_neg (by decide), cSI_row, if_pos ⟨rfl, rfl⟩, cSI_row, if_neg (by decide)]
  have e6 : (kEndPledge a r).2.1 3 6 = upd (a.2.1 3 6) r (-1) := by
    unfold kEndPledge
    rw [cSI_row, if_pos ⟨rfl, rfl⟩, cSI_row, if_neg (by decide), cSI_row, if_neg (by decide)]
  refine ⟨ci.of rfl rfl rfl, ?_, sc, ct, ac, ow, gr, no, dl, ds, hd, ?_, co, tw.to rfl rfl rfl, mWf_X (k := 25) wf _ (Or.inl rfl), hs, sm, ?_, de, ze, ?_, rm, bt⟩
  · have h1 := e.set hL (p := (25, 3, 4)) (by decide) (i := r) (by omega) (-1)
    intro p hp9
    rw [h1 p hp9]
    have i56 : ¬ (p.2.1 = 3 ∧ p.2.2 = 5) ∧ ¬ (p.2.1 = 3 ∧ p.2.2 = 6) := (show ∀ p ∈ sL, ¬ (p.2.1 = 3 ∧ p.2.2 = 5) ∧ ¬ (p.2.1 = 3 ∧ p.2.2 = 6) by decide) p (hL p hp9)
    exact (e1 i56.1 i56.2).symm
  · show sPl (cL a 2) ((kEndPledge a r).2.1 3 4) ((kEndPledge a r).2.1 3 5) ((kEndPledge a r).2.1 3 6) (b.2.1 26) (b.2.1 27)
    rw [e4, e5, e6]
    intro q hq
    by_cases hqr : q = r
    · subst hqr
      exact ⟨fun z => absurd (if_pos rfl) z, fun _ => ⟨if_pos rfl, if_pos rfl⟩⟩
    · have := pl q hq
      simpa only [upd, if_neg hqr] using this
  · show sPe (cL a 2) (b.2.1 21) ((mX b 25 (nI r) (-1)).2.1 25)
    rw [m25]
    intro q hq hz
    show (if q = r then (-1) else b.2.1 25 q) = -1
    split
    · rfl
    · exact pe q hq hz
  · show sCn B (cL a 2) (b.1 29) ((mX b 25 (nI r) (-1)).2.1 25) (b.2.1 30) (cI a 6 10 0)
    rw [m25]
    obtain ⟨nch, tn, c1, c2, c3, c4, c5⟩ := cn
    have := (nPl_upd (x := b.2.1 25) (r := r) (v := -1) (n := cL a 2)).2.2 rfl hr hp
    exact ⟨nch, tn, c1, c2, c3, by omega, c5⟩
theorem SC.forfeit {L : List (Nat × Nat × Nat)} (hL : sLok L) (h25 : (25, 3, 4) ∈ L) {B : Nat} {a : CS} {b : MS} (h : SC L (B + 1) a b) (hB : B ≤ 4000) {r : Nat} (hr : r < cL a 2) : SC L (B + 1) (kForfeit a r) (mForStep b (nI r)) := by
  obtain ⟨ci, e, sc, ct, ac, ow, gr, no, dl, ds, hd, pl, co, tw, wf, -⟩ := id h
  have h80 := ci.2.1.2
  have e25 : b.2.1 25 = a.2.1 3 4 := e _ h25
  have g25 : gA b 25 (nI r) = b.2.1 25 r := gA_nI b 25 (by omega)
  have g27 : gA b 27 (nI r) = b.2.1 27 r := gA_nI b 27 (by omega)
  unfold kForfeit mForStep
  rw [g25, g27]
  by_cases hp : b.2.1 25 r = -1
  · rw [if_pos hp, if_pos (decide_eq_false (fun z => z (by rw [← hp, e25])))]
    exact h
  · have hp' : ¬ cI a 3 4 r = -1 := fun z => hp (by rw [e25]; exact z)
    rw [if_neg hp, if_neg (by rw [decide_eq_true hp']; decide)]
    obtain ⟨p1, p2⟩ := (pl r hr).1 hp'
    rw [show gS b 1 = cI a 6 9 0 from sc.1, show b.2.1 27 r = cI a 3 6 r from p2]
    by_cases hd9 : cI a 6 9 0 ≤ cI a 3 6 r
    · rw [if_pos hd9, if_pos hd9]; exact h
    · rw [if_neg hd9, if_neg hd9]
      have h1 := h.unpledge hL h25 hr hp
      have hw : vp_in (b.2.1 25 r) 6 := or_vin (wf 25 r) hp
      have h2 := h1.become hL hB (r := r) hr hw
      rw [mBecome_comm b (by decide) (nI r) (-1) (nI r)] at h2
      rw [show cI a 3 4 r = b.2.1 25 r by rw [e25]]
      exact h2
