/-! payments, debts, what is taken -/
theorem cSI_row (a : CS) (j k i : Nat) (x : Int32) (j' k' : Nat) : (cSI a j k i x).2.1 j' k' = if j' = j ∧ k' = k then upd (a.2.1 j k) i x else a.2.1 j' k' := by
  by_cases h : j' = j ∧ k' = k
  · obtain ⟨rfl, rfl⟩ := h
    rw [if_pos ⟨rfl, rfl⟩]
    exact u3_at a.2.1 j' k' i x
  · rw [if_neg h]
    exact u3_ne a.2.1 i x (fun z => h ⟨congrArg Prod.fst z, congrArg Prod.snd z⟩)
theorem kOwnF_to {a a' : CS} (h0 : a'.2.1 5 = a.2.1 5) (h1 : a'.2.2.1 5 = a.2.2.1 5) (day : Int32) : ∀ (k t : Nat), kOwnF a' day k t = kOwnF a day k t
  | 0, t => by
    show (if a'.2.1 5 0 t ≤ day then a'.2.1 5 2 t else -1) = (if a.2.1 5 0 t ≤ day then a.2.1 5 2 t else -1)
    rw [h0]
  | k + 1, t => by
    show (if a'.2.1 5 0 t ≤ day then a'.2.1 5 2 t else match a'.2.2.1 5 1 t with | none => -1 | some t' => kOwnF a' day k t') = (if a.2.1 5 0 t ≤ day then a.2.1 5 2 t else match a.2.2.1 5 1 t with | none => -1 | some t' => kOwnF a day k t')
    rw [h0, h1]
    cases a.2.2.1 5 1 t with
    | none => rfl
    | some t' =>
      show (if _ then _ else kOwnF a' day k t') = (if _ then _ else kOwnF a day k t')
      rw [kOwnF_to h0 h1 day k t']
theorem sOw.to {a a' : CS} {x30 x31 x32 : Nat → Int32} {nch : Nat} (h : sOw a x30 x31 x32 nch) (hn : a'.1 = a.1) (h0 : a'.2.1 5 = a.2.1 5) (h1 : a'.2.2.1 = a.2.2.1) : sOw a' x30 x31 x32 nch := by
  obtain ⟨g1, ⟨ow, g2, g3⟩, g4⟩ := h
  have e5 : cN a' 5 = cN a 5 := congrFun hn 5
  have e3 : cN a' 3 = cN a 3 := congrFun hn 3
  have eR : ∀ j k i, cR a' j k i = cR a j k i := fun j k i => by show a'.2.2.1 j k i = _; rw [h1]
  have eT : ∀ r, kT a' r = kT a r := fun r => by unfold kT; rw [eR]
  refine ⟨fun t t' ht hr => g1 t t' (by rwa [e5] at ht) (by rwa [eR] at hr), ⟨ow, fun r hr => by rw [eT]; exact g2 r (by rwa [e3] at hr), fun t t' ht hr => g3 t t' (by rwa [e5] at ht) (by rwa [eR] at hr)⟩, fun r hr day => ?_⟩
  rw [eT]
  refine Eq.trans ?_ (g4 r (by rwa [e3] at hr) day)
  exact kOwnF_to h0 (by rw [h1]) day _ _
theorem vin_ge0 {x : Int32} {N : Nat} (h : vp_in x N) : ¬ x < 0 := fun z => h (Or.inl z)
theorem kPayT_in {a : CS} {i j : Int32} {x : Int64} (hi : vp_in i 6) (hj : vp_in j 6) : kPayT a i j x = kPay a i j x := by
  unfold kPayT
  rw [if_neg (vin_nlt hi), if_neg (vin_nle hi (by decide)), if_neg (vin_nlt hj), if_neg (vin_nle hj (by decide))]
theorem kOweT_in {a : CS} {i x : Int32} (hi : vp_in i 6) : kOweT a i x = kOwe a i x := by
  unfold kOweT
  rw [if_neg (vin_nlt hi), if_neg (vin_nle hi (by decide))]
theorem mPay_y (b : MS) (i j : Int32) (x : Int64) : (mPay b i j x).1 = b.1 ∧ (mPay b i j x).2.1 = b.2.1 := ⟨rfl, rfl⟩
theorem SC.pay {L : List (Nat × Nat × Nat)} {B : Nat} {a : CS} {b : MS} (h : SC L B a b) {i j : Int32} (hi : vp_in i 6) (hj : vp_in j 6) (x : Int64) : SC L B (kPayT a i j x) (mPay b i j x) := by
  rw [kPayT_in hi hj]
  obtain ⟨ci, e, sc, ct, ac, ow, gr, no, dl, ds, hd, pl, co, tw, wf, hs, sm, pe, de, ze, cn, rm, bt⟩ := h
  refine ⟨ci.of rfl rfl rfl, e, sc, ct, ?_, ow, gr, no, dl, ds, hd, pl, co, tw.to rfl rfl rfl, wf, hs, sm, pe, de, ze, cn, rm, bt⟩
  show vp_updL (vp_updL b.2.2 i.toNatClampNeg (b.2.2 i.toNatClampNeg - x)) j.toNatClampNeg (vp_updL b.2.2 i.toNatClampNeg (b.2.2 i.toNatClampNeg - x) j.toNatClampNeg + x) = vp_updL (vp_updL a.2.2.2.1 i.toNatClampNeg (a.2.2.2.1 i.toNatClampNeg - x)) j.toNatClampNeg (vp_updL a.2.2.2.1 i.toNatClampNeg (a.2.2.2.1 i.toNatClampNeg - x) j.toNatClampNeg + x)
  rw [ac]
theorem sL_n6 {L : List (Nat × Nat × Nat)} (hL : sLok L) : ∀ p ∈ L, p.1 ≠ 6 := fun p hp => (sL_6 p (hL p hp)).2.2
theorem SC.owe {L : List (Nat × Nat × Nat)} (hL : sLok L) {B : Nat} {a : CS} {b : MS} (h : SC L B a b) {i : Int32} (hi : vp_in i 6) (x : Int32) : SC L B (kOweT a i x) (mX b 6 i (gA b 6 i + x)) := by
  rw [kOweT_in hi]
  obtain ⟨ci, e, sc, ct, ac, ow, gr, no, dl, ds, hd, pl, co, tw, wf, hs, sm, pe, de, ze, cn, rm, bt⟩ := h
  refine ⟨ci.of rfl rfl rfl, (e.setM (sL_n6 hL) i _ : sEq L a _), sc, ct, ac, ?_, gr, no, dl, ds, hd, pl, co, tw.to rfl rfl rfl, mWf_X (k := 6) wf _ trivial, hs, sm, pe, de, ze, cn, rm, bt⟩
  show u2 b.2.1 6 i.toNatClampNeg (b.2.1 6 i.toNatClampNeg + x) 6 = upd a.2.2.2.2.1 i.toNatClampNeg (a.2.2.2.2.1 i.toNatClampNeg + x)
  rw [u2_same, ow]
/-! a receipt has less -/
theorem mLose_rd {b : MS} {r s : Nat} {x : Int32} (hr : r < 80) (hs : s < 6) (h23 : b.2.1 23 r = nI s) : mLose b (nI r) x = mX (mX (mX b 21 (nI r) (b.2.1 21 r - x)) 9 (nI s) (b.2.1 9 s - x)) 25 (nI r) (if b.2.1 21 r - x = 0 then -1 else b.2.1 25 r) := by
  unfold mLose
  simp only
  have e1 : gA b 21 (nI r) = b.2.1 21 r := gA_nI b 21 (by omega)
  have e2 : gA (mX b 21 (nI r) (b.2.1 21 r - x)) 23 (nI r) = nI s := by rw [gA_nI _ _ (by omega), mX_ne _ (by decide)]; exact h23
  have e3 : gA (mX b 21 (nI r) (b.2.1 21 r - x)) 9 (nI s) = b.2.1 9 s := by rw [gA_nI _ _ (by omega), mX_ne _ (by decide)]
  rw [e1, e2, e3]
  have e4 : gA (mX (mX b 21 (nI r) (b.2.1 21 r - x)) 9 (nI s) (b.2.1 9 s - x)) 21 (nI r) = b.2.1 21 r - x := by
    rw [gA_nI _ _ (by omega), mX_ne _ (by decide), mX_at _ _ (by omega)]
    exact if_pos rfl
  have e5 : gA (mX (mX b 21 (nI r) (b.2.1 21 r - x)) 9 (nI s) (b.2.1 9 s - x)) 25 (nI r) = b.2.1 25 r := by
    rw [gA_nI _ _ (by omega), mX_ne _ (by decide), mX_ne _ (by decide)]
  rw [e4, e5]
theorem upd_self (f : Nat → Int32) (i : Nat) : upd f i (f i) = f := by
  funext j
  unfold upd
  split
  · rename_i h; rw [h]
  · rfl
theorem mX_self (b : MS) (k i : Nat) (h : i < 2 ^ 31) : (mX b k (nI i) (b.2.1 k i)).2.1 = b.2.1 := by
  funext q
  by_cases hq : q = k
  · subst hq
    rw [mX_at b q h, upd_self]
  · exact mX_ne b hq _ _
theorem nPl_congr {x y : Nat → Int32} : ∀ {n : Nat}, (∀ i, i < n → x i = y i) → nPl x n = nPl y n
  | 0, _ => rfl
  | n + 1, h => by
    show nPl x n + (if x n = -1 then 0 else 1) = nPl y n + (if y n = -1 then 0 else 1)
    rw [nPl_congr (n := n) (fun i hi => h i (by omega)), h n (Nat.lt_succ_self n)]
theorem nPl_upd {x : Nat → Int32} {r : Nat} {v : Int32} : ∀ {n : Nat}, nPl (upd x r v) n ≤ nPl x n + (if v = -1 then 0 else 1) ∧ (v = -1 → nPl (upd x r v) n ≤ nPl x n) ∧ (v = -1 → r < n → ¬ x r = -1 → nPl (upd x r v) n + 1 ≤ nPl x n)
  | 0 => ⟨Nat.zero_le _, fun _ => Nat.le_refl _, fun _ h => absurd h (Nat.not_lt_zero _)⟩
  | n + 1 => by
    obtain ⟨h1, h2, h3⟩ := nPl_upd (x := x) (r := r) (v := v) (n := n)
    have e : nPl (upd x r v) (n + 1) = nPl (upd x r v) n + (if upd x r v n = -1 then 0 else 1) := rfl
    have e' : nPl x (n + 1) = nPl x n + (if x n = -1 then 0 else 1) := rfl
    rw [e, e']
    by_cases hn : n = r
    · subst hn
      have ec : nPl (upd x n v) n = nPl x n := nPl_congr (fun i hi => if_neg (Nat.ne_of_lt hi))
      rw [ec, show upd x n v n = v from if_pos rfl]
      refine ⟨by omega, fun hv => by rw [if_pos hv]; omega, fun hv _ hx => by rw [if_pos hv, if_neg hx]; omega⟩
    · rw [show upd x r v n = x n from if_neg hn]
      refine ⟨by omega, fun hv => by have := h2 hv; omega, fun hv hr hx => by have := h3 hv (by omega) hx; omega⟩
theorem sCn.ple {B nr : Nat} {S29 ten : Int32} {x25 x25' x30 : Nat → Int32} (h : sCn B nr S29 x25 x30 ten) (hl : nPl x25' nr ≤ nPl x25 nr) : sCn B nr S29 x25' x30 ten := by
  obtain ⟨nch, tn, h1, h2, h3, h4, h5⟩ := h
  exact ⟨nch, tn, h1, h2, h3, by omega, h5⟩
theorem sSum.lose {ns nr : Nat} {x9 x21 x23 : Nat → Int32} (h : sSum ns nr x9 x21 x23) {r s : Nat} (hr : r < nr) (hs : s < ns) (hns : ns ≤ 6) (h23 : x23 r = nI s) {v w : Int32} (hw : w.toInt = (x9 s).toInt - (x21 r).toInt + v.toInt) : sSum ns nr (upd x9 s w) (upd x21 r v) x23 := by
  intro s' hs'
  by_cases e : s' = s
  · subst e
    rw [show upd x9 s' w s' = w from if_pos rfl, hw, h s' hs']
    rw [sI_upd (f := fun q => if x23 q = nI s' then (upd x21 r v q).toInt else 0) (g := fun q => if x23 q = nI s' then (x21 q).toInt else 0) hr (fun i _ hne => by simp only [upd, if_neg hne])]
    simp only [if_pos h23, upd, if_true]
  · rw [show upd x9 s w s' = x9 s' from if_neg e, h s' hs']
    refine sI_congr (fun i _ => ?_)
    by_cases hi : i = r
    · subst hi
      have : ¬ x23 i = nI s' := by
        rw [h23]
        intro z
        exact e ((nI_eq (by omega) (by omega)).mp z).symm
      rw [if_neg this, if_neg this]
    · simp only [upd, if_neg hi]
theorem sSum.ge {ns nr : Nat} {x9 x21 x23 : Nat → Int32} (h : sSum ns nr x9 x21 x23) (hh : sHas nr x21) {r s : Nat} (hr : r < nr) (hs : s < ns) (h23 : x23 r = nI s) : (x21 r).toInt ≤ (x9 s).toInt := by
  rw [h s hs]
  have := sI_ge (f := fun q => if x23 q = nI s then (x21 q).toInt else 0) (r := r) (n := nr) hr (fun i hi => by
    show 0 ≤ (if x23 i = nI s then (x21 i).toInt else 0)
    split
    · exact (hh i hi).1
    · exact Int.le_refl 0)
  simpa only [if_pos h23] using this
theorem sSum.bd {ns nr : Nat} {x9 x21 x23 : Nat → Int32} (h : sSum ns nr x9 x21 x23) (hh : sHas nr x21) (hnr : nr ≤ 80) {s : Nat} (hs : s < ns) : 0 ≤ (x9 s).toInt ∧ (x9 s).toInt ≤ 3200000 := by
  rw [h s hs]
  constructor
  · refine sI_nn (fun i hi => ?_)
    split
    · exact (hh i hi).1
    · exact Int.le_refl 0
  · have := sI_le (f := fun q => if x23 q = nI s then (x21 q).toInt else 0) (c := 40000) (n := nr) (fun i hi => by
      show (if x23 i = nI s then (x21 i).toInt else 0) ≤ 40000
      split
      · exact (hh i hi).2
      · omega)
    omega
theorem kTakeFrom_row {a : CS} {r s : Nat} {x : Int32} : (kTakeFrom a r s x).2.1 3 3 = upd (a.2.1 3 3) r (a.2.1 3 3 r - x) ∧ (kTakeFrom a r s x).2.1 4 4 = upd (a.2.1 4 4) s (a.2.1 4 4 s - x) := by
  unfold kTakeFrom
  simp only
  split
  · exact ⟨by simp [cSI_row, cI], by simp [cSI_row, cI]⟩
  · exact ⟨by simp [kEndPledge, cSI_row, cI], by simp [kEndPledge, cSI_row, cI]⟩
theorem kTakeFrom_o {a : CS} {r s : Nat} {x : Int32} {j k : Nat} (h1 : (j, k) ≠ (3, 3)) (h2 : (j, k) ≠ (4, 4)) (h3 : (j, k) ≠ (3, 4)) (h4 : (j, k) ≠ (3, 5)) (h5 : (j, k) ≠ (3, 6)) : (kTakeFrom a r s x).2.1 j k = a.2.1 j k := by
  have g1 : ¬ (j = 3 ∧ k = 3) := fun z => h1 (by rw [z.1, z.2])
  have g2 : ¬ (j = 4 ∧ k = 4) := fun z => h2 (by rw [z.1, z.2])
  have g3 : ¬ (j = 3 ∧ k = 4) := fun z => h3 (by rw [z.1, z.2])
  have g4 : ¬ (j = 3 ∧ k = 5) := fun z => h4 (by rw [z.1, z.2])
  have g5 : ¬ (j = 3 ∧ k = 6) := fun z => h5 (by rw [z.1, z.2])
  unfold kTakeFrom
  simp only
  split
  · simp only [cSI_row, if_neg g1, if_neg g2]
  · simp only [kEndPledge, cSI_row, if_neg g1, if_neg g2, if_neg g3, if_neg g4, if_neg g5]
theorem kTakeFrom_p {a : CS} {r s : Nat} {x : Int32} {k : Nat} (hk : k = 4 ∨ k = 5 ∨ k = 6) : (kTakeFrom a r s x).2.1 3 k = if 0 < a.2.1 3 3 r - x then a.2.1 3 k else upd (a.2.1 3 k) r (-1) := by
  have e0 : cI (cSI (cSI a 3 3 r (cI a 3 3 r - x)) 4 4 s (cI (cSI a 3 3 r (cI a 3 3 r - x)) 4 4 s - x)) 3 3 r = a.2.1 3 3 r - x := by simp [cSI_row, cI, upd]
  unfold kTakeFrom
  simp only
  rw [e0]
  by_cases h : 0 < a.2.1 3 3 r - x
  · rw [if_pos (decide_eq_true h), if_pos h]
    rcases hk with rfl | rfl | rfl <;> simp [cSI_row, cI]
  · rw [if_neg (by simpa using h), if_neg h]
    rcases hk with rfl | rfl | rfl <;> simp [kEndPledge, cSI_row, cI]
theorem kTakeFrom_rest (a : CS) (r s : Nat) (x : Int32) : (kTakeFrom a r s x).1 = a.1 ∧ (kTakeFrom a r s x).2.2 = a.2.2 := by
  unfold kTakeFrom
  simp only
  split <;> exact ⟨rfl, rfl⟩
theorem SC.lose {L : List (Nat × Nat × Nat)} (hL : sLok L) (h21 : (21, 3, 3) ∈ L) (h9 : (9, 4, 4) ∈ L) (h25 : (25, 3, 4) ∈ L) {B : Nat} {a : CS} {b : MS} (h : SC L B a b) {r : Nat} (hr : r < cL a 2) {x : Int32} (hx0 : 0 ≤ x.toInt) (hx : x.toInt ≤ (b.2.1 21 r).toInt) : SC L B (kTakeFrom a r (kS a (kD a r)) x) (mLose b (nI r) x) := by
  obtain ⟨ci, e, sc, ct, ac, ow, gr, no, dl, ds, hd, pl, co, tw, wf, hs, sm, pe, de, ze, cn, rm, bt⟩ := h
  have hr80 : r < 80 := Nat.lt_of_lt_of_le hr ci.2.1.2
  have hrN : r < cN a 3 := by rw [← ci.2.1.1]; exact hr
  have hdN := ci.1.1.1 r hrN
  have hsN : kS a (kD a r) < cL a 0 := by rw [ci.2.2.1.1]; exact (ci.1.1.2.1 _ hdN.2.1).2
  have hs6 : kS a (kD a r) < 6 := Nat.lt_of_lt_of_le hsN ci.2.2.1.2
  have h23 : b.2.1 23 r = nI (kS a (kD a r)) := (dl r hr).2
  rw [mLose_rd hr80 hs6 h23]
  generalize hsq : kS a (kD a r) = s at *
  have e21 := e _ h21
  have e9 := e _ h9
  have e25 := e _ h25
  simp only at e21 e9 e25
  have hb := hs r hr
  have hge := sm.ge hs hr hsN h23
  have hbd := sm.bd hs ci.2.1.2 hsN
  have sub1 : (b.2.1 21 r - x).toInt = (b.2.1 21 r).toInt - x.toInt := i32_sub (by omega) (by omega)
  have sub9 : (b.2.1 9 s - x).toInt = (b.2.1 9 s).toInt - x.toInt := i32_sub (by omega) (by omega)
  have live : (0 < a.2.1 3 3 r - x) ↔ ¬ b.2.1 21 r - x = 0 := by
    rw [← e21, i32_lt, i32_0, i32_eq0]
    omega
  obtain ⟨k1, k2⟩ := kTakeFrom_row (a := a) (r := r) (s := s) (x := x)
  obtain ⟨q1, q2⟩ := kTakeFrom_rest a r s x
  have eN : ∀ j, cN (kTakeFrom a r s x) j = cN a j := fun j => congrFun q1 j
  have eL : ∀ j, cL (kTakeFrom a r s x) j = cL a j := fun j => by show (kTakeFrom a r s x).2.2.2.2.2 j = _; rw [q2]
  have eR : ∀ j k i, cR (kTakeFrom a r s x) j k i = cR a j k i := fun j k i => by show (kTakeFrom a r s x).2.2.1 j k i = _; rw [q2]
  have eD : kD (kTakeFrom a r s x) = kD a := by funext q; unfold kD; rw [eR]
  have eS : kS (kTakeFrom a r s x) = kS a := by funext q; unfold kS; rw [eR]
  have eT : kT (kTakeFrom a r s x) = kT a := by funext q; unfold kT; rw [eR]
  have ro : ∀ {j k : Nat}, (j, k) ≠ (3, 3) → (j, k) ≠ (4, 4) → (j, k) ≠ (3, 4) → (j, k) ≠ (3, 5) → (j, k) ≠ (3, 6) → (kTakeFrom a r s x).2.1 j k = a.2.1 j k := fun a1 a2 a3 a4 a5 => kTakeFrom_o a1 a2 a3 a4 a5
  generalize hm : mX (mX (mX b 21 (nI r) (b.2.1 21 r - x)) 9 (nI s) (b.2.1 9 s - x)) 25 (nI r) (if b.2.1 21 r - x = 0 then -1 else b.2.1 25 r) = b'
  have m21 : b'.2.1 21 = upd (b.2.1 21) r (b.2.1 21 r - x) := by rw [← hm, mX_ne _ (by decide), mX_ne _ (by decide), mX_at _ _ (by omega)]
  have m9 : b'.2.1 9 = upd (b.2.1 9) s (b.2.1 9 s - x) := by rw [← hm, mX_ne _ (by decide), mX_at _ _ (by omega), mX_ne _ (by decide)]
  have m25 : b'.2.1 25 = upd (b.2.1 25) r (if b.2.1 21 r - x = 0 then -1 else b.2.1 25 r) := by rw [← hm, mX_at _ _ (by omega), mX_ne _ (by decide), mX_ne _ (by decide)]
  have mo : ∀ {k : Nat}, k ≠ 21 → k ≠ 9 → k ≠ 25 → b'.2.1 k = b.2.1 k := fun a1 a2 a3 => by rw [← hm, mX_ne _ a3, mX_ne _ a2, mX_ne _ a1]
  have m1 : b'.1 = b.1 := by rw [← hm]; rfl
  have m2 : b'.2.2 = b.2.2 := by rw [← hm]; rfl
  have p4 : (kTakeFrom a r s x).2.1 3 4 = upd (a.2.1 3 4) r (if b.2.1 21 r - x = 0 then -1 else a.2.1 3 4 r) := by
    rw [kTakeFrom_p (Or.inl rfl)]
    by_cases hl : 0 < a.2.1 3 3 r - x
    · rw [if_pos hl, if_neg (live.mp hl), upd_self]
    · rw [if_neg hl, if_pos (Decidable.of_not_not (fun z => hl (live.mpr z)))]
  have wfX : mWf b' := by
    rw [← hm]
    refine mWf_X (k := 25) (mWf_X (k := 9) (mWf_X (k := 21) wf _ trivial) _ trivial) _ ?_
    split
    · exact Or.inl rfl
    · exact wf 25 r
  refine ⟨ci.of q1 (by rw [q2]) (by rw [q2]), ?_, ?_, ?_, ?_, ?_, ?_, ?_, ?_, ?_, ?_, ?_, ?_, ?_, wfX, ?_, ?_, ?_, ?_, ?_, ?_, ?_, ?_⟩
  · intro p hp
    by_cases a1 : p = (21, 3, 3)
    · subst a1
      show b'.2.1 21 = (kTakeFrom a r s x).2.1 3 3
      rw [m21, k1, e21]
    · by_cases a2 : p = (9, 4, 4)
      · subst a2
        show b'.2.1 9 = (kTakeFrom a r s x).2.1 4 4
        rw [m9, k2, e9]
      · by_cases a3 : p = (25, 3, 4)
        · subst a3
          show b'.2.1 25 = (kTakeFrom a r s x).2.1 3 4
          rw [m25, p4, e25]
        · have i1 := sL_inj _ (hL _ h21) p (hL p hp) a1
          have i2 := sL_inj _ (hL _ h9) p (hL p hp) a2
          have i3 := sL_inj _ (hL _ h25) p (hL p hp) a3
          have i56 : p.2 ≠ (3, 5) ∧ p.2 ≠ (3, 6) := (show ∀ p ∈ sL, p.2 ≠ (3, 5) ∧ p.2 ≠ (3, 6) by decide) p (hL p hp)
          rw [mo i1.1 i2.1 i3.1, e p hp]
          exact (ro i1.2 i2.2 i3.2 i56.1 i56.2).symm
  · unfold sSc cI
    rw [m1, ro (by decide) (by decide) (by decide) (by decide) (by decide), ro (by decide) (by decide) (by decide) (by decide) (by decide), ro (by decide) (by decide) (by decide) (by decide) (by decide), ro (by decide) (by decide) (by decide) (by decide) (by decide)]
    exact sc
  · unfold sCt
    rw [m1, eL, eL, eL, eL]
    exact ct
  · rw [m2, q2]; exact ac
  · rw [mo (by decide) (by decide) (by decide), q2]; exact ow
  · rw [mo (by decide) (by decide) (by decide), mo (by decide) (by decide) (by decide), k2, ro (by decide) (by decide) (by decide) (by decide) (by decide), ro (by decide) (by decide) (by decide) (by decide) (by decide)]
    intro s' hs'
    refine gr s' ?_
    by_cases hse : s' = s
    · subst hse
      rw [show upd (a.2.1 4 4) s' (a.2.1 4 4 s' - x) s' = a.2.1 4 4 s' - x from if_pos rfl, ← e9, i32_lt, sub9, i32_0] at hs'
      rw [← e9, i32_lt, i32_0]
      omega
    · rwa [show upd (a.2.1 4 4) s (a.2.1 4 4 s - x) s' = a.2.1 4 4 s' from if_neg hse] at hs'
  · rw [eL, eL, eL, eL, ro (by decide) (by decide) (by decide) (by decide) (by decide), ro (by decide) (by decide) (by decide) (by decide) (by decide), ro (by decide) (by decide) (by decide) (by decide) (by decide), ro (by decide) (by decide) (by decide) (by decide) (by decide)]
    exact no
  · rw [eL, mo (by decide) (by decide) (by decide), mo (by decide) (by decide) (by decide), eD, eS]; exact dl
  · rw [eL, mo (by decide) (by decide) (by decide), eS]; exact ds
  · rw [eL, mo (by decide) (by decide) (by decide)]
    intro q hq
    show b.2.1 22 q = (kTakeFrom a r s x).2.1 5 2 (kT (kTakeFrom a r s x) q)
    rw [eT, ro (by decide) (by decide) (by decide) (by decide) (by decide)]
    exact hd q hq
  · rw [eL, mo (by decide) (by decide) (by decide), mo (by decide) (by decide) (by decide), p4, kTakeFrom_p (k := 5) (Or.inr (Or.inl rfl)), kTakeFrom_p (k := 6) (Or.inr (Or.inr rfl))]
    intro q hq
    obtain ⟨g1, g2⟩ := pl q hq
    by_cases hl : 0 < a.2.1 3 3 r - x
    · rw [if_pos hl, if_pos hl, if_neg (live.mp hl), upd_self]
      exact ⟨g1, g2⟩
    · rw [if_neg hl, if_neg hl, if_pos (Decidable.of_not_not (fun z => hl (live.mpr z)))]
      by_cases hqr : q = r
      · subst hqr
        exact ⟨fun z => absurd (if_pos rfl) z, fun _ => ⟨if_pos rfl, if_pos rfl⟩⟩
      · simp only [upd, if_neg hqr]
        exact ⟨g1, g2⟩
  · rw [eL, mo (by decide) (by decide) (by decide)]
    intro q hq
    show _ = sOI (cR (kTakeFrom a r s x) 3 7 q)
    rw [eR]
    exact co q hq
  · rw [m1, mo (by decide) (by decide) (by decide), mo (by decide) (by decide) (by decide), mo (by decide) (by decide) (by decide)]
    exact tw.to q1 (by funext k; exact ro (by simp) (by simp) (by simp) (by simp) (by simp)) (by rw [q2])
  · rw [eL, m21]
    intro q hq
    by_cases hqr : q = r
    · subst hqr
      rw [show upd (b.2.1 21) q (b.2.1 21 q - x) q = b.2.1 21 q - x from if_pos rfl]
      omega
    · rw [show upd (b.2.1 21) r (b.2.1 21 r - x) q = b.2.1 21 q from if_neg hqr]
      exact hs q hq
  · rw [eL, eL, m9, m21, mo (by decide) (by decide) (by decide)]
    exact sm.lose hr hsN ci.2.2.1.2 h23 (by omega)
  · rw [eL, m21, m25]
    intro q hq hz
    by_cases hqr : q = r
    · subst hqr
      rw [show upd (b.2.1 21) q (b.2.1 21 q - x) q = b.2.1 21 q - x from if_pos rfl] at hz
      show (if q = q then _ else _) = _
      rw [if_pos rfl, if_pos hz]
    · rw [show upd (b.2.1 21) r (b.2.1 21 r - x) q = b.2.1 21 q from if_neg hqr] at hz
      show (if q = r then _ else _) = _
      rw [if_neg hqr]
      exact pe q hq hz
  · rw [eL, mo (by decide) (by decide) (by decide), mo (by decide) (by decide) (by decide)]; exact de
  · rw [eL, eL, m9, mo (by decide) (by decide) (by decide), mo (by decide) (by decide) (by decide), mo (by decide) (by decide) (by decide), mo (by decide) (by decide) (by decide)]
    refine ⟨fun q hq => ?_, ze.2⟩
    show (if q = s then _ else _) = _
    rw [if_neg (by omega)]
    exact ze.1 q hq
  · rw [eL, m1, m25, mo (by decide) (by decide) (by decide)]
    show sCn B (cL a 2) (b.1 29) _ _ ((kTakeFrom a r s x).2.1 6 10 0)
    rw [ro (by decide) (by decide) (by decide) (by decide) (by decide)]
    refine cn.ple ?_
    split
    · exact (nPl_upd (n := cL a 2)).2.1 rfl
    · rw [upd_self]; exact Nat.le_refl _
  · rw [eL, mo (by decide) (by decide) (by decide)]; exact rm
  · unfold sBt; rw [m1]; exact bt
