/-! what is taken back, on both sides -/
theorem kMin_N {b : MS} {r : Nat} {has left : Int32} (hr : r < 80) (h : b.2.1 21 r = has) : mTakeN b (nI r) left = kMin has left := by
  unfold mTakeN kMin
  rw [gA_nI _ _ (by omega), h]
  by_cases h1 : left ≤ has
  · rw [if_pos h1]
    by_cases h2 : left < has
    · rw [if_pos h2]
    · rw [if_neg h2]; exact Int32.le_antisymm h1 (Int32.not_lt.mp h2)
  · rw [if_neg h1, if_neg (fun z => h1 (Int32.le_of_lt z))]
theorem kMin_int {has left : Int32} (h : 0 ≤ has.toInt) (hl : 0 ≤ left.toInt) : 0 ≤ (kMin has left).toInt ∧ (kMin has left).toInt ≤ has.toInt ∧ (kMin has left).toInt ≤ left.toInt ∧ ((kMin has left).toInt = has.toInt ∨ (kMin has left).toInt = left.toInt) := by
  unfold kMin
  by_cases h2 : left < has
  · rw [if_pos h2]; rw [i32_lt] at h2; omega
  · rw [if_neg h2]; rw [i32_lt] at h2; omega
theorem mLose_0 {L : List (Nat × Nat × Nat)} {B : Nat} {a : CS} {b : MS} (h : SC L B a b) {r : Nat} (hr : r < cL a 2) : mLose b (nI r) 0 = b := by
  obtain ⟨ci, e, sc, ct, ac, ow, gr, no, dl, ds, hd, pl, co, tw, wf, hs, sm, pe, -⟩ := h
  have hrN : r < cN a 3 := by rw [← ci.2.1.1]; exact hr
  have hsN : kS a (kD a r) < cN a 4 := (ci.1.1.2.1 _ (ci.1.1.1 r hrN).2.1).2
  have h80 := ci.2.1.2
  have h64 := ci.2.2.1
  rw [mLose_rd (s := kS a (kD a r)) (by omega) (by omega) (dl r hr).2, Int32.sub_zero, Int32.sub_zero]
  have e25 : (if b.2.1 21 r = 0 then -1 else b.2.1 25 r) = b.2.1 25 r := by
    by_cases hz : b.2.1 21 r = 0
    · rw [if_pos hz, pe r hr hz]
    · rw [if_neg hz]
  rw [e25]
  have x1 := mX_self b 21 r (by omega)
  refine MS_ext (by rw [mX_1, mX_1, mX_1]) (fun q => ?_) (by rw [mX_22, mX_22, mX_22])
  have y1 : (mX b 21 (nI r) (b.2.1 21 r)).2.1 = b.2.1 := x1
  have y2 : (mX (mX b 21 (nI r) (b.2.1 21 r)) 9 (nI (kS a (kD a r))) (b.2.1 9 (kS a (kD a r)))).2.1 = b.2.1 := by
    have := mX_self (mX b 21 (nI r) (b.2.1 21 r)) 9 (kS a (kD a r)) (by omega)
    rw [y1] at this
    exact this
  have y3 := mX_self (mX (mX b 21 (nI r) (b.2.1 21 r)) 9 (nI (kS a (kD a r))) (b.2.1 9 (kS a (kD a r)))) 25 r (by omega)
  rw [y2] at y3
  rw [y3]
theorem mTakeFor_0 {L : List (Nat × Nat × Nat)} {B : Nat} {a : CS} {b : MS} (h : SC L B a b) {r : Nat} (hr : r < cL a 2) (d : Int32) : mTakeFor b d (nI r) 0 = b ∧ mTakeN b (nI r) 0 = 0 := by
  obtain ⟨ci, e, sc, ct, ac, ow, gr, no, dl, ds, hd, pl, co, tw, wf, hs, -⟩ := id h
  have h80 := ci.2.1.2
  have hz : mTakeN b (nI r) 0 = 0 := by
    unfold mTakeN
    rw [gA_nI _ _ (by omega), if_pos]
    rw [i32_le, i32_0]
    exact (hs r hr).1
  refine ⟨?_, hz⟩
  unfold mTakeFor
  rw [hz]
  unfold mTakePay
  rw [if_pos (Int32.le_refl 0)]
  exact mLose_0 h hr
theorem mTake1_0 {L : List (Nat × Nat × Nat)} {B : Nat} {a : CS} {b : MS} (h : SC L B a b) (d : Int32) : ∀ (k i : Nat), i + k ≤ cL a 2 → mTake1 d i k b 0 = (b, 0)
  | 0, i, _ => rfl
  | k + 1, i, hi => by
    obtain ⟨h1, h2⟩ := mTakeFor_0 h (r := i) (by omega) d
    have ih := mTake1_0 h d k (i + 1) (by omega)
    unfold mTake1
    split
    · exact ih
    · rw [h1, h2, Int32.sub_zero]; exact ih
theorem mTake2_0 {L : List (Nat × Nat × Nat)} {B : Nat} {a : CS} {b : MS} (h : SC L B a b) (d w : Int32) : ∀ (k i : Nat), i + k ≤ cL a 2 → mTake2 d w i k b 0 = (b, 0)
  | 0, i, _ => rfl
  | k + 1, i, hi => by
    obtain ⟨h1, h2⟩ := mTakeFor_0 h (r := i) (by omega) d
    have ih := mTake2_0 h d w k (i + 1) (by omega)
    unfold mTake2
    split
    · exact ih
    · split
      · exact ih
      · split
        · exact ih
        · rw [h1, h2, Int32.sub_zero]; exact ih
theorem updL_self (f : Nat → Int64) (i : Nat) : vp_updL f i (f i) = f := by
  funext j
  unfold vp_updL
  split
  · rename_i h; rw [h]
  · rfl
theorem kPayT_0 (a : CS) (i j : Int32) : kPayT a i j 0 = a := by
  unfold kPayT
  split
  · rfl
  · split
    · rfl
    · split
      · rfl
      · split
        · rfl
        · unfold kPay
          have e1 : cSA a i (cA a i.toNatClampNeg - 0) = a := by
            rw [Int64.sub_zero]
            refine Prod.ext rfl (Prod.ext rfl (Prod.ext rfl (Prod.ext ?_ rfl)))
            exact updL_self _ _
          rw [e1, Int64.add_zero]
          refine Prod.ext rfl (Prod.ext rfl (Prod.ext rfl (Prod.ext ?_ rfl)))
          exact updL_self _ _
theorem cSI_self (a : CS) (j k i : Nat) : cSI a j k i (cI a j k i) = a := by
  refine Prod.ext rfl (Prod.ext (funext fun j' => funext fun k' => funext fun i' => ?_) rfl)
  show (if j' = j ∧ k' = k ∧ i' = i then a.2.1 j k i else a.2.1 j' k' i') = a.2.1 j' k' i'
  by_cases h : j' = j ∧ k' = k ∧ i' = i
  · rw [if_pos h, h.1, h.2.1, h.2.2]
  · rw [if_neg h]
theorem kPft_0 (a : CS) (r : Nat) (dl : Int32) : kPft a r dl 0 = a := by
  have e0 : ∀ y : Int64, (0 : Int32).toInt64 * y = 0 := fun y => by rw [show (0 : Int32).toInt64 = 0 by decide, Int64.zero_mul]
  unfold kPft
  split
  · unfold kPftN
    rw [e0, kPayT_0]
  · unfold kPftC
    simp only
    rw [e0, kPayT_0, Int32.sub_zero, cSI_self, Int32.add_zero, cSI_self]
theorem SC.tb {B : Nat} {a : CS} {b : MS} (h : SC sL B a b) {r d : Nat} (hr : r < cL a 2) (hd9 : d < cL a 1) {left : Int32} (hl : 0 ≤ left.toInt) :
    SC sL B (kTb a r (cI a 2 1 d) left) (mTakeFor b (nI d) (nI r) left) ∧ mTakeN b (nI r) left = kMin (cI a 3 3 r) left ∧ (∀ q, q ≠ 21 → q ≠ 9 → q ≠ 25 → q ≠ 42 → q ≠ 43 → (mTakeFor b (nI d) (nI r) left).2.1 q = b.2.1 q) ∧ (mTakeFor b (nI d) (nI r) left).1 = b.1 ∧
    (mTakeFor b (nI d) (nI r) left).2.1 21 = upd (b.2.1 21) r (b.2.1 21 r - kMin (cI a 3 3 r) left) := by
  obtain ⟨ci, e, sc, ct, ac, ow, gr, no, dl, ds, hd, pl, co, tw, wf, hs, sm, pe, -⟩ := id h
  have h80 := ci.2.1.2
  have h40 := ci.2.2.2.1.2
  have h30 := ci.2.2.2.2.2
  have hrN : r < cN a 3 := by rw [← ci.2.1.1]; exact hr
  have hsN : kS a (kD a r) < cN a 4 := (ci.1.1.2.1 _ (ci.1.1.1 r hrN).2.1).2
  have h64 := ci.2.2.1
  have h23 : b.2.1 23 r = nI (kS a (kD a r)) := (dl r hr).2
  have e21 : b.2.1 21 = a.2.1 3 3 := e (21, 3, 3) (by decide)
  have e14 : b.2.1 14 = a.2.1 2 1 := e (14, 2, 1) (by decide)
  have e34 : b.2.1 34 = a.2.1 1 1 := e (34, 1, 1) (by decide)
  have e40 : b.2.1 40 = a.2.1 1 7 := e (40, 1, 7) (by decide)
  have e42 : b.2.1 42 = a.2.1 1 9 := e (42, 1, 9) (by decide)
  have e43 : b.2.1 43 = a.2.1 1 10 := e (43, 1, 10) (by decide)
  have v21 : b.2.1 21 r = cI a 3 3 r := by rw [e21]
  have hN : mTakeN b (nI r) left = kMin (cI a 3 3 r) left := kMin_N (by omega) v21
  have hb := hs r hr
  rw [v21] at hb
  obtain ⟨k1, k2, k3, -⟩ := kMin_int hb.1 hl
  have g22 : gA b 22 (nI r) = cI a 5 2 (kT a r) := by rw [gA_nI _ _ (by omega)]; exact hd r hr
  have g14 : gA b 14 (nI d) = cI a 2 1 d := by rw [gA_nI _ _ (by omega), e14]
  have g28 : gA b 28 (nI r) = sOI (cR a 3 7 r) := by rw [gA_nI _ _ (by omega)]; exact co r hr
  generalize hm : kMin (cI a 3 3 r) left = m at *
  -- what is paid
  have pay : SC sL B (if cI a 5 2 (kT a r) = cI a 2 1 d then a else kPft a r (cI a 2 1 d) m) (mTakePay b (nI d) (nI r) m) ∧ (∀ q, q ≠ 42 → q ≠ 43 → (mTakePay b (nI d) (nI r) m).2.1 q = b.2.1 q) ∧ (mTakePay b (nI d) (nI r) m).1 = b.1 := by
    unfold mTakePay
    by_cases hz : m ≤ 0
    · rw [if_pos hz]
      have m0 : m = 0 := by rw [i32_le, i32_0] at hz; rw [i32_eq0]; omega
      refine ⟨?_, fun _ _ _ => rfl, rfl⟩
      split
      · exact h
      · rw [m0, kPft_0]; exact h
    · rw [if_neg hz, g22, g14]
      by_cases hh : cI a 5 2 (kT a r) = cI a 2 1 d
      · rw [if_pos hh, if_pos hh]; exact ⟨h, fun _ _ _ => rfl, rfl⟩
      · rw [if_neg hh, if_neg hh, g28]
        have w22 := h.hd6 hr
        unfold kPft
        cases hc : cR a 3 7 r with
        | none =>
          rw [if_neg (fun (z : ¬ sOI none = -1) => z rfl)]
          refine ⟨?_, fun _ _ _ => rfl, rfl⟩
          unfold kPftN
          rw [show gS b 3 = cI a 6 7 0 from sc.2.2.1]
          exact h.pay (by rw [← show b.2.1 14 d = cI a 2 1 d by rw [e14]]; exact wf 14 d) w22 _
        | some c =>
          have hcN : c < cL a 3 := by rw [ci.2.2.2.2.1]; exact ci.1.2 (3, 7) (by decide) r c hrN hc
          rw [show sOI (some c) = nI c from rfl, if_pos (show ¬ nI c = -1 from fun z => by
            have z2 := congrArg Int32.toInt z
            rw [nI_toInt (by omega), show (-1 : Int32).toInt = -1 by decide] at z2
            omega)]
          have g34 : gA b 34 (nI c) = cI a 1 1 c := by rw [gA_nI _ _ (by omega), e34]
          have g40 : gA b 40 (nI c) = cI a 1 7 c := by rw [gA_nI _ _ (by omega), e40]
          rw [g34, g40]
          have s1 := h.pay (i := cI a 1 1 c) (j := cI a 5 2 (kT a r)) (by rw [← show b.2.1 34 c = cI a 1 1 c by rw [e34]]; exact wf 34 c) w22 (m.toInt64 * (cI a 1 7 c).toInt64)
          have ep := kPayT_same a (cI a 1 1 c) (cI a 5 2 (kT a r)) (m.toInt64 * (cI a 1 7 c).toInt64)
          have eL3 : cL (kPayT a (cI a 1 1 c) (cI a 5 2 (kT a r)) (m.toInt64 * (cI a 1 7 c).toInt64)) 3 = cL a 3 := congrFun ep.2.2.1 3
          have s2 := (s1.set42 sL_ok (c := c) (by rw [eL3]; exact hcN) (b.2.1 42 c - m)).set43 sL_ok (c := c) (by show c < cL (kPayT a _ _ _) 3; rw [eL3]; exact hcN) (b.2.1 43 c + m)
          have q42 : gA (mPay b (cI a 1 1 c) (cI a 5 2 (kT a r)) (m.toInt64 * (cI a 1 7 c).toInt64)) 42 (nI c) = b.2.1 42 c := by rw [gA_nI _ _ (by omega)]; rfl
          have q43 : gA (mX (mPay b (cI a 1 1 c) (cI a 5 2 (kT a r)) (m.toInt64 * (cI a 1 7 c).toInt64)) 42 (nI c) (b.2.1 42 c - m)) 43 (nI c) = b.2.1 43 c := by rw [gA_nI _ _ (by omega), mX_ne _ (by decide)]; rfl
          simp only [q42, q43]
          have eC : kPftC a r c m = cSI (cSI (kPayT a (cI a 1 1 c) (cI a 5 2 (kT a r)) (m.toInt64 * (cI a 1 7 c).toInt64)) 1 9 c (b.2.1 42 c - m)) 1 10 c (b.2.1 43 c + m) := by
            unfold kPftC
            simp only
            have i9 : cI (kPayT a (cI a 1 1 c) (cI a 5 2 (kT a r)) (m.toInt64 * (cI a 1 7 c).toInt64)) 1 9 c = b.2.1 42 c := by
              show (kPayT a _ _ _).2.1 1 9 c = _
              rw [ep.2.2.2, e42]
            rw [i9]
            have i10 : cI (cSI (kPayT a (cI a 1 1 c) (cI a 5 2 (kT a r)) (m.toInt64 * (cI a 1 7 c).toInt64)) 1 9 c (b.2.1 42 c - m)) 1 10 c = b.2.1 43 c := by
              show (cSI (kPayT a _ _ _) 1 9 c _).2.1 1 10 c = _
              rw [cSI_row, if_neg (by decide), ep.2.2.2, e43]
            rw [i10]
          rw [eC]
          exact ⟨s2, fun q q1 q2 => by rw [mX_ne _ q2, mX_ne _ q1]; rfl, rfl⟩
  obtain ⟨p1, p2, p3⟩ := pay
  have eX : (if cI a 5 2 (kT a r) = cI a 2 1 d then a else kPft a r (cI a 2 1 d) m).1 = a.1 ∧ (if cI a 5 2 (kT a r) = cI a 2 1 d then a else kPft a r (cI a 2 1 d) m).2.2.1 = a.2.2.1 ∧ (if cI a 5 2 (kT a r) = cI a 2 1 d then a else kPft a r (cI a 2 1 d) m).2.2.2.2.2 = a.2.2.2.2.2 := by
    split
    · exact ⟨rfl, rfl, rfl⟩
    · exact kPft_same a r (cI a 2 1 d) m
  generalize hX : (if cI a 5 2 (kT a r) = cI a 2 1 d then a else kPft a r (cI a 2 1 d) m) = X at *
  have eS : kS X (kD X r) = kS a (kD a r) := by
    unfold kS kD cR
    rw [eX.2.1]
  have hrX : r < cL X 2 := by rw [show cL X 2 = cL a 2 from congrFun eX.2.2 2]; exact hr
  have r21 : (mTakePay b (nI d) (nI r) m).2.1 21 = b.2.1 21 := p2 21 (by decide) (by decide)
  have l1 := p1.lose sL_ok (by decide) (by decide) (by decide) hrX (x := m) k1 (by rw [r21, v21]; exact k2)
  rw [eS] at l1
  have eK : kTb a r (cI a 2 1 d) left = kTakeFrom X r (kS a (kD a r)) m := by
    unfold kTb
    rw [hm, ← hX]
    by_cases hh : cI a 5 2 (kT a r) = cI a 2 1 d
    · rw [if_pos hh, if_pos hh]
    · rw [if_neg hh, if_neg hh]
  have h23' : (mTakePay b (nI d) (nI r) m).2.1 23 r = nI (kS a (kD a r)) := by rw [p2 23 (by decide) (by decide)]; exact h23
  have eM : mTakeFor b (nI d) (nI r) left = mLose (mTakePay b (nI d) (nI r) m) (nI r) m := by
    unfold mTakeFor
    rw [hN]
  obtain ⟨o1, o2⟩ := mLose_o (b := mTakePay b (nI d) (nI r) m) (r := r) (s := kS a (kD a r)) (x := m) (by omega) (by omega) h23'
  rw [eK, eM]
  refine ⟨l1, hN, fun q a1 a2 a3 a4 a5 => by rw [o1 q a1 a2 a3, p2 q a4 a5], by rw [o2, p3], ?_⟩
  rw [mLose_rd (s := kS a (kD a r)) (by omega) (by omega) h23', mX_ne _ (by decide), mX_ne _ (by decide), mX_at _ _ (by omega), r21]
/-- a receipt without a kilogram gives nothing -/
theorem kTb_dead {B : Nat} {a : CS} {b : MS} (h : SC sL B a b) {r : Nat} (hr : r < cL a 2) (h0 : cI a 3 3 r = 0) {dl left : Int32} (hl : 0 ≤ left.toInt) : kTb a r dl left = a ∧ kMin (cI a 3 3 r) left = 0 := by
  obtain ⟨ci, e, sc, ct, ac, ow, gr, no, dl', ds, hd, pl, co, tw, wf, hs, sm, pe, -⟩ := id h
  have e21 : b.2.1 21 = a.2.1 3 3 := e (21, 3, 3) (by decide)
  have e25 : b.2.1 25 = a.2.1 3 4 := e (25, 3, 4) (by decide)
  have m0 : kMin (cI a 3 3 r) left = 0 := by
    rw [h0]
    unfold kMin
    rw [if_neg]
    rw [i32_lt, i32_0]
    omega
  have p4 : a.2.1 3 4 r = -1 := by
    rw [← e25]
    exact pe r hr (by rw [e21]; exact h0)
  obtain ⟨p5, p6⟩ := (pl r hr).2 p4
  have eT : ∀ X : CS, X = a → kTakeFrom X r (kS a (kD a r)) 0 = a := by
    intro X hX
    rw [hX]
    unfold kTakeFrom
    simp only
    rw [Int32.sub_zero, cSI_self, Int32.sub_zero, cSI_self, h0, if_neg (by decide)]
    unfold kEndPledge
    rw [show cSI a 3 4 r (-1) = a from by
      have := cSI_self a 3 4 r
      rwa [show cI a 3 4 r = -1 from p4] at this]
    rw [show cSI a 3 5 r (-1) = a from by
      have := cSI_self a 3 5 r
      rwa [show cI a 3 5 r = -1 from p5] at this]
    have := cSI_self a 3 6 r
    rwa [show cI a 3 6 r = -1 from p6] at this
  refine ⟨?_, m0⟩
  unfold kTb
  rw [m0]
  split
  · exact eT a rfl
  · exact eT _ (kPft_0 a r dl)
