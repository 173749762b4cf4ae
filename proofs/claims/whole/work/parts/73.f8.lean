/-! a silo shrinks, on both sides -/
theorem SC.rows {L : List (Nat × Nat × Nat)} (hL : sLok L) {B : Nat} {a : CS} {b b' : MS} (h : SC L B a b) (h1 : b'.1 = b.1) (h2 : b'.2.2 = b.2.2) (h3 : ∀ q, q ≠ 44 → q ≠ 45 → b'.2.1 q = b.2.1 q) : SC L B a b' := by
  obtain ⟨ci, e, sc, ct, ac, ow, gr, no, dl, ds, hd, pl, co, tw, wf, hs, sm, pe, de, ze, cn, rm, bt⟩ := h
  have r : ∀ q, q < 44 → b'.2.1 q = b.2.1 q := fun q hq => h3 q (by omega) (by omega)
  refine ⟨ci, ?_, ?_, ?_, ?_, ?_, ?_, no, ?_, ?_, ?_, ?_, ?_, ?_, ?_, ?_, ?_, ?_, ?_, ?_, ?_, ?_, ?_⟩
  · intro p hp
    have := sL_b p (hL p hp)
    rw [h3 p.1 (by omega) (by omega)]
    exact e p hp
  · unfold sSc; rw [h1]; exact sc
  · unfold sCt; rw [h1]; exact ct
  · rw [h2]; exact ac
  · rw [r 6 (by decide)]; exact ow
  · rw [r 10 (by decide), r 11 (by decide)]; exact gr
  · rw [r 23 (by decide), r 24 (by decide)]; exact dl
  · rw [r 19 (by decide)]; exact ds
  · rw [r 22 (by decide)]; exact hd
  · rw [r 26 (by decide), r 27 (by decide)]; exact pl
  · rw [r 28 (by decide)]; exact co
  · rw [r 30 (by decide), r 31 (by decide), r 32 (by decide), h1]; exact tw
  · intro k i
    by_cases hk : k = 44
    · rw [hk]; trivial
    · by_cases hk2 : k = 45
      · rw [hk2]; trivial
      · rw [h3 k hk hk2]; exact wf k i
  · rw [r 21 (by decide)]; exact hs
  · rw [r 9 (by decide), r 21 (by decide), r 23 (by decide)]; exact sm
  · rw [r 21 (by decide), r 25 (by decide)]; exact pe
  · rw [r 15 (by decide), r 16 (by decide)]; exact de
  · rw [r 9 (by decide), r 12 (by decide), r 41 (by decide), r 42 (by decide), r 43 (by decide)]; exact ze
  · rw [h1, r 25 (by decide), r 30 (by decide)]; exact cn
  · rw [r 8 (by decide)]; exact rm
  · unfold sBt; rw [h1]; exact bt
def shv (a : CS) (s : Nat) (r : Nat) : Int32 := if kLiveIn a s r = true then kShareOf a (cI a 4 4 s) (kShLoss a s) r else 0
def rev9 (a : CS) (s : Nat) (r : Nat) : Int32 := if kLiveIn a s r = true then kRestOf a (cI a 4 4 s) (kShLoss a s) r else -1
def shA (a : CS) (s n : Nat) : Nat → Int32 := fun r => if r < n then shv a s r else 0
def remA (a : CS) (s n : Nat) : Nat → Int32 := fun r => if r < n ∧ kLiveIn a s r = true then kRestOf a (cI a 4 4 s) (kShLoss a s) r else a.2.1 3 8 r
def lft (f : Nat → Int32) : Nat → Nat → Int32 → Int32
  | _, 0, left => left
  | i, k + 1, left => lft f (i + 1) k (left - f i)
theorem kTk_live {a : CS} {s nr : Nat} {sh rem : Nat → Int32} {i : Nat} : kLiveIn (kTk a s nr sh rem) s i = (decide (0 < a.2.1 3 3 i - sh i) && decide (kS a (kD a i) = s)) := by
  unfold kLiveIn
  rw [show cI (kTk a s nr sh rem) 3 3 i = a.2.1 3 3 i - sh i from by show (kTk a s nr sh rem).2.1 3 3 i = _; rw [kTk_rd, if_pos ⟨rfl, rfl⟩]]
  rfl
theorem kSh1_cl (a : CS) (s nr : Nat) : ∀ (k i : Nat) (left : Int32), i + k ≤ nr → kSh1 s (cI a 4 4 s) (kShLoss a s) i k (kTk a s nr (shA a s i) (remA a s i)) left = (kTk a s nr (shA a s (i + k)) (remA a s (i + k)), lft (shv a s) i k left)
  | 0, i, left, _ => rfl
  | k + 1, i, left, hk => by
    have ei : shA a s i i = 0 := if_neg (Nat.lt_irrefl i)
    have el : kLiveIn (kTk a s nr (shA a s i) (remA a s i)) s i = kLiveIn a s i := by
      rw [kTk_live, ei, Int32.sub_zero]; rfl
    have eh : cI (kTk a s nr (shA a s i) (remA a s i)) 3 3 i = cI a 3 3 i := by
      show (kTk a s nr (shA a s i) (remA a s i)).2.1 3 3 i = _
      rw [kTk_rd, if_pos ⟨rfl, rfl⟩, ei, Int32.sub_zero]
    rw [show i + (k + 1) = i + 1 + k by omega]
    show (if kLiveIn (kTk a s nr (shA a s i) (remA a s i)) s i = true then kSh1 s (cI a 4 4 s) (kShLoss a s) (i + 1) k (kShStep (kTk a s nr (shA a s i) (remA a s i)) (cI a 4 4 s) (kShLoss a s) i) (left - kShareOf (kTk a s nr (shA a s i) (remA a s i)) (cI a 4 4 s) (kShLoss a s) i) else kSh1 s (cI a 4 4 s) (kShLoss a s) (i + 1) k (kTk a s nr (shA a s i) (remA a s i)) left) = (_, lft (shv a s) (i + 1) k (left - shv a s i))
    rw [el]
    by_cases hl : kLiveIn a s i = true
    · rw [if_pos hl]
      have hl2 := hl
      unfold kLiveIn at hl2
      rw [Bool.and_eq_true, decide_eq_true_eq, decide_eq_true_eq] at hl2
      have e1 : kShareOf (kTk a s nr (shA a s i) (remA a s i)) (cI a 4 4 s) (kShLoss a s) i = kShareOf a (cI a 4 4 s) (kShLoss a s) i := by unfold kShareOf; rw [eh]
      have e2 : kRestOf (kTk a s nr (shA a s i) (remA a s i)) (cI a 4 4 s) (kShLoss a s) i = kRestOf a (cI a 4 4 s) (kShLoss a s) i := by unfold kRestOf; rw [eh]
      have e3 : kShStep (kTk a s nr (shA a s i) (remA a s i)) (cI a 4 4 s) (kShLoss a s) i = kTk a s nr (shA a s (i + 1)) (remA a s (i + 1)) := by
        unfold kShStep
        rw [e1, e2, kTk_38, show kS (kTk a s nr (shA a s i) (remA a s i)) (kD (kTk a s nr (shA a s i) (remA a s i)) i) = s from hl2.2, kTk_take (by omega) hl2.1 (by rw [ei, Int32.sub_zero]; exact hl2.1)]
        congr 1
        · funext r
          show (if r = i then shA a s i i + _ else shA a s i r) = shA a s (i + 1) r
          rw [ei, Int32.zero_add]
          unfold shA
          by_cases hr : r = i
          · rw [if_pos hr, hr, if_pos (Nat.lt_succ_self i)]
            unfold shv
            rw [if_pos hl]
          · rw [if_neg hr]
            by_cases hr2 : r < i
            · rw [if_pos hr2, if_pos (by omega)]
            · rw [if_neg hr2, if_neg (by omega)]
        · funext r
          show (if r = i then _ else remA a s i r) = remA a s (i + 1) r
          unfold remA
          by_cases hr : r = i
          · rw [if_pos hr, hr, if_pos ⟨Nat.lt_succ_self i, hl⟩]
          · rw [if_neg hr]
            by_cases hr2 : r < i ∧ kLiveIn a s r = true
            · rw [if_pos hr2, if_pos ⟨by omega, hr2.2⟩]
            · rw [if_neg hr2, if_neg (fun z => hr2 ⟨by omega, z.2⟩)]
      rw [e3, e1, kSh1_cl a s nr k (i + 1) _ (by omega), show shv a s i = kShareOf a (cI a 4 4 s) (kShLoss a s) i from if_pos hl]
    · rw [if_neg hl]
      have ez : shv a s i = 0 := if_neg hl
      have e4 : shA a s i = shA a s (i + 1) := by
        funext r
        unfold shA
        by_cases hr : r = i
        · rw [hr, if_neg (Nat.lt_irrefl i), if_pos (Nat.lt_succ_self i), ez]
        · by_cases hr2 : r < i
          · rw [if_pos hr2, if_pos (by omega)]
          · rw [if_neg hr2, if_neg (by omega)]
      have e5 : remA a s i = remA a s (i + 1) := by
        funext r
        unfold remA
        by_cases hr2 : r < i ∧ kLiveIn a s r = true
        · rw [if_pos hr2, if_pos ⟨by omega, hr2.2⟩]
        · rw [if_neg hr2, if_neg]
          rintro ⟨z1, z2⟩
          by_cases hr : r = i
          · rw [hr] at z2; exact hl z2
          · exact hr2 ⟨by omega, z2⟩
      rw [e4, e5, kSh1_cl a s nr k (i + 1) _ (by omega), ez, Int32.sub_zero]
theorem mSh1_cl {a : CS} {s : Nat} (hs : s < 6) : ∀ (k i : Nat) (b : MS) (left : Int32), i + k ≤ 80 → (∀ r, r < i + k → (b.2.1 23 r = nI s ↔ kS a (kD a r) = s) ∧ b.2.1 21 r = cI a 3 3 r) →
    (mSh1 (nI s) (cI a 4 4 s) (kShLoss a s) i k b left).1.1 = b.1 ∧ (mSh1 (nI s) (cI a 4 4 s) (kShLoss a s) i k b left).1.2.2 = b.2.2 ∧ (∀ q, q ≠ 44 → q ≠ 45 → (mSh1 (nI s) (cI a 4 4 s) (kShLoss a s) i k b left).1.2.1 q = b.2.1 q) ∧
    (∀ r, (mSh1 (nI s) (cI a 4 4 s) (kShLoss a s) i k b left).1.2.1 44 r = if i ≤ r ∧ r < i + k then shv a s r else b.2.1 44 r) ∧ (∀ r, (mSh1 (nI s) (cI a 4 4 s) (kShLoss a s) i k b left).1.2.1 45 r = if i ≤ r ∧ r < i + k then rev9 a s r else b.2.1 45 r) ∧ (mSh1 (nI s) (cI a 4 4 s) (kShLoss a s) i k b left).2 = lft (shv a s) i k left
  | 0, i, b, left, _, _ => ⟨rfl, rfl, fun _ _ _ => rfl, fun r => by rw [if_neg (by omega)]; rfl, fun r => by rw [if_neg (by omega)]; rfl, rfl⟩
  | k + 1, i, b, left, hk, hrow => by
    obtain ⟨r1, r2⟩ := hrow i (by omega)
    have g23 : gA b 23 (nI i) = b.2.1 23 i := gA_nI _ _ (by omega)
    have g21 : gA b 21 (nI i) = cI a 3 3 i := by rw [gA_nI _ _ (by omega)]; exact r2
    have gen : ∀ v w : Int32, v = shv a s i → w = rev9 a s i → mSh1 (nI s) (cI a 4 4 s) (kShLoss a s) i (k + 1) b left = mSh1 (nI s) (cI a 4 4 s) (kShLoss a s) (i + 1) k (mX (mX b 44 (nI i) v) 45 (nI i) w) (left - gA (mX (mX b 44 (nI i) v) 45 (nI i) w) 44 (nI i)) →
        (mSh1 (nI s) (cI a 4 4 s) (kShLoss a s) i (k + 1) b left).1.1 = b.1 ∧ (mSh1 (nI s) (cI a 4 4 s) (kShLoss a s) i (k + 1) b left).1.2.2 = b.2.2 ∧ (∀ q, q ≠ 44 → q ≠ 45 → (mSh1 (nI s) (cI a 4 4 s) (kShLoss a s) i (k + 1) b left).1.2.1 q = b.2.1 q) ∧
        (∀ r, (mSh1 (nI s) (cI a 4 4 s) (kShLoss a s) i (k + 1) b left).1.2.1 44 r = if i ≤ r ∧ r < i + (k + 1) then shv a s r else b.2.1 44 r) ∧ (∀ r, (mSh1 (nI s) (cI a 4 4 s) (kShLoss a s) i (k + 1) b left).1.2.1 45 r = if i ≤ r ∧ r < i + (k + 1) then rev9 a s r else b.2.1 45 r) ∧ (mSh1 (nI s) (cI a 4 4 s) (kShLoss a s) i (k + 1) b left).2 = lft (shv a s) i (k + 1) left := by
      intro v w hv hw e
      have m44 : (mX (mX b 44 (nI i) v) 45 (nI i) w).2.1 44 = upd (b.2.1 44) i v := by rw [mX_ne _ (by decide), mX_at _ _ (by omega)]
      have m45 : (mX (mX b 44 (nI i) v) 45 (nI i) w).2.1 45 = upd (b.2.1 45) i w := by rw [mX_at _ _ (by omega), mX_ne _ (by decide)]
      have g44 : gA (mX (mX b 44 (nI i) v) 45 (nI i) w) 44 (nI i) = v := by rw [gA_nI _ _ (by omega), m44]; exact if_pos rfl
      obtain ⟨i1, i2, i3, i4, i5, i6⟩ := mSh1_cl (a := a) hs k (i + 1) (mX (mX b 44 (nI i) v) 45 (nI i) w) (left - v) (by omega) (fun r hr => by rw [mX_ne _ (by decide), mX_ne _ (by decide), mX_ne _ (by decide), mX_ne _ (by decide)]; exact hrow r (by omega))
      rw [g44] at e
      rw [e]
      refine ⟨i1, i2, fun q q1 q2 => by rw [i3 q q1 q2, mX_ne _ q2, mX_ne _ q1], fun r => ?_, fun r => ?_, by rw [i6, hv]; rfl⟩
      · rw [i4, m44]
        show (if i + 1 ≤ r ∧ r < i + 1 + k then shv a s r else (if r = i then v else b.2.1 44 r)) = _
        by_cases hr : r = i
        · rw [if_neg (by omega), if_pos hr, if_pos (by omega), hr, hv]
        · rw [if_neg hr]
          by_cases hr2 : i + 1 ≤ r ∧ r < i + 1 + k
          · rw [if_pos hr2, if_pos (by omega)]
          · rw [if_neg hr2, if_neg (by omega)]
      · rw [i5, m45]
        show (if i + 1 ≤ r ∧ r < i + 1 + k then rev9 a s r else (if r = i then w else b.2.1 45 r)) = _
        by_cases hr : r = i
        · rw [if_neg (by omega), if_pos hr, if_pos (by omega), hr, hw]
        · rw [if_neg hr]
          by_cases hr2 : i + 1 ≤ r ∧ r < i + 1 + k
          · rw [if_pos hr2, if_pos (by omega)]
          · rw [if_neg hr2, if_neg (by omega)]
    by_cases h1 : b.2.1 23 i = nI s
    · by_cases h2 : cI a 3 3 i ≤ 0
      · have hl : ¬ kLiveIn a s i = true := fun z => by
          unfold kLiveIn at z
          rw [Bool.and_eq_true, decide_eq_true_eq] at z
          exact absurd z.1 (Int32.not_lt.mpr h2)
        refine gen 0 (-1) (if_neg hl).symm (if_neg hl).symm ?_
        conv => lhs; unfold mSh1
        simp only
        rw [g23, g21, if_neg (fun z => z h1), if_pos h2]
      · have hl : kLiveIn a s i = true := by
          unfold kLiveIn
          rw [Bool.and_eq_true, decide_eq_true_eq, decide_eq_true_eq]
          exact ⟨Int32.not_le.mp h2, r1.mp h1⟩
        refine gen _ _ (if_pos hl).symm (if_pos hl).symm ?_
        conv => lhs; unfold mSh1
        simp only
        rw [g23, g21, if_neg (fun z => z h1), if_neg h2]
        rfl
    · have hl : ¬ kLiveIn a s i = true := fun z => by
        unfold kLiveIn at z
        rw [Bool.and_eq_true, decide_eq_true_eq, decide_eq_true_eq] at z
        exact h1 (r1.mpr z.2)
      refine gen 0 (-1) (if_neg hl).symm (if_neg hl).symm ?_
      conv => lhs; unfold mSh1
      simp only
      rw [g23, if_pos h1]
/-! the greatest remainder -/
def bF (V : Nat → Int32) : Nat → Nat → Nat → Nat
  | _, 0, best => best
  | i, k + 1, best => if V i ≤ V best then bF V (i + 1) k best else bF V (i + 1) k i
theorem mBest_F {b : MS} : ∀ (k i best : Nat), i + k ≤ 80 → best < 80 → mBest b i k (nI best) = nI (bF (b.2.1 45) i k best)
  | 0, i, best, _, _ => rfl
  | k + 1, i, best, hk, hb => by
    have g1 : gA b 45 (nI i) = b.2.1 45 i := gA_nI _ _ (by omega)
    have g2 : gA b 45 (nI best) = b.2.1 45 best := gA_nI _ _ (by omega)
    show (if gA b 45 (nI i) ≤ gA b 45 (nI best) then mBest b (i + 1) k (nI best) else mBest b (i + 1) k (nI i)) = nI (if b.2.1 45 i ≤ b.2.1 45 best then bF (b.2.1 45) (i + 1) k best else bF (b.2.1 45) (i + 1) k i)
    rw [g1, g2]
    by_cases h : b.2.1 45 i ≤ b.2.1 45 best
    · rw [if_pos h, if_pos h]; exact mBest_F k (i + 1) best (by omega) hb
    · rw [if_neg h, if_neg h]; exact mBest_F k (i + 1) i (by omega) (by omega)
def pSt (V : Nat → Int32) (i : Nat) (ob : Option Nat) (r : Int32) (best : Nat) : Prop := (ob = some best ∧ best < i ∧ r = V best ∧ -1 < V best) ∨ (ob = none ∧ r = -1 ∧ V best = -1 ∧ ∀ q, q < i → V q = -1)
def pV (X : CS) (s : Nat) (V : Nat → Int32) (i : Nat) : Prop := -1 ≤ V i ∧ ((V i = cI X 3 8 i ∧ (-1 < V i → kLiveIn X s i = true)) ∨ (V i = -1 ∧ kLiveIn X s i = false))
theorem pick_run {X : CS} {s : Nat} {V : Nat → Int32} : ∀ (k i : Nat) (ob : Option Nat) (r : Int32) (best : Nat), (∀ q, q < i + k → pV X s V q) → pSt V i ob r best → ∃ r', pSt V (i + k) (kGrF X s i k ob r) r' (bF V i k best)
  | 0, i, ob, r, best, _, h => ⟨r, h⟩
  | k + 1, i, ob, r, best, hV, h => by
    obtain ⟨v1, v2⟩ := hV i (by omega)
    have hr : r = V best := by
      rcases h with ⟨-, -, h, -⟩ | ⟨-, h, h2, -⟩
      · exact h
      · rw [h, h2]
    have hge : -1 ≤ r := by
      rcases h with ⟨-, -, h, h2⟩ | ⟨-, h, -, -⟩
      · rw [h]; exact Int32.le_of_lt h2
      · rw [h]; exact Int32.le_refl _
    rw [show i + (k + 1) = i + 1 + k by omega]
    show ∃ r', pSt V (i + 1 + k) (if cI X 3 8 i ≤ r then kGrF X s (i + 1) k ob r else if kLiveIn X s i = true then kGrF X s (i + 1) k (some i) (cI X 3 8 i) else kGrF X s (i + 1) k ob r) r' (if V i ≤ V best then bF V (i + 1) k best else bF V (i + 1) k i)
    have skip : V i ≤ V best → pSt V (i + 1) ob r best := fun hle => by
      rcases h with ⟨a1, a2, a3, a4⟩ | ⟨a1, a2, a3, a4⟩
      · exact Or.inl ⟨a1, by omega, a3, a4⟩
      · refine Or.inr ⟨a1, a2, a3, fun q hq => ?_⟩
        by_cases hqi : q = i
        · rw [hqi]; rw [a3] at hle; exact Int32.le_antisymm hle v1
        · exact a4 q (by omega)
    rcases v2 with ⟨w1, w2⟩ | ⟨w1, w2⟩
    · rw [← w1, hr]
      by_cases hle : V i ≤ V best
      · rw [if_pos hle, if_pos hle, ← hr]
        exact pick_run k (i + 1) ob r best (fun q hq => hV q (by omega)) (skip hle)
      · have hgt : -1 < V i := Int32.lt_of_le_of_lt (by rw [hr] at hge; exact hge) (Int32.not_le.mp hle)
        rw [if_neg hle, if_neg hle, if_pos (w2 hgt)]
        exact pick_run k (i + 1) (some i) (V i) i (fun q hq => hV q (by omega)) (Or.inl ⟨rfl, Nat.lt_succ_self i, rfl, hgt⟩)
    · have hle : V i ≤ V best := by rw [w1, ← hr]; exact hge
      rw [if_pos hle]
      have : (if cI X 3 8 i ≤ r then kGrF X s (i + 1) k ob r else if kLiveIn X s i = true then kGrF X s (i + 1) k (some i) (cI X 3 8 i) else kGrF X s (i + 1) k ob r) = kGrF X s (i + 1) k ob r := by
        by_cases hz : cI X 3 8 i ≤ r
        · rw [if_pos hz]
        · rw [if_neg hz, if_neg (by rw [w2]; decide)]
      rw [this]
      exact pick_run k (i + 1) ob r best (fun q hq => hV q (by omega)) (skip hle)
theorem pick_eq {X : CS} {s nr : Nat} {V : Nat → Int32} (hL : cL X 2 = nr) (hV : ∀ q, q < nr → pV X s V q) (hc : ∃ r, r < nr ∧ -1 < V r) : ∃ p, p < nr ∧ kGr X s = some p ∧ bF V 1 (nr - 1) 0 = p ∧ -1 < V p := by
  obtain ⟨r0, h0, h1⟩ := hc
  obtain ⟨n, rfl⟩ : ∃ n, nr = n + 1 := ⟨nr - 1, by omega⟩
  have hstart : ∃ r', pSt V (1 + n) (kGr X s) r' (bF V 1 n 0) := by
    unfold kGr
    rw [hL]
    show ∃ r', pSt V (1 + n) (if cI X 3 8 0 ≤ -1 then kGrF X s (0 + 1) n none (-1) else if kLiveIn X s 0 = true then kGrF X s (0 + 1) n (some 0) (cI X 3 8 0) else kGrF X s (0 + 1) n none (-1)) r' (bF V 1 n 0)
    obtain ⟨v1, v2⟩ := hV 0 (by omega)
    have hV' : ∀ q, q < 1 + n → pV X s V q := fun q hq => hV q (by omega)
    have none0 : V 0 = -1 → pSt V 1 none (-1) 0 := fun z => Or.inr ⟨rfl, rfl, z, fun q hq => by rw [show q = 0 by omega]; exact z⟩
    rcases v2 with ⟨w1, w2⟩ | ⟨w1, w2⟩
    · rw [← w1]
      by_cases hle : V 0 ≤ -1
      · rw [if_pos hle]
        exact pick_run n 1 none (-1) 0 hV' (none0 (Int32.le_antisymm hle v1))
      · have hgt := Int32.not_le.mp hle
        rw [if_neg hle, if_pos (w2 hgt)]
        exact pick_run n 1 (some 0) (V 0) 0 hV' (Or.inl ⟨rfl, by omega, rfl, hgt⟩)
    · have : (if cI X 3 8 0 ≤ -1 then kGrF X s (0 + 1) n none (-1) else if kLiveIn X s 0 = true then kGrF X s (0 + 1) n (some 0) (cI X 3 8 0) else kGrF X s (0 + 1) n none (-1)) = kGrF X s 1 n none (-1) := by
        by_cases hz : cI X 3 8 0 ≤ -1
        · rw [if_pos hz]
        · rw [if_neg hz, if_neg (by rw [w2]; decide)]
      rw [this]
      exact pick_run n 1 none (-1) 0 hV' (none0 w1)
  obtain ⟨r', hst⟩ := hstart
  rcases hst with ⟨a1, a2, a3, a4⟩ | ⟨a1, a2, a3, a4⟩
  · exact ⟨bF V 1 n 0, by omega, a1, rfl, a4⟩
  · rw [a4 r0 (by omega)] at h1
    exact absurd h1 (show ¬ ((-1 : Int32) < -1) by decide)
def cntV (V : Nat → Int32) : Nat → Nat
  | 0 => 0
  | n + 1 => cntV V n + if -1 < V n then 1 else 0
theorem cntV_ex {V : Nat → Int32} : ∀ {n : Nat}, 0 < cntV V n → ∃ r, r < n ∧ -1 < V r
  | 0, h => absurd h (Nat.lt_irrefl 0)
  | n + 1, h => by
    have e : cntV V (n + 1) = cntV V n + if -1 < V n then 1 else 0 := rfl
    by_cases hv : -1 < V n
    · exact ⟨n, Nat.lt_succ_self n, hv⟩
    · rw [e, if_neg hv] at h
      obtain ⟨r, h1, h2⟩ := cntV_ex (n := n) h
      exact ⟨r, by omega, h2⟩
theorem cntV_congr {V W : Nat → Int32} : ∀ {n : Nat}, (∀ i, i < n → V i = W i) → cntV V n = cntV W n
  | 0, _ => rfl
  | n + 1, h => by
    show cntV V n + (if -1 < V n then 1 else 0) = cntV W n + (if -1 < W n then 1 else 0)
    rw [cntV_congr (n := n) (fun i hi => h i (by omega)), h n (Nat.lt_succ_self n)]
theorem cntV_upd {V : Nat → Int32} {p : Nat} (hp : -1 < V p) : ∀ {n : Nat}, p < n → cntV (upd V p (-1)) n + 1 = cntV V n
  | 0, h => absurd h (Nat.not_lt_zero _)
  | n + 1, h => by
    show cntV (upd V p (-1)) n + (if -1 < upd V p (-1) n then 1 else 0) + 1 = cntV V n + (if -1 < V n then 1 else 0)
    by_cases hn : p = n
    · subst hn
      rw [cntV_congr (V := upd V p (-1)) (W := V) (fun i hi => if_neg (Nat.ne_of_lt hi)), if_pos hp, show upd V p (-1) p = -1 from if_pos rfl, if_neg (show ¬ ((-1 : Int32) < -1) by decide)]
    · rw [show upd V p (-1) n = V n from if_neg (fun z => hn z.symm)]
      have := cntV_upd hp (n := n) (by omega)
      omega
theorem cntV_le {V : Nat → Int32} : ∀ {n : Nat}, cntV V n ≤ n
  | 0 => Nat.le_refl 0
  | n + 1 => by
    have := cntV_le (V := V) (n := n)
    show cntV V n + (if -1 < V n then 1 else 0) ≤ n + 1
    split <;> omega
/-- how far the sharing has gone, on both sides -/
def sRl (a : CS) (s nr : Nat) (sh rem : Nat → Int32) (b : MS) : Prop :=
  (∀ r, r < nr → b.2.1 44 r = sh r) ∧ (∀ r, nr ≤ r → sh r = 0) ∧
  (∀ r, r < nr → kLiveIn a s r = true → b.2.1 45 r = rem r ∧ -1 ≤ rem r ∧ 0 ≤ (sh r).toInt ∧ (sh r).toInt ≤ (a.2.1 3 3 r).toInt ∧ (-1 < rem r → (sh r).toInt < (a.2.1 3 3 r).toInt)) ∧
  (∀ r, r < nr → kLiveIn a s r = false → b.2.1 45 r = -1 ∧ sh r = 0) ∧ b.1 20 = nI nr
theorem i32_1 : (1 : Int32).toInt = 1 := by decide
theorem picks {a : CS} {s nr : Nat} (hnr : nr ≤ 80) (hL : cL a 2 = nr) (hh : ∀ r, r < nr → 0 ≤ (a.2.1 3 3 r).toInt ∧ (a.2.1 3 3 r).toInt ≤ 40000) : ∀ (j : Nat) (sh rem : Nat → Int32) (b : MS), sRl a s nr sh rem b → j ≤ cntV (b.2.1 45) nr →
    ∃ sh' rem', kBear s j (kTk a s nr sh rem) = kTk a s nr sh' rem' ∧ sRl a s nr sh' rem' (mSh2 j b) ∧ (∀ q, q ≠ 44 → q ≠ 45 → (mSh2 j b).2.1 q = b.2.1 q) ∧ (mSh2 j b).1 = b.1 ∧ (mSh2 j b).2.2 = b.2.2
  | 0, sh, rem, b, h, _ => ⟨sh, rem, rfl, h, fun _ _ _ => rfl, rfl, rfl⟩
  | j + 1, sh, rem, b, h, hj => by
    obtain ⟨h1, h2, h3, h4, h5⟩ := id h
    have pv : ∀ q, q < nr → pV (kTk a s nr sh rem) s (b.2.1 45) q := fun q hq => by
      have e8 : cI (kTk a s nr sh rem) 3 8 q = rem q := by
        show (kTk a s nr sh rem).2.1 3 8 q = _
        rw [kTk_rd, if_neg (by omega), if_neg (by omega), if_neg (by omega), if_pos ⟨rfl, rfl⟩]
      by_cases hl : kLiveIn a s q = true
      · obtain ⟨g1, g2, g3, g4, g5⟩ := h3 q hq hl
        have hb := hh q hq
        refine ⟨by rw [g1]; exact g2, Or.inl ⟨by rw [g1, e8], fun z => ?_⟩⟩
        rw [g1] at z
        have hlt := g5 z
        rw [kTk_live]
        unfold kLiveIn at hl
        rw [Bool.and_eq_true, decide_eq_true_eq, decide_eq_true_eq] at hl
        rw [Bool.and_eq_true, decide_eq_true_eq, decide_eq_true_eq]
        refine ⟨?_, hl.2⟩
        rw [i32_lt, i32_0, i32_sub (by omega) (by omega)]
        omega
      · have hl' : kLiveIn a s q = false := by simpa using hl
        obtain ⟨g1, g2⟩ := h4 q hq hl'
        refine ⟨by rw [g1]; exact Int32.le_refl _, Or.inr ⟨g1, ?_⟩⟩
        rw [kTk_live, g2, Int32.sub_zero]
        exact hl'
    obtain ⟨p, p1, p2, p3, p4⟩ := pick_eq (X := kTk a s nr sh rem) (s := s) (nr := nr) (V := b.2.1 45) hL pv (cntV_ex (by omega))
    have hl : kLiveIn a s p = true := by
      by_cases z : kLiveIn a s p = true
      · exact z
      · have := (h4 p p1 (by simpa using z)).1
        rw [this] at p4
        exact absurd p4 (show ¬ ((-1 : Int32) < -1) by decide)
    obtain ⟨g1, g2, g3, g4, g5⟩ := h3 p p1 hl
    have hb := hh p p1
    have hlt := g5 (by rw [← g1]; exact p4)
    have hl2 := hl
    unfold kLiveIn at hl2
    rw [Bool.and_eq_true, decide_eq_true_eq, decide_eq_true_eq] at hl2
    have eK : kBearStep (kTk a s nr sh rem) s = kTk a s nr (upd sh p (sh p + 1)) (upd rem p (-1)) := by
      unfold kBearStep
      rw [p2]
      simp only
      rw [kTk_38, show kS (kTk a s nr sh rem) (kD (kTk a s nr sh rem) p) = s from hl2.2]
      exact kTk_take p1 hl2.1 (by rw [i32_lt, i32_0, i32_sub (by omega) (by omega)]; omega)
    have e20 : gS b 20 = nI nr := h5
    have ecl : (gS b 20).toNatClampNeg = nr := by rw [e20]; exact nI_clamp (by omega)
    have g44 : gA b 44 (nI p) = sh p := by rw [gA_nI _ _ (by omega)]; exact h1 p p1
    have eM : mShStep b = mX (mX b 44 (nI p) (sh p + 1)) 45 (nI p) (-1) := by
      unfold mShStep
      simp only
      rw [ecl, show (0 : Int32) = nI 0 from nI_0.symm, mBest_F (nr - 1) 1 0 (by omega) (by omega), p3, g44]
    have m44 : (mX (mX b 44 (nI p) (sh p + 1)) 45 (nI p) (-1)).2.1 44 = upd (b.2.1 44) p (sh p + 1) := by rw [mX_ne _ (by decide), mX_at _ _ (by omega)]
    have m45 : (mX (mX b 44 (nI p) (sh p + 1)) 45 (nI p) (-1)).2.1 45 = upd (b.2.1 45) p (-1) := by rw [mX_at _ _ (by omega), mX_ne _ (by decide)]
    have sh1 : (sh p + 1).toInt = (sh p).toInt + 1 := by rw [i32_add (by rw [i32_1]; omega) (by rw [i32_1]; omega), i32_1]
    have hR : sRl a s nr (upd sh p (sh p + 1)) (upd rem p (-1)) (mX (mX b 44 (nI p) (sh p + 1)) 45 (nI p) (-1)) := by
      refine ⟨fun r hr => ?_, fun r hr => ?_, fun r hr hlr => ?_, fun r hr hlr => ?_, h5⟩
      · rw [m44]
        show (if r = p then _ else b.2.1 44 r) = (if r = p then _ else sh r)
        rw [h1 r hr]
      · show (if r = p then _ else sh r) = 0
        rw [if_neg (by omega)]
        exact h2 r hr
      · rw [m45]
        by_cases hrp : r = p
        · subst hrp
          rw [show upd (b.2.1 45) r (-1) r = -1 from if_pos rfl, show upd rem r (-1) r = -1 from if_pos rfl, show upd sh r (sh r + 1) r = sh r + 1 from if_pos rfl]
          exact ⟨rfl, Int32.le_refl _, by omega, by omega, fun z => absurd z (show ¬ ((-1 : Int32) < -1) by decide)⟩
        · rw [show upd (b.2.1 45) p (-1) r = b.2.1 45 r from if_neg hrp, show upd rem p (-1) r = rem r from if_neg hrp, show upd sh p (sh p + 1) r = sh r from if_neg hrp]
          exact h3 r hr hlr
      · have hrp : r ≠ p := fun z => by rw [z, hl] at hlr; cases hlr
        rw [m45, show upd (b.2.1 45) p (-1) r = b.2.1 45 r from if_neg hrp, show upd sh p (sh p + 1) r = sh r from if_neg hrp]
        exact h4 r hr hlr
    obtain ⟨sh', rem', i1, i2, i3, i4, i5⟩ := picks hnr hL hh j (upd sh p (sh p + 1)) (upd rem p (-1)) _ hR (by
      rw [m45]
      have := cntV_upd (V := b.2.1 45) p4 (n := nr) p1
      omega)
    refine ⟨sh', rem', ?_, ?_, fun q q1 q2 => ?_, ?_, ?_⟩
    · show kBear s j (kBearStep (kTk a s nr sh rem) s) = _
      rw [eK]; exact i1
    · show sRl a s nr sh' rem' (mSh2 j (mShStep b))
      rw [eM]; exact i2
    · show (mSh2 j (mShStep b)).2.1 q = _
      rw [eM, i3 q q1 q2, mX_ne _ q2, mX_ne _ q1]
    · show (mSh2 j (mShStep b)).1 = _
      rw [eM, i4]; rfl
    · show (mSh2 j (mShStep b)).2.2 = _
      rw [eM, i5]; rfl
