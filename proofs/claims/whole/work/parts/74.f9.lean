/-! the loss taken, on both sides -/
def shR (sh : Nat → Int32) (n : Nat) : Nat → Int32 := fun r => if r < n then sh r else 0
theorem sL_38 : ∀ p ∈ sL, ¬ (p.2.1 = 3 ∧ p.2.2 = 8) := by decide
theorem SC.rem {L : List (Nat × Nat × Nat)} (hL : sLok L) {B : Nat} {a : CS} {b : MS} {s nr : Nat} {sh rem : Nat → Int32} (rem' : Nat → Int32) (h : SC L B (kTk a s nr sh rem) b) : SC L B (kTk a s nr sh rem') b := by
  have ro : ∀ {j k : Nat}, ¬ (j = 3 ∧ k = 8) → (kTk a s nr sh rem').2.1 j k = (kTk a s nr sh rem).2.1 j k := fun hk => by
    funext i
    rw [kTk_rd, kTk_rd, if_neg hk, if_neg hk]
  obtain ⟨ci, e, sc, ct, ac, ow, gr, no, dl, ds, hd, pl, co, tw, wf, hs, sm, pe, de, ze, cn, rm, bt⟩ := h
  refine ⟨ci.of rfl rfl rfl, ?_, ?_, ct, ac, ow, ?_, ?_, dl, ds, ?_, ?_, co, tw.to rfl ?_ rfl, wf, hs, sm, pe, de, ze, ?_, rm, bt⟩
  · intro p hp
    rw [e p hp]
    exact (ro (sL_38 p (hL p hp))).symm
  · unfold sSc cI
    rw [ro (by decide), ro (by decide), ro (by decide), ro (by decide)]
    exact sc
  · rw [ro (by decide), ro (by decide), ro (by decide)]; exact gr
  · rw [ro (by decide), ro (by decide), ro (by decide), ro (by decide)]; exact no
  · intro q hq
    show b.2.1 22 q = (kTk a s nr sh rem').2.1 5 2 (kT a q)
    rw [ro (by decide)]
    exact hd q hq
  · rw [ro (by decide), ro (by decide), ro (by decide)]; exact pl
  · funext k
    exact ro (fun z => absurd z.1 (by decide))
  · show sCn B _ _ _ _ ((kTk a s nr sh rem').2.1 6 10 0)
    rw [ro (by decide)]
    exact cn
theorem mLose_o {b : MS} {r s : Nat} {x : Int32} (hr : r < 80) (hs : s < 6) (h23 : b.2.1 23 r = nI s) : (∀ q, q ≠ 21 → q ≠ 9 → q ≠ 25 → (mLose b (nI r) x).2.1 q = b.2.1 q) ∧ (mLose b (nI r) x).1 = b.1 := by
  rw [mLose_rd hr hs h23]
  exact ⟨fun q h1 h2 h3 => by rw [mX_ne _ h3, mX_ne _ h2, mX_ne _ h1], rfl⟩
theorem lose_all {B : Nat} {a : CS} {s nr : Nat} {sh rem : Nat → Int32} {loss : Int32} (hnr : cL a 2 = nr) (h80 : nr ≤ 80) (hs6 : s < 6) (hlive : ∀ r, r < nr → ¬ sh r = 0 → 0 < cI a 3 3 r ∧ kS a (kD a r) = s) (hsh : ∀ r, r < nr → 0 ≤ (sh r).toInt ∧ (sh r).toInt ≤ (a.2.1 3 3 r).toInt) (hl : ¬ loss ≤ 0) :
    ∀ (k i : Nat) (m : MS), i + k = nr → SC sL B (kTk a s nr (shR sh i) rem) m → (∀ r, r < nr → m.2.1 44 r = sh r) →
    SC sL B (kTk a s nr (shR sh nr) rem) (mSh3 loss i k m) ∧ (∀ q, q ≠ 21 → q ≠ 9 → q ≠ 25 → (mSh3 loss i k m).2.1 q = m.2.1 q) ∧ (mSh3 loss i k m).1 = m.1
  | 0, i, m, hi, h, _ => by
    rw [show i = nr by omega] at h
    exact ⟨h, fun _ _ _ _ => rfl, rfl⟩
  | k + 1, i, m, hi, h, h44 => by
    have hin : i < nr := by omega
    have g44 : gA m 44 (nI i) = sh i := by rw [gA_nI _ _ (by omega)]; exact h44 i hin
    have eS : mSh3 loss i (k + 1) m = if sh i ≤ 0 then mSh3 loss (i + 1) k m else mSh3 loss (i + 1) k (mLose m (nI i) (sh i)) := by
      conv => lhs; unfold mSh3
      rw [if_neg hl, g44]
    rw [eS]
    obtain ⟨b1, b2⟩ := hsh i hin
    have ei : shR sh i i = 0 := if_neg (Nat.lt_irrefl i)
    by_cases hz : sh i ≤ 0
    · rw [if_pos hz]
      have z0 : sh i = 0 := by
        rw [i32_le, i32_0] at hz
        rw [i32_eq0]; omega
      have er : shR sh i = shR sh (i + 1) := by
        funext r
        unfold shR
        by_cases hr : r = i
        · rw [hr, if_neg (Nat.lt_irrefl i), if_pos (Nat.lt_succ_self i), z0]
        · by_cases hr2 : r < i
          · rw [if_pos hr2, if_pos (by omega)]
          · rw [if_neg hr2, if_neg (by omega)]
      rw [er] at h
      exact lose_all hnr h80 hs6 hlive hsh hl k (i + 1) m (by omega) h h44
    · rw [if_neg hz]
      have nz : ¬ sh i = 0 := fun z => hz (by rw [z]; exact Int32.le_refl _)
      obtain ⟨l1, l2⟩ := hlive i hin nz
      obtain ⟨ci, e, sc, ct, ac, ow, gr, no, dl, -⟩ := id h
      have e21 : m.2.1 21 = (kTk a s nr (shR sh i) rem).2.1 3 3 := e (21, 3, 3) (by decide)
      have v21 : m.2.1 21 i = a.2.1 3 3 i := by
        rw [e21, kTk_rd, if_pos ⟨rfl, rfl⟩, ei, Int32.sub_zero]
      have hiL : i < cL (kTk a s nr (shR sh i) rem) 2 := by
        show i < cL a 2
        omega
      have h23 : m.2.1 23 i = nI s := by
        rw [← l2]
        exact (dl i hiL).2
      have h1 := h.lose sL_ok (by decide) (by decide) (by decide) hiL b1 (by rw [v21]; exact b2)
      rw [show kS (kTk a s nr (shR sh i) rem) (kD (kTk a s nr (shR sh i) rem) i) = s from l2, kTk_take hin l1 (by rw [ei, Int32.sub_zero]; exact l1)] at h1
      have er : upd (shR sh i) i (shR sh i i + sh i) = shR sh (i + 1) := by
        rw [ei, Int32.zero_add]
        funext r
        show (if r = i then sh i else (if r < i then sh r else 0)) = (if r < i + 1 then sh r else 0)
        by_cases hr : r = i
        · rw [if_pos hr, hr, if_pos (Nat.lt_succ_self i)]
        · rw [if_neg hr]
          by_cases hr2 : r < i
          · rw [if_pos hr2, if_pos (by omega)]
          · rw [if_neg hr2, if_neg (by omega)]
      rw [er] at h1
      obtain ⟨o1, o2⟩ := mLose_o (b := m) (r := i) (s := s) (x := sh i) (by omega) hs6 h23
      obtain ⟨i1, i2, i3⟩ := lose_all hnr h80 hs6 hlive hsh hl k (i + 1) (mLose m (nI i) (sh i)) (by omega) h1 (fun r hr => by rw [o1 44 (by decide) (by decide) (by decide)]; exact h44 r hr)
      exact ⟨i1, fun q q1 q2 q3 => by rw [i2 q q1 q2 q3, o1 q q1 q2 q3], by rw [i3, o2]⟩
theorem mSh3_stop {loss : Int32} (h : loss ≤ 0) (i k : Nat) (m : MS) : mSh3 loss i k m = m := by
  cases k with
  | zero => rfl
  | succ k => unfold mSh3; rw [if_pos h]
theorem SC.set12 {L : List (Nat × Nat × Nat)} (hL : sLok L) {B : Nat} {a : CS} {b : MS} (h : SC L B a b) {s : Nat} (hs9 : s < cL a 0) (y : Int32) : SC L B (cSI a 4 5 s y) (mX b 12 (nI s) y) := by
  obtain ⟨ci, e, sc, ct, ac, ow, gr, no, dl, ds, hd, pl, co, tw, wf, hs, sm, pe, de, ze, cn, rm, bt⟩ := h
  have h06 := ci.2.2.1.2
  refine ⟨ci.of rfl rfl rfl, e.set hL (p := (12, 4, 5)) (by decide) (by omega) y, sc, ct, ac, ow, gr, no, dl, ds, hd, pl, co, tw.to rfl rfl rfl, mWf_X (k := 12) wf _ trivial, hs, sm, pe, de, ⟨ze.1, ?_, ze.2.2⟩, cn, rm, bt⟩
  show sZ (cL a 0) ((mX b 12 (nI s) y).2.1 12)
  rw [mX_at b 12 (by omega)]
  intro q hq
  rw [show upd (b.2.1 12) s y q = b.2.1 12 q from if_neg (by omega)]
  exact ze.2.1 q hq
/-! the rest that is left over -/
theorem lft_snoc (f : Nat → Int32) : ∀ (k i : Nat) (left : Int32), lft f i (k + 1) left = lft f i k left - f (i + k)
  | 0, i, left => rfl
  | k + 1, i, left => by
    show lft f (i + 1) (k + 1) (left - f i) = lft f (i + 1) k (left - f i) - f (i + (k + 1))
    rw [lft_snoc f k (i + 1) (left - f i), show i + 1 + k = i + (k + 1) by omega]
theorem lft_int {f : Nat → Int32} {left : Int32} (h0 : 0 ≤ left.toInt) (h1 : left.toInt ≤ 4000000) : ∀ (k : Nat), k ≤ 80 → (∀ r, r < k → 0 ≤ (f r).toInt ∧ (f r).toInt ≤ 2000) → (lft f 0 k left).toInt = left.toInt - sI (fun r => (f r).toInt) k
  | 0, _, _ => by show left.toInt = left.toInt - 0; omega
  | k + 1, hk, hf => by
    have ih := lft_int h0 h1 k (by omega) (fun r hr => hf r (by omega))
    have hb := sI_le (f := fun r => (f r).toInt) (c := 2000) (n := k) (fun r hr => (hf r (by omega)).2)
    have hb0 := sI_nn (f := fun r => (f r).toInt) (n := k) (fun r hr => (hf r (by omega)).1)
    have hk2 := hf k (Nat.lt_succ_self k)
    rw [lft_snoc, Nat.zero_add, i32_sub (by omega) (by omega), ih, sI_snoc]
    omega
theorem sI_mono {f g : Nat → Int} : ∀ {n : Nat}, (∀ i, i < n → f i ≤ g i) → sI f n ≤ sI g n
  | 0, _ => Int.le_refl 0
  | n + 1, h => by
    have h1 := sI_mono (f := f) (g := g) (n := n) (fun i hi => h i (by omega))
    have h2 := h n (Nat.lt_succ_self n)
    show sI f n + f n ≤ sI g n + g n
    omega
theorem cnt_sI {V : Nat → Int32} {C : Int} : ∀ {n : Nat}, sI (fun r => if -1 < V r then C else 0) n = cntV V n * C
  | 0 => by simp [sI, cntV]
  | n + 1 => by
    show sI (fun r => if -1 < V r then C else 0) n + (if -1 < V n then C else 0) = ((cntV V n + (if -1 < V n then 1 else 0) : Nat) : Int) * C
    rw [cnt_sI (n := n), Int.natCast_add, Int.add_mul]
    split <;> simp
theorem left_num {a : CS} {s nr : Nat} (h80 : nr ≤ 80) (hh : ∀ r, r < nr → 0 ≤ (a.2.1 3 3 r).toInt ∧ (a.2.1 3 3 r).toInt ≤ 40000) (hC0 : 0 ≤ (cI a 4 4 s).toInt) (hCb : (cI a 4 4 s).toInt ≤ 4000000) (hsum : (cI a 4 4 s).toInt = sI (fun r => if kS a (kD a r) = s then (a.2.1 3 3 r).toInt else 0) nr)
    (hl0 : 0 ≤ (kShLoss a s).toInt) (hl20 : 20 * (kShLoss a s).toInt ≤ (cI a 4 4 s).toInt) :
    (∀ r, r < nr → kLiveIn a s r = true → -1 < kRestOf a (cI a 4 4 s) (kShLoss a s) r ∧ 0 ≤ (shv a s r).toInt ∧ 20 * (shv a s r).toInt ≤ (a.2.1 3 3 r).toInt) ∧ 0 ≤ (lft (shv a s) 0 nr (kShLoss a s)).toInt ∧ (lft (shv a s) 0 nr (kShLoss a s)).toInt ≤ cntV (rev9 a s) nr ∧ (lft (shv a s) 0 nr (kShLoss a s)).toInt ≤ (kShLoss a s).toInt := by
  have lv : ∀ r, kLiveIn a s r = true ↔ 0 < (a.2.1 3 3 r).toInt ∧ kS a (kD a r) = s := fun r => by
    unfold kLiveIn
    rw [Bool.and_eq_true, decide_eq_true_eq, decide_eq_true_eq, i32_lt, i32_0]
  have hpos : ∀ r, r < nr → kLiveIn a s r = true → 0 < (cI a 4 4 s).toInt := fun r hr hl => by
    have h1 := (lv r).mp hl
    have h2 := sI_ge (f := fun r => if kS a (kD a r) = s then (a.2.1 3 3 r).toInt else 0) (r := r) (n := nr) hr (fun i hi => by
      show 0 ≤ (if kS a (kD a i) = s then (a.2.1 3 3 i).toInt else 0)
      split
      · exact (hh i hi).1
      · exact Int.le_refl 0)
    rw [← hsum] at h2
    simp only [if_pos h1.2] at h2
    omega
  have num : ∀ r, r < nr → kLiveIn a s r = true → (shv a s r).toInt * (cI a 4 4 s).toInt + (kRestOf a (cI a 4 4 s) (kShLoss a s) r).toInt = (kShLoss a s).toInt * (a.2.1 3 3 r).toInt ∧ 0 ≤ (kRestOf a (cI a 4 4 s) (kShLoss a s) r).toInt ∧ (kRestOf a (cI a 4 4 s) (kShLoss a s) r).toInt < (cI a 4 4 s).toInt ∧ 0 ≤ (shv a s r).toInt ∧ 20 * (shv a s r).toInt ≤ (a.2.1 3 3 r).toInt := fun r hr hl => by
    have e : shv a s r = kShareOf a (cI a 4 4 s) (kShLoss a s) r := if_pos hl
    rw [e]
    exact share_num hl0 (hh r hr).1 (hh r hr).2 hCb (hpos r hr hl) hl20
  have hz : ∀ r, ¬ kLiveIn a s r = true → shv a s r = 0 ∧ rev9 a s r = -1 := fun r hl => ⟨if_neg hl, if_neg hl⟩
  have hf : ∀ r, r < nr → 0 ≤ (shv a s r).toInt ∧ (shv a s r).toInt ≤ 2000 := fun r hr => by
    by_cases hl : kLiveIn a s r = true
    · obtain ⟨-, -, -, n4, n5⟩ := num r hr hl
      have := (hh r hr).2
      constructor <;> omega
    · rw [(hz r hl).1, i32_0]; omega
  have hint := lft_int (f := shv a s) hl0 (by omega) nr h80 hf
  have hS0 := sI_nn (f := fun r => (shv a s r).toInt) (n := nr) (fun r hr => (hf r hr).1)
  refine ⟨fun r hr hl => ?_, ?_, ?_, by omega⟩
  · obtain ⟨n1, n2, n3, n4, n5⟩ := num r hr hl
    exact ⟨by rw [i32_lt, show (-1 : Int32).toInt = -1 by decide]; omega, n4, n5⟩
  · by_cases hC : 0 < (cI a 4 4 s).toInt
    · refine Int.le_of_mul_le_mul_right ?_ hC
      rw [Int.zero_mul, hint, Int.sub_mul]
      have t1 : sI (fun r => (shv a s r).toInt) nr * (cI a 4 4 s).toInt ≤ (kShLoss a s).toInt * (cI a 4 4 s).toInt := by
        rw [Int.mul_comm, ← sI_mul]
        conv => rhs; rw [hsum, ← sI_mul]
        refine sI_mono (fun r hr => ?_)
        by_cases hl : kLiveIn a s r = true
        · obtain ⟨n1, n2, n3, n4, n5⟩ := num r hr hl
          simp only [if_pos ((lv r).mp hl).2]
          rw [Int.mul_comm]
          omega
        · simp only [(hz r hl).1, i32_0, Int.mul_zero]
          split
          · exact Int.mul_nonneg hl0 (hh r hr).1
          · rw [Int.mul_zero]; exact Int.le_refl 0
      omega
    · have e0 : sI (fun r => (shv a s r).toInt) nr = 0 := sI_0 (fun r hr => by
        have hl : ¬ kLiveIn a s r = true := fun z => hC (hpos r hr z)
        show (shv a s r).toInt = 0
        rw [(hz r hl).1]; exact i32_0)
      omega
  · by_cases hC : 0 < (cI a 4 4 s).toInt
    · refine Int.le_of_mul_le_mul_right ?_ hC
      rw [hint, Int.sub_mul, ← cnt_sI]
      have t2 : (kShLoss a s).toInt * (cI a 4 4 s).toInt ≤ sI (fun r => (cI a 4 4 s).toInt * (shv a s r).toInt + (if -1 < rev9 a s r then (cI a 4 4 s).toInt else 0)) nr := by
        conv => lhs; rw [hsum, ← sI_mul]
        refine sI_mono (fun r hr => ?_)
        by_cases hl : kLiveIn a s r = true
        · obtain ⟨n1, n2, n3, n4, n5⟩ := num r hr hl
          have e9 : rev9 a s r = kRestOf a (cI a 4 4 s) (kShLoss a s) r := if_pos hl
          have g : -1 < rev9 a s r := by rw [e9, i32_lt, show (-1 : Int32).toInt = -1 by decide]; omega
          simp only [if_pos ((lv r).mp hl).2, if_pos g]
          rw [Int.mul_comm] at n1
          omega
        · have h0 : (kShLoss a s).toInt * (if kS a (kD a r) = s then (a.2.1 3 3 r).toInt else 0) = 0 := by
            by_cases hk : kS a (kD a r) = s
            · have : (a.2.1 3 3 r).toInt = 0 := by
                have h1 := (hh r hr).1
                have h2 : ¬ 0 < (a.2.1 3 3 r).toInt := fun z => hl ((lv r).mpr ⟨z, hk⟩)
                omega
              rw [if_pos hk, this, Int.mul_zero]
            · rw [if_neg hk, Int.mul_zero]
          simp only [h0, (hz r hl).1, (hz r hl).2, i32_0, Int.mul_zero]
          rw [if_neg (show ¬ ((-1 : Int32) < -1) by decide)]
          exact Int.le_refl 0
      rw [sI_add, sI_mul, Int.mul_comm (cI a 4 4 s).toInt] at t2
      omega
    · have e0 : (kShLoss a s).toInt ≤ 0 := by omega
      omega
/-- a silo shrinks -/
theorem shrink_sim {B : Nat} {a : CS} {b : MS} (h : SC sL B a b) {s : Nat} (hs9 : s < cL a 0) :
    SC sL B (kShrink a s) (mShrink b (nI s)) ∧ (∃ n9, n9 ≤ 80 ∧ (kSh1 s (cI a 4 4 s) (kShLoss a s) 0 (cL a 2) a (kShLoss a s)).2 = nI n9) ∧ mHz b (nI s) ∧ (mShrink b (nI s)).1 = b.1 ∧ ∀ q, q ≠ 44 → q ≠ 45 → q ≠ 21 → q ≠ 9 → q ≠ 25 → q ≠ 12 → (mShrink b (nI s)).2.1 q = b.2.1 q := by
  obtain ⟨ci, e, sc, ct, ac, ow, gr, no, dl, ds, hd, pl, co, tw, wf, hs, sm, pe, de, ze, cn, rm, bt⟩ := id h
  have h80 := ci.2.1.2
  have h06 := ci.2.2.1.2
  have hs6 : s < 6 := by omega
  have e9 : b.2.1 9 = a.2.1 4 4 := e (9, 4, 4) (by decide)
  have e21 : b.2.1 21 = a.2.1 3 3 := e (21, 3, 3) (by decide)
  have e12 : b.2.1 12 = a.2.1 4 5 := e (12, 4, 5) (by decide)
  have hh : ∀ r, r < cL a 2 → 0 ≤ (a.2.1 3 3 r).toInt ∧ (a.2.1 3 3 r).toInt ≤ 40000 := by rw [← e21]; exact hs
  have hb9 := sm.bd hs h80 hs9
  have hC0 : 0 ≤ (cI a 4 4 s).toInt := by rw [← show b.2.1 9 s = cI a 4 4 s by rw [e9]]; exact hb9.1
  have hCb : (cI a 4 4 s).toInt ≤ 4000000 := by
    rw [← show b.2.1 9 s = cI a 4 4 s by rw [e9]]; omega
  have h23 : ∀ r, r < cL a 2 → (b.2.1 23 r = nI s ↔ kS a (kD a r) = s) := fun r hr => by
    have hrN : r < cN a 3 := by rw [← ci.2.1.1]; exact hr
    have hsr : kS a (kD a r) < cN a 4 := (ci.1.1.2.1 _ (ci.1.1.1 r hrN).2.1).2
    have h64 := ci.2.2.1.1
    rw [show b.2.1 23 r = nI (kS a (kD a r)) from (dl r hr).2]
    exact nI_eq (by omega) (by omega)
  have hsum : (cI a 4 4 s).toInt = sI (fun r => if kS a (kD a r) = s then (a.2.1 3 3 r).toInt else 0) (cL a 2) := by
    rw [← show b.2.1 9 s = cI a 4 4 s by rw [e9], sm s hs9]
    refine sI_congr (fun r hr => ?_)
    rw [e21]
    by_cases hz : b.2.1 23 r = nI s
    · rw [if_pos hz, if_pos ((h23 r hr).mp hz)]
    · rw [if_neg hz, if_neg (fun z => hz ((h23 r hr).mpr z))]
  have hln := loss_num (rt := cI a 6 6 0) hC0 hCb (by rw [← sc.2.1]; exact bt.1) (by rw [← sc.2.1]; exact bt.2)
  have hl0 : 0 ≤ (kShLoss a s).toInt := hln.1
  have hl20 : 20 * (kShLoss a s).toInt ≤ (cI a 4 4 s).toInt := hln.2
  obtain ⟨q1, q2, q3, q4⟩ := left_num (a := a) (s := s) h80 hh hC0 hCb hsum hl0 hl20
  have a0 : kTk a s (cL a 2) (shA a s 0) (remA a s 0) = a := by
    have : remA a s 0 = a.2.1 3 8 := by
      funext r
      exact if_neg (fun z => Nat.not_lt_zero _ z.1)
    rw [this]
    exact kTk_0 (fun i => if_neg (Nat.not_lt_zero _))
  have c1 := kSh1_cl a s (cL a 2) (cL a 2) 0 (kShLoss a s) (by omega)
  rw [a0, Nat.zero_add] at c1
  have ecl : (gS b 20).toNatClampNeg = cL a 2 := by rw [show gS b 20 = nI (cL a 2) from ct.2.2.1]; exact nI_clamp (by omega)
  have g9 : gA b 9 (nI s) = cI a 4 4 s := by rw [gA_nI _ _ (by omega), e9]
  have eL : mLoss b (nI s) = kShLoss a s := by
    unfold mLoss kShLoss
    rw [g9, show gS b 2 = cI a 6 6 0 from sc.2.1]
  obtain ⟨m1, m2, m3, m4, m5, m6⟩ := mSh1_cl (a := a) (s := s) hs6 (cL a 2) 0 b (kShLoss a s) (by omega) (fun r hr => ⟨h23 r (by omega), by rw [e21]⟩)
  have hz : mHz b (nI s) := by
    intro nr' hnr' h20 i hi hi23 hi21 h0
    have enr : nr' = cL a 2 := (nI_eq (by omega) (by omega)).mp (h20.symm.trans ct.2.2.1)
    rw [enr] at hi
    rw [gA_nI _ _ (by omega)] at hi23 hi21
    rw [g9] at h0
    have h00 := congrArg Int64.toInt h0
    rw [Int32.toInt_toInt64, show (0 : Int64).toInt = 0 by decide] at h00
    have hge := sm.ge hs hi hs9 hi23
    rw [show b.2.1 9 s = cI a 4 4 s by rw [e9], h00] at hge
    rw [i32_le, i32_0] at hi21
    omega
  have hleft : ∃ n9, n9 ≤ 80 ∧ (kSh1 s (cI a 4 4 s) (kShLoss a s) 0 (cL a 2) a (kShLoss a s)).2 = nI n9 := by
    rw [c1]
    have hcl := cntV_le (V := rev9 a s) (n := cL a 2)
    refine ⟨(lft (shv a s) 0 (cL a 2) (kShLoss a s)).toInt.toNat, by omega, ?_⟩
    refine Int32.toInt_inj.mp ?_
    rw [nI_toInt (by omega)]
    show (lft (shv a s) 0 (cL a 2) (kShLoss a s)).toInt = _
    omega
  have eM : mShrink b (nI s) = mX (mSh3 (kShLoss a s) 0 (cL a 2) (mSh2 (lft (shv a s) 0 (cL a 2) (kShLoss a s)).toInt.toNat (mSh1 (nI s) (cI a 4 4 s) (kShLoss a s) 0 (cL a 2) b (kShLoss a s)).1)) 12 (nI s) (gA (mSh3 (kShLoss a s) 0 (cL a 2) (mSh2 (lft (shv a s) 0 (cL a 2) (kShLoss a s)).toInt.toNat (mSh1 (nI s) (cI a 4 4 s) (kShLoss a s) 0 (cL a 2) b (kShLoss a s)).1)) 12 (nI s) + kShLoss a s) := by
    unfold mShrink
    simp only
    rw [g9, eL, ecl, m6]
  rw [eM]
  generalize hb1 : (mSh1 (nI s) (cI a 4 4 s) (kShLoss a s) 0 (cL a 2) b (kShLoss a s)).1 = b1 at *
  have hcv : cntV (b1.2.1 45) (cL a 2) = cntV (rev9 a s) (cL a 2) := cntV_congr (fun i hi => by rw [m5, if_pos ⟨Nat.zero_le _, by omega⟩])
  by_cases hl : 0 < kShLoss a s
  · have hCpos : ¬ cI a 4 4 s ≤ 0 := by
      rw [i32_lt, i32_0] at hl
      rw [i32_le, i32_0]
      omega
    have hR : sRl a s (cL a 2) (shA a s (cL a 2)) (remA a s (cL a 2)) b1 := by
      refine ⟨fun r hr => ?_, fun r hr => if_neg (by omega), fun r hr hlr => ?_, fun r hr hlr => ?_, by rw [m1]; exact ct.2.2.1⟩
      · rw [m4, if_pos ⟨Nat.zero_le _, by omega⟩]
        exact (if_pos hr).symm
      · obtain ⟨n1, n2, n3⟩ := q1 r hr hlr
        have er : remA a s (cL a 2) r = kRestOf a (cI a 4 4 s) (kShLoss a s) r := if_pos ⟨hr, hlr⟩
        have es : shA a s (cL a 2) r = shv a s r := if_pos hr
        have hlv := hlr
        unfold kLiveIn at hlv
        rw [Bool.and_eq_true, decide_eq_true_eq, decide_eq_true_eq, i32_lt, i32_0] at hlv
        have hlv1 : 0 < (a.2.1 3 3 r).toInt := hlv.1
        rw [m5, if_pos ⟨Nat.zero_le _, by omega⟩, er, es]
        exact ⟨if_pos hlr, Int32.le_of_lt n1, n2, by omega, fun _ => by omega⟩
      · have hlr' : ¬ kLiveIn a s r = true := by rw [hlr]; decide
        rw [m5, if_pos ⟨Nat.zero_le _, by omega⟩]
        exact ⟨if_neg hlr', (if_pos hr).trans (if_neg hlr')⟩
    obtain ⟨sh', rem', p1, p2, p3, p4, p5⟩ := picks h80 rfl hh (lft (shv a s) 0 (cL a 2) (kShLoss a s)).toInt.toNat _ _ b1 hR (by rw [hcv]; omega)
    generalize hb2 : mSh2 (lft (shv a s) 0 (cL a 2) (kShLoss a s)).toInt.toNat b1 = b2 at *
    obtain ⟨r1, r2, r3, r4, r5⟩ := p2
    have hlive : ∀ r, r < cL a 2 → ¬ sh' r = 0 → 0 < cI a 3 3 r ∧ kS a (kD a r) = s := fun r hr hnz => by
      by_cases hlr : kLiveIn a s r = true
      · unfold kLiveIn at hlr
        rwa [Bool.and_eq_true, decide_eq_true_eq, decide_eq_true_eq] at hlr
      · exact absurd (r4 r hr (by simpa using hlr)).2 hnz
    have hsh : ∀ r, r < cL a 2 → 0 ≤ (sh' r).toInt ∧ (sh' r).toInt ≤ (a.2.1 3 3 r).toInt := fun r hr => by
      by_cases hlr : kLiveIn a s r = true
      · obtain ⟨g1, g2, g3, g4, g5⟩ := r3 r hr hlr
        exact ⟨g3, g4⟩
      · rw [(r4 r hr (by simpa using hlr)).2, i32_0]
        exact ⟨Int.le_refl 0, (hh r hr).1⟩
    have s0 : SC sL B (kTk a s (cL a 2) (shR sh' 0) (a.2.1 3 8)) b2 := by
      rw [kTk_0 (sh := shR sh' 0) (fun i => if_neg (Nat.not_lt_zero _))]
      exact h.rows sL_ok (by rw [p4, m1]) (by rw [p5, m2]) (fun q a1 a2 => by rw [p3 q a1 a2, m3 q a1 a2])
    obtain ⟨l1, l2, l3⟩ := lose_all (B := B) (loss := kShLoss a s) rfl h80 hs6 hlive hsh (Int32.not_le.mpr hl) (cL a 2) 0 b2 (by omega) s0 r1
    have eR : shR sh' (cL a 2) = sh' := by
      funext r
      unfold shR
      by_cases hr : r < cL a 2
      · rw [if_pos hr]
      · rw [if_neg hr, r2 r (by omega)]
    rw [eR] at l1
    have l4 := (l1.rem sL_ok rem').set12 sL_ok (s := s) hs9 (b.2.1 12 s + kShLoss a s)
    have v12 : (mSh3 (kShLoss a s) 0 (cL a 2) b2).2.1 12 s = b.2.1 12 s := by rw [l2 12 (by decide) (by decide) (by decide), p3 12 (by decide) (by decide), m3 12 (by decide) (by decide)]
    have g12 : gA (mSh3 (kShLoss a s) 0 (cL a 2) b2) 12 (nI s) = b.2.1 12 s := by rw [gA_nI _ _ (by omega), v12]
    have eK : kShrink a s = cSI (kTk a s (cL a 2) sh' rem') 4 5 s (b.2.1 12 s + kShLoss a s) := by
      unfold kShrink
      rw [if_neg hCpos, if_pos hl]
      simp only
      rw [c1]
      simp only
      rw [show (lft (shv a s) 0 (cL a 2) (kShLoss a s)).toNatClampNeg = (lft (shv a s) 0 (cL a 2) (kShLoss a s)).toInt.toNat from rfl, p1]
      rw [show cI (kTk a s (cL a 2) sh' rem') 4 5 s = b.2.1 12 s by rw [e12]; show (kTk a s (cL a 2) sh' rem').2.1 4 5 s = _; rw [kTk_rd, if_neg (by omega), if_neg (by omega), if_neg (by omega), if_neg (by omega)]]
    rw [eK, g12]
    refine ⟨l4, hleft, hz, by rw [mX_1, l3, p4, m1], fun q a1 a2 a3 a4 a5 a6 => by rw [mX_ne _ a6, l2 q a3 a4 a5, p3 q a1 a2, m3 q a1 a2]⟩
  · have hle := Int32.not_lt.mp hl
    have hl00 : kShLoss a s = 0 := by
      rw [i32_le, i32_0] at hle
      rw [i32_eq0]; omega
    have hj : (lft (shv a s) 0 (cL a 2) (kShLoss a s)).toInt.toNat = 0 := by
      rw [i32_le, i32_0] at hle
      omega
    have eK : kShrink a s = a := by
      unfold kShrink
      split
      · rfl
      · first | rfl | rw [if_neg hl]
    rw [eK, hj, mSh3_stop hle, show mSh2 0 b1 = b1 from rfl]
    have g12 : gA b1 12 (nI s) + kShLoss a s = b1.2.1 12 s := by rw [gA_nI _ _ (by omega), hl00, Int32.add_zero]
    rw [g12]
    have e2 := mX_self b1 12 s (by omega)
    refine ⟨h.rows sL_ok (by rw [mX_1, m1]) (by rw [mX_22, m2]) (fun q a1 a2 => by rw [e2, m3 q a1 a2]), hleft, hz, by rw [mX_1]; exact m1, fun q a1 a2 _ _ _ _ => ?_⟩
    show (mX b1 12 (nI s) (b1.2.1 12 s)).2.1 q = _
    rw [e2, m3 q a1 a2]
