/-! numbers in ranges -/
theorem nar_b2 (b : Bool) : narrow .boolean (.int (b2 b)) = .int (b2 b) := by cases b <;> rfl
def mIn (v a b : Int32) : Bool := decide (a ≤ v) && decide (v ≤ b)
theorem mIn_lo {v a b : Int32} (h : v < a) : mIn v a b = false := by simp [mIn, Int32.not_le.mpr h]
theorem mIn_hi {v a b : Int32} (h : b < v) : mIn v a b = false := by simp [mIn, Int32.not_le.mpr h]
theorem mIn_ok {v a b : Int32} (h : ¬ v < a) (h2 : ¬ b < v) : mIn v a b = true := by simp [mIn, Int32.not_lt.mp h, Int32.not_lt.mp h2]
theorem vin_toInt {x : Int32} {n : Nat} (h : vp_in x n) : 0 ≤ x.toInt ∧ x.toInt < n := vp_in_iff.mp h
theorem i_sub1 {x : Int32} (h : 0 ≤ x.toInt) : (x - 1).toInt = x.toInt - 1 := by
  have h2 := Int32.toInt_lt x
  rw [Int32.toInt_sub, show (1 : Int32).toInt = 1 by decide]
  rw [Int.bmod_eq_of_le (by omega) (by omega)]
theorem i_a1 (x : Int32) : x + 1 - 1 = x := by
  rw [Int32.add_sub_cancel]
theorem rin {r n : Int32} {N : Nat} (h : mIn r 0 (n - 1) = true) (hn : vp_in n (N + 1)) : vp_in r N := by
  obtain ⟨h1, h2⟩ := vin_toInt hn
  simp only [mIn, Bool.and_eq_true, decide_eq_true_eq, Int32.le_iff_toInt_le] at h
  rw [i_sub1 h1, show (0 : Int32).toInt = 0 by decide] at h
  exact vp_in_iff.mpr ⟨by omega, by omega⟩
theorem vin_mIn {x M : Int32} {N : Nat} (h : mIn x 0 M = true) (hM : M.toInt + 1 = N) : vp_in x N := by
  simp only [mIn, Bool.and_eq_true, decide_eq_true_eq, Int32.le_iff_toInt_le] at h
  rw [show (0 : Int32).toInt = 0 by decide] at h
  exact vp_in_iff.mpr ⟨by omega, by omega⟩
theorem vin_lt {x M : Int32} {N : Nat} (h : vp_in x (N + 1)) (hM : M.toInt = N) (hc : ¬ M ≤ x) : vp_in x N := by
  obtain ⟨h1, h2⟩ := vin_toInt h
  rw [Int32.le_iff_toInt_le] at hc
  exact vp_in_iff.mpr ⟨by omega, by omega⟩
theorem vin_ne {x M : Int32} {N : Nat} (h : vp_in x (N + 1)) (hM : M.toInt = N) (hc : ¬ x = M) : vp_in x N := by
  obtain ⟨h1, h2⟩ := vin_toInt h
  rcases Int.lt_or_eq_of_le (show x.toInt ≤ N by omega) with q | q
  · exact vp_in_iff.mpr ⟨by omega, by omega⟩
  · exact absurd (Int32.toInt_inj.mp (by omega)) hc
theorem vin_mono {x : Int32} {N M : Nat} (h : vp_in x N) (hM : N ≤ M) : vp_in x M := by
  obtain ⟨h1, h2⟩ := vin_toInt h
  exact vp_in_iff.mpr ⟨by omega, by omega⟩
theorem mk_in {x : Int32} {n : Nat} (h : vp_in x n) : vp_in (x + 1 - 1) n := by rw [i_a1]; exact h
theorem or_vin {x : Int32} {N : Nat} (h : x = -1 ∨ vp_in x N) (hc : ¬ x = -1) : vp_in x N := h.resolve_left hc
/-! the ranges of the reference's rows, whatever the place -/
def mOk (k : Nat) (x : Int32) : Prop := match k with
  | 14 => vp_in x 6
  | 19 => vp_in x 6
  | 22 => vp_in x 6
  | 23 => vp_in x 6
  | 24 => vp_in x 40
  | 25 => x = -1 ∨ vp_in x 6
  | 28 => x = -1 ∨ vp_in x 30
  | 34 => vp_in x 6
  | 35 => vp_in x 6
  | _ => True
def mWf (a : MS) : Prop := ∀ (k : Nat) (i : Nat), mOk k (a.2.1 k i)
theorem mWf_S {a : MS} (h : mWf a) (k : Nat) (x : Int32) : mWf (mS a k x) := h
theorem mWf_Y {a : MS} (h : mWf a) (i : Int32) (x : Int64) : mWf (mY a i x) := h
theorem mWf_X {a : MS} {k : Nat} (h : mWf a) (i : Int32) {x : Int32} (hx : mOk k x) : mWf (mX a k i x) := by
  intro q j
  by_cases hq : q = k
  · subst hq
    by_cases hj : j = i.toNatClampNeg
    · simp only [mX, u2, if_true, upd, if_pos hj]
      exact hx
    · simp only [mX, u2, if_true, upd, if_neg hj]
      exact h q j
  · simp only [mX, u2, if_neg hq]
    exact h q j
/-- how many silos, deliveries, receipts, contracts, changes there may be -/
def mCnt (a : MS) : Prop := vp_in (gS a 7) 7 ∧ vp_in (gS a 13) 41 ∧ vp_in (gS a 20) 81 ∧ vp_in (gS a 33) 31
theorem nI_inc (i : Nat) : nI i + Int32.ofInt 1 = nI (i + 1) := nI_1 i
theorem lp_exit {x : Int32} {nr i : Nat} (e : x = nI nr) (h : nr ≤ i) (hb : i < 2 ^ 31) : x ≤ nI i := by rw [e]; exact nI_le h hb
theorem lp_stay {x : Int32} {nr i : Nat} (e : x = nI nr) (h : i < nr) (hb : nr < 2 ^ 31) : ¬ x ≤ nI i := by rw [e]; exact nI_ge h hb
theorem vin_nI {i N : Nat} (h : i < N) (hN : N < 2 ^ 31) : vp_in (nI i) N := vp_in_nI h hN
/-- a sum along a row -/
def mSumF (f : Nat → Int32) : Nat → Nat → Int32 → Int32
  | _, 0, acc => acc
  | i, k + 1, acc => mSumF f (i + 1) k (acc + f i)
/-- the last that a row says -/
def mLastF (f : Nat → Int32 → Int32) : Nat → Nat → Int32 → Int32
  | _, 0, acc => acc
  | i, k + 1, acc => mLastF f (i + 1) k (f i acc)
/-- the first place from i on, of k places, with p -/
def mFst (p : Nat → Bool) : Nat → Nat → Option Nat
  | _, 0 => none
  | i, k + 1 => if p i = true then some i else mFst p (i + 1) k
theorem mFst_lt {p : Nat → Bool} : ∀ (k i j : Nat), mFst p i k = some j → i ≤ j ∧ j < i + k ∧ p j = true
  | 0, i, j, h => by simp [mFst] at h
  | k + 1, i, j, h => by
    by_cases c : p i = true
    · simp only [mFst, if_pos c] at h
      cases h
      exact ⟨Nat.le_refl _, by omega, c⟩
    · simp only [mFst, if_neg c] at h
      obtain ⟨h1, h2, h3⟩ := mFst_lt k (i + 1) j h
      exact ⟨by omega, by omega, h3⟩
theorem what8 : ∀ j, j < 8 → (nI j = 0 ∨ nI j = 1 ∨ nI j = 2 ∨ nI j = 3 ∨ nI j = 4 ∨ nI j = 5 ∨ nI j = 6 ∨ nI j = 7) := by decide
theorem what8c {w : Int32} (h : mIn w 0 7 = true) : w = 0 ∨ w = 1 ∨ w = 2 ∨ w = 3 ∨ w = 4 ∨ w = 5 ∨ w = 6 ∨ w = 7 := by
  obtain ⟨j, hj, rfl⟩ := vp_in_of (vin_mIn (N := 8) h (by decide)) (by decide)
  exact what8 j hj
