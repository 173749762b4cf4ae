/-! the two states, related: numbers and sums -/
theorem gA_nI (b : MS) (k : Nat) {i : Nat} (h : i < 2 ^ 31) : gA b k (nI i) = b.2.1 k i := by
  show b.2.1 k (nI i).toNatClampNeg = _
  rw [nI_clamp h]
theorem mX_at (b : MS) (k : Nat) {i : Nat} (h : i < 2 ^ 31) (x : Int32) : (mX b k (nI i) x).2.1 k = upd (b.2.1 k) i x := by
  show u2 b.2.1 k (nI i).toNatClampNeg x k = _
  rw [nI_clamp h, u2_same]
theorem mX_ne (b : MS) {k k' : Nat} (h : k' ≠ k) (i x : Int32) : (mX b k i x).2.1 k' = b.2.1 k' := u2_other _ h _ _
theorem mX_rd (b : MS) (k k' i : Nat) (h : i < 2 ^ 31) (x : Int32) (j : Nat) : (mX b k (nI i) x).2.1 k' j = if k' = k ∧ j = i then x else b.2.1 k' j := by
  by_cases hk : k' = k
  · subst hk
    rw [mX_at b k' h]
    unfold upd
    by_cases hj : j = i
    · rw [if_pos hj, if_pos ⟨rfl, hj⟩]
    · rw [if_neg hj, if_neg (fun z => hj z.2)]
  · rw [mX_ne b hk, if_neg (fun z => hk z.1)]
theorem u3_at {α : Type} (f : Nat → Nat → Nat → α) (j k i : Nat) (x : α) : u3 f j k i x j k = fun q => if q = i then x else f j k q := by
  funext q
  by_cases h : q = i
  · simp [u3, h]
  · simp [u3, h]
theorem u3_ne {α : Type} (f : Nat → Nat → Nat → α) {j k j' k' : Nat} (i : Nat) (x : α) (h : (j', k') ≠ (j, k)) : u3 f j k i x j' k' = f j' k' := by
  funext q
  unfold u3
  rw [if_neg]
  rintro ⟨rfl, rfl, -⟩
  exact h rfl
theorem i32_0 : (0 : Int32).toInt = 0 := by decide
theorem i32_le {x y : Int32} : x ≤ y ↔ x.toInt ≤ y.toInt := Int32.le_iff_toInt_le
theorem i32_lt {x y : Int32} : x < y ↔ x.toInt < y.toInt := Int32.lt_iff_toInt_lt
theorem i32_sub {x y : Int32} (h1 : -2147483648 ≤ x.toInt - y.toInt) (h2 : x.toInt - y.toInt < 2147483648) : (x - y).toInt = x.toInt - y.toInt := by
  rw [Int32.toInt_sub, Int.bmod_eq_of_le (by omega) (by omega)]
theorem i32_add {x y : Int32} (h1 : -2147483648 ≤ x.toInt + y.toInt) (h2 : x.toInt + y.toInt < 2147483648) : (x + y).toInt = x.toInt + y.toInt := by
  rw [Int32.toInt_add, Int.bmod_eq_of_le (by omega) (by omega)]
theorem i32_bd (x : Int32) : -2147483648 ≤ x.toInt ∧ x.toInt < 2147483648 := ⟨Int32.le_toInt x, Int32.toInt_lt x⟩
theorem i32_eq0 {x : Int32} : x = 0 ↔ x.toInt = 0 := by rw [← Int32.toInt_inj, i32_0]
/-- a sum of whole numbers -/
def sI (f : Nat → Int) : Nat → Int
  | 0 => 0
  | n + 1 => sI f n + f n
theorem sI_congr {f g : Nat → Int} : ∀ {n : Nat}, (∀ i, i < n → f i = g i) → sI f n = sI g n
  | 0, _ => rfl
  | n + 1, h => by
    show sI f n + f n = sI g n + g n
    rw [sI_congr (n := n) (fun i hi => h i (by omega)), h n (Nat.lt_succ_self n)]
theorem sI_upd {f g : Nat → Int} {r : Nat} : ∀ {n : Nat}, r < n → (∀ i, i < n → i ≠ r → f i = g i) → sI f n = sI g n - g r + f r
  | 0, h, _ => by omega
  | n + 1, h, he => by
    show sI f n + f n = sI g n + g n - g r + f r
    by_cases hr : r = n
    · subst hr
      rw [sI_congr (f := f) (g := g) (n := r) (fun i hi => he i (by omega) (by omega))]
      omega
    · rw [sI_upd (n := n) (by omega) (fun i hi hne => he i (by omega) hne), he n (Nat.lt_succ_self n) (fun z => hr z.symm)]
      omega
theorem sI_nn {f : Nat → Int} : ∀ {n : Nat}, (∀ i, i < n → 0 ≤ f i) → 0 ≤ sI f n
  | 0, _ => Int.le_refl 0
  | n + 1, h => by
    have h1 := sI_nn (f := f) (n := n) (fun i hi => h i (by omega))
    have h2 := h n (Nat.lt_succ_self n)
    show 0 ≤ sI f n + f n
    omega
theorem sI_ge {f : Nat → Int} {r : Nat} : ∀ {n : Nat}, r < n → (∀ i, i < n → 0 ≤ f i) → f r ≤ sI f n
  | 0, h, _ => by omega
  | n + 1, h, hn => by
    have h2 := hn n (Nat.lt_succ_self n)
    show f r ≤ sI f n + f n
    by_cases hr : r = n
    · subst hr
      have h1 := sI_nn (f := f) (n := r) (fun i hi => hn i (by omega))
      omega
    · have h1 := sI_ge (f := f) (r := r) (n := n) (by omega) (fun i hi => hn i (by omega))
      omega
theorem sI_le {f : Nat → Int} {c : Int} : ∀ {n : Nat}, (∀ i, i < n → f i ≤ c) → sI f n ≤ n * c
  | 0, _ => by simp [sI]
  | n + 1, h => by
    have h1 := sI_le (f := f) (n := n) (fun i hi => h i (by omega))
    have h2 := h n (Nat.lt_succ_self n)
    show sI f n + f n ≤ _
    rw [show ((n + 1 : Nat) : Int) * c = n * c + c by rw [Int.natCast_add, Int.add_mul]; simp]
    omega
theorem sI_0 {f : Nat → Int} {n : Nat} (h : ∀ i, i < n → f i = 0) : sI f n = 0 := by
  rw [sI_congr (g := fun _ => 0) h]
  induction n with
  | zero => rfl
  | succ n ih =>
    show sI (fun _ => 0) n + 0 = 0
    rw [ih (fun i hi => h i (by omega))]
    rfl
theorem sI_add {f g : Nat → Int} : ∀ {n : Nat}, sI (fun i => f i + g i) n = sI f n + sI g n
  | 0 => rfl
  | n + 1 => by
    show sI (fun i => f i + g i) n + (f n + g n) = sI f n + f n + (sI g n + g n)
    rw [sI_add (n := n)]
    omega
theorem sI_mul {f : Nat → Int} {c : Int} : ∀ {n : Nat}, sI (fun i => c * f i) n = c * sI f n
  | 0 => by simp [sI]
  | n + 1 => by
    show sI (fun i => c * f i) n + c * f n = c * (sI f n + f n)
    rw [sI_mul (n := n), Int.mul_add]
/-- the last of a row, one more -/
theorem mLastF_snoc (f : Nat → Int32 → Int32) : ∀ (k i : Nat) (acc : Int32), mLastF f i (k + 1) acc = f (i + k) (mLastF f i k acc)
  | 0, i, acc => rfl
  | k + 1, i, acc => by
    show mLastF f (i + 1) (k + 1) (f i acc) = f (i + (k + 1)) (mLastF f (i + 1) k (f i acc))
    rw [mLastF_snoc f k (i + 1) (f i acc), show i + 1 + k = i + (k + 1) by omega]
theorem mLastF_congr {f g : Nat → Int32 → Int32} : ∀ (k i : Nat) (acc : Int32), (∀ q w, i ≤ q → q < i + k → f q w = g q w) → mLastF f i k acc = mLastF g i k acc
  | 0, i, acc, _ => rfl
  | k + 1, i, acc, h => by
    show mLastF f (i + 1) k (f i acc) = mLastF g (i + 1) k (g i acc)
    rw [h i acc (Nat.le_refl i) (by omega), mLastF_congr k (i + 1) _ (fun q w h1 h2 => h q w (by omega) (by omega))]
theorem mSumF_last (f : Nat → Int32) : ∀ (k i : Nat) (acc : Int32), mSumF f i k acc = mLastF (fun q w => w + f q) i k acc
  | 0, i, acc => rfl
  | k + 1, i, acc => mSumF_last f k (i + 1) (acc + f i)
/-! the relation -/
def sOI (o : Option Nat) : Int32 := match o with
  | none => -1
  | some c => nI c
/-- a row of the reference, a kind and a field of the class -/
def sL : List (Nat × Nat × Nat) := [(21, 3, 3), (25, 3, 4), (8, 4, 1), (9, 4, 4), (12, 4, 5), (14, 2, 1), (15, 2, 5), (16, 2, 6), (17, 2, 2), (18, 2, 3), (34, 1, 1), (35, 1, 2), (36, 1, 3), (37, 1, 4), (38, 1, 5), (39, 1, 6), (40, 1, 7), (41, 1, 8), (43, 1, 10), (42, 1, 9)]
def sL2 : List (Nat × Nat × Nat) := [(21, 3, 3), (25, 3, 4), (8, 4, 1), (9, 4, 4), (12, 4, 5), (14, 2, 1), (15, 2, 5), (16, 2, 6), (17, 2, 2), (18, 2, 3), (34, 1, 1), (35, 1, 2), (36, 1, 3), (37, 1, 4), (38, 1, 5), (39, 1, 6), (40, 1, 7), (41, 1, 8), (43, 1, 10)]
def sLok (L : List (Nat × Nat × Nat)) : Prop := ∀ p ∈ L, p ∈ sL
theorem sL_ok : sLok sL := fun _ h => h
theorem sL2_ok : sLok sL2 := by
  intro p h
  unfold sL2 at h
  unfold sL
  simp only [List.mem_cons, List.not_mem_nil, or_false] at h ⊢
  rcases h with h | h | h | h | h | h | h | h | h | h | h | h | h | h | h | h | h | h | h <;> simp [h]
theorem sL_inj : ∀ p ∈ sL, ∀ q ∈ sL, q ≠ p → q.1 ≠ p.1 ∧ q.2 ≠ p.2 := by decide
theorem sL_6 : ∀ p ∈ sL, p.2.1 ≠ 6 ∧ p.2.1 ≠ 5 ∧ p.1 ≠ 6 := by decide
def sEq (L : List (Nat × Nat × Nat)) (a : CS) (b : MS) : Prop := ∀ p ∈ L, b.2.1 p.1 = a.2.1 p.2.1 p.2.2
theorem sEq.set {L : List (Nat × Nat × Nat)} {a : CS} {b : MS} (h : sEq L a b) (hL : sLok L) {p : Nat × Nat × Nat} (hp : p ∈ sL) {i : Nat} (hi : i < 2 ^ 31) (x : Int32) : sEq L (cSI a p.2.1 p.2.2 i x) (mX b p.1 (nI i) x) := by
  intro q hq
  by_cases e : q = p
  · subst e
    rw [mX_at b _ hi, h q hq]
    show _ = u3 a.2.1 q.2.1 q.2.2 i x q.2.1 q.2.2
    rw [u3_at]
    rfl
  · obtain ⟨h1, h2⟩ := sL_inj p hp q (hL q hq) e
    rw [mX_ne b h1, h q hq]
    exact (u3_ne a.2.1 i x h2).symm
theorem sEq.setM {L : List (Nat × Nat × Nat)} {a : CS} {b : MS} (h : sEq L a b) {k : Nat} (hk : ∀ p ∈ L, p.1 ≠ k) (i x : Int32) : sEq L a (mX b k i x) := by
  intro q hq
  rw [mX_ne b (hk q hq), h q hq]
theorem sEq.setC {L : List (Nat × Nat × Nat)} {a : CS} {b : MS} (h : sEq L a b) {j k : Nat} (hk : ∀ p ∈ L, p.2 ≠ (j, k)) (i : Nat) (x : Int32) : sEq L (cSI a j k i x) b := by
  intro q hq
  rw [h q hq]
  exact (u3_ne a.2.1 i x (hk q hq)).symm
theorem sEq.to {L : List (Nat × Nat × Nat)} {a a' : CS} {b b' : MS} (h : sEq L a b) (h1 : b'.2.1 = b.2.1) (h2 : a'.2.1 = a.2.1) : sEq L a' b' := by
  intro q hq
  rw [h1, h2]
  exact h q hq
def sSc (a : CS) (b : MS) : Prop := b.1 1 = cI a 6 9 0 ∧ b.1 2 = cI a 6 6 0 ∧ b.1 3 = cI a 6 7 0 ∧ b.1 4 = cI a 6 8 0
def sCt (a : CS) (b : MS) : Prop := b.1 7 = nI (cL a 0) ∧ b.1 13 = nI (cL a 1) ∧ b.1 20 = nI (cL a 2) ∧ b.1 33 = nI (cL a 3)
def sGr (x10 x11 ct gr gd : Nat → Int32) : Prop := ∀ s, 0 < ct s → x10 s = gr s ∧ x11 s = gd s
def sNo (n : Nat) (f : Nat → Int32) : Prop := ∀ i, i < n → f i = nI i
def sDl (nr : Nat) (x23 x24 : Nat → Int32) (dl sl : Nat → Nat) : Prop := ∀ r, r < nr → x24 r = nI (dl r) ∧ x23 r = nI (sl r)
def sDs (nd : Nat) (x19 : Nat → Int32) (sl : Nat → Nat) : Prop := ∀ d, d < nd → x19 d = nI (sl d)
def sHd (nr : Nat) (x22 hd : Nat → Int32) : Prop := ∀ r, r < nr → x22 r = hd r
def sPl (nr : Nat) (p4 p5 p6 x26 x27 : Nat → Int32) : Prop := ∀ r, r < nr → (¬ p4 r = -1 → x26 r = p5 r ∧ x27 r = p6 r) ∧ (p4 r = -1 → p5 r = -1 ∧ p6 r = -1)
def sCo (nr : Nat) (x28 : Nat → Int32) (cr : Nat → Option Nat) : Prop := ∀ r, r < nr → x28 r = sOI (cr r)
/-- who held a receipt on a day, by the reference's changes -/
def mOwnF (x30 x31 x32 : Nat → Int32) (r : Nat) (day : Int32) : Nat → Int32 → Int32 := fun i who => if ¬ x30 i = nI r then who else if day < x31 i then who else x32 i
def mOwn (x30 x31 x32 : Nat → Int32) (nch r : Nat) (day : Int32) : Int32 := mLastF (mOwnF x30 x31 x32 r day) 0 nch (-1)
def sOw (a : CS) (x30 x31 x32 : Nat → Int32) (nch : Nat) : Prop := cDec a ∧ (∃ ow : Nat → Nat, (∀ r, r < cN a 3 → ow (kT a r) = r) ∧ ∀ t t', t < cN a 5 → cR a 5 1 t = some t' → ow t' = ow t) ∧ ∀ r, r < cN a 3 → ∀ day, kOwn a day (kT a r) = mOwn x30 x31 x32 nch r day
def sHas (nr : Nat) (x21 : Nat → Int32) : Prop := ∀ r, r < nr → 0 ≤ (x21 r).toInt ∧ (x21 r).toInt ≤ 40000
def sSum (ns nr : Nat) (x9 x21 x23 : Nat → Int32) : Prop := ∀ s, s < ns → (x9 s).toInt = sI (fun r => if x23 r = nI s then (x21 r).toInt else 0) nr
def sPe (nr : Nat) (x21 x25 : Nat → Int32) : Prop := ∀ r, r < nr → x21 r = 0 → x25 r = -1
def sDe (nd : Nat) (x15 x16 : Nat → Int32) : Prop := ∀ d, d < nd → (100 ≤ (x15 d).toInt ∧ (x15 d).toInt ≤ 40000) ∧ 0 ≤ (x16 d).toInt ∧ (x16 d).toInt ≤ 40000
def sZ (n : Nat) (f : Nat → Int32) : Prop := ∀ i, n ≤ i → f i = 0
/-- how many are pledged -/
def nPl (x25 : Nat → Int32) : Nat → Nat
  | 0 => 0
  | n + 1 => nPl x25 n + if x25 n = -1 then 0 else 1
def sCn (B nr : Nat) (S29 : Int32) (x25 x30 : Nat → Int32) (ten : Int32) : Prop := ∃ nch tn : Nat, S29 = nI nch ∧ ten = nI tn ∧ tn ≤ nch ∧ nch + nPl x25 nr ≤ nr + B ∧ ∀ i, i < nch → ∃ q, q < nr ∧ x30 i = nI q
def sRm (ns : Nat) (x8 : Nat → Int32) : Prop := ∀ s, s < ns → 1 ≤ (x8 s).toInt ∧ (x8 s).toInt ≤ 1000000
def sBt (b : MS) : Prop := 0 ≤ (b.1 2).toInt ∧ (b.1 2).toInt ≤ 5000
/-- the two states, and what holds of them -/
def SC (L : List (Nat × Nat × Nat)) (B : Nat) (a : CS) (b : MS) : Prop :=
  cInv a ∧ sEq L a b ∧ sSc a b ∧ sCt a b ∧ b.2.2 = a.2.2.2.1 ∧ b.2.1 6 = a.2.2.2.2.1 ∧ sGr (b.2.1 10) (b.2.1 11) (a.2.1 4 4) (a.2.1 4 2) (a.2.1 4 3) ∧
  (sNo (cL a 0) (a.2.1 4 0) ∧ sNo (cL a 1) (a.2.1 2 0) ∧ sNo (cL a 2) (a.2.1 3 0) ∧ sNo (cL a 3) (a.2.1 1 0)) ∧
  sDl (cL a 2) (b.2.1 23) (b.2.1 24) (kD a) (fun r => kS a (kD a r)) ∧ sDs (cL a 1) (b.2.1 19) (kS a) ∧ sHd (cL a 2) (b.2.1 22) (fun r => cI a 5 2 (kT a r)) ∧ sPl (cL a 2) (a.2.1 3 4) (a.2.1 3 5) (a.2.1 3 6) (b.2.1 26) (b.2.1 27) ∧ sCo (cL a 2) (b.2.1 28) (fun r => cR a 3 7 r) ∧
  sOw a (b.2.1 30) (b.2.1 31) (b.2.1 32) (b.1 29).toNatClampNeg ∧ mWf b ∧ sHas (cL a 2) (b.2.1 21) ∧ sSum (cL a 0) (cL a 2) (b.2.1 9) (b.2.1 21) (b.2.1 23) ∧ sPe (cL a 2) (b.2.1 21) (b.2.1 25) ∧ sDe (cL a 1) (b.2.1 15) (b.2.1 16) ∧
  (sZ (cL a 0) (b.2.1 9) ∧ sZ (cL a 0) (b.2.1 12) ∧ sZ (cL a 3) (b.2.1 41) ∧ sZ (cL a 3) (b.2.1 42) ∧ sZ (cL a 3) (b.2.1 43)) ∧ sCn B (cL a 2) (b.1 29) (b.2.1 25) (b.2.1 30) (cI a 6 10 0) ∧ sRm (cL a 0) (b.2.1 8) ∧ sBt b
theorem SC.thr {L : List (Nat × Nat × Nat)} {B : Nat} {a : CS} {b : MS} (h : SC L B a b) (x : Int32) : SC L B a (mS b 0 x) := h
