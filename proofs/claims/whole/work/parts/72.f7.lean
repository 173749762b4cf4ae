/-! the numbers of a loss -/
theorem i64_mul {x y : Int32} (hx : 0 ≤ x.toInt) (hy : 0 ≤ y.toInt) (hxb : x.toInt ≤ 4000000) (hyb : y.toInt ≤ 40000) : (x.toInt64 * y.toInt64).toInt = x.toInt * y.toInt ∧ 0 ≤ x.toInt * y.toInt ∧ x.toInt * y.toInt ≤ 160000000000 := by
  have h1 := Int.mul_nonneg hx hy
  have h2 := Int.mul_le_mul hxb hyb hy (by omega)
  refine ⟨?_, h1, by omega⟩
  rw [Int64.toInt_mul, Int32.toInt_toInt64, Int32.toInt_toInt64, Int.bmod_eq_of_le (by omega) (by omega)]
theorem i64_div {P : Int64} {C : Int32} (hP : 0 ≤ P.toInt) (hC : 0 < C.toInt) : (P / C.toInt64).toInt = P.toInt / C.toInt := by
  have hb := Int64.toInt_lt P
  have h1 : P.toInt.tdiv C.toInt = P.toInt / C.toInt := Int.tdiv_eq_ediv_of_nonneg hP
  have h2 : 0 ≤ P.toInt / C.toInt := Int.ediv_nonneg hP (by omega)
  have h3 : P.toInt / C.toInt ≤ P.toInt := Int.ediv_le_self _ hP
  rw [Int64.toInt_div, Int32.toInt_toInt64, h1, Int.bmod_eq_of_le (by omega) (by omega)]
theorem i64_to32 {P : Int64} (h0 : 0 ≤ P.toInt) (h1 : P.toInt < 2147483648) : P.toInt32.toInt = P.toInt := by
  rw [Int64.toInt_toInt32, Int.bmod_eq_of_le (by omega) (by omega)]
theorem loss_num {C rt : Int32} (hC : 0 ≤ C.toInt) (hCb : C.toInt ≤ 4000000) (hr : 0 ≤ rt.toInt) (hrb : rt.toInt ≤ 5000) : 0 ≤ ((C.toInt64 * rt.toInt64 / 100000).toInt32).toInt ∧ 20 * ((C.toInt64 * rt.toInt64 / 100000).toInt32).toInt ≤ C.toInt := by
  obtain ⟨m1, m2, m3⟩ := i64_mul hC hr hCb (by omega)
  have hb : C.toInt * rt.toInt ≤ C.toInt * 5000 := Int.mul_le_mul_of_nonneg_left hrb hC
  have e : (100000 : Int64) = (100000 : Int32).toInt64 := by decide
  have d : (C.toInt64 * rt.toInt64 / 100000).toInt = C.toInt * rt.toInt / 100000 := by
    rw [e, i64_div (by rw [m1]; exact m2) (by decide), m1]
    rfl
  rw [i64_to32 (by rw [d]; omega) (by rw [d]; omega), d]
  constructor <;> omega
theorem share_num {loss has C : Int32} (hl0 : 0 ≤ loss.toInt) (hh0 : 0 ≤ has.toInt) (hhb : has.toInt ≤ 40000) (hCb : C.toInt ≤ 4000000) (hC : 0 < C.toInt) (hle : 20 * loss.toInt ≤ C.toInt) :
    ((loss.toInt64 * has.toInt64 / C.toInt64).toInt32).toInt * C.toInt + ((loss.toInt64 * has.toInt64 - loss.toInt64 * has.toInt64 / C.toInt64 * C.toInt64).toInt32).toInt = loss.toInt * has.toInt ∧ 0 ≤ ((loss.toInt64 * has.toInt64 - loss.toInt64 * has.toInt64 / C.toInt64 * C.toInt64).toInt32).toInt ∧
    ((loss.toInt64 * has.toInt64 - loss.toInt64 * has.toInt64 / C.toInt64 * C.toInt64).toInt32).toInt < C.toInt ∧ 0 ≤ ((loss.toInt64 * has.toInt64 / C.toInt64).toInt32).toInt ∧ 20 * ((loss.toInt64 * has.toInt64 / C.toInt64).toInt32).toInt ≤ has.toInt := by
  obtain ⟨m1, m2, m3⟩ := i64_mul hl0 hh0 (by omega) hhb
  have d := i64_div (P := loss.toInt64 * has.toInt64) (C := C) (by rw [m1]; exact m2) hC
  rw [m1] at d
  have q0 : 0 ≤ loss.toInt * has.toInt / C.toInt := Int.ediv_nonneg m2 (by omega)
  have q1 : loss.toInt * has.toInt / C.toInt * C.toInt ≤ loss.toInt * has.toInt := Int.ediv_mul_le _ (by omega)
  have q2 : loss.toInt * has.toInt < (loss.toInt * has.toInt / C.toInt + 1) * C.toInt := Int.lt_ediv_add_one_mul_self _ hC
  have q3 : 20 * (loss.toInt * has.toInt) ≤ C.toInt * has.toInt := by
    have := Int.mul_le_mul_of_nonneg_right hle hh0
    rw [Int.mul_assoc] at this
    exact this
  have q4 : 20 * (loss.toInt * has.toInt / C.toInt) ≤ has.toInt := by
    refine Int.le_of_mul_le_mul_right ?_ hC
    rw [Int.mul_assoc, Int.mul_comm has.toInt]
    omega
  have p0 : 0 ≤ loss.toInt * has.toInt / C.toInt * C.toInt := Int.mul_nonneg q0 (by omega)
  rw [Int.add_mul, Int.one_mul] at q2
  have e1 : ((loss.toInt64 * has.toInt64 / C.toInt64).toInt32).toInt = loss.toInt * has.toInt / C.toInt := by
    rw [i64_to32 (by rw [d]; omega) (by rw [d]; omega), d]
  have e2 : (loss.toInt64 * has.toInt64 / C.toInt64 * C.toInt64).toInt = loss.toInt * has.toInt / C.toInt * C.toInt := by
    rw [Int64.toInt_mul, d, Int32.toInt_toInt64, Int.bmod_eq_of_le (by omega) (by omega)]
  have e3 : (loss.toInt64 * has.toInt64 - loss.toInt64 * has.toInt64 / C.toInt64 * C.toInt64).toInt = loss.toInt * has.toInt - loss.toInt * has.toInt / C.toInt * C.toInt := by
    rw [Int64.toInt_sub, m1, e2, Int.bmod_eq_of_le (by omega) (by omega)]
  have e4 : ((loss.toInt64 * has.toInt64 - loss.toInt64 * has.toInt64 / C.toInt64 * C.toInt64).toInt32).toInt = loss.toInt * has.toInt - loss.toInt * has.toInt / C.toInt * C.toInt := by
    rw [i64_to32 (by rw [e3]; omega) (by rw [e3]; omega), e3]
  rw [e1, e4]
  refine ⟨by omega, by omega, by omega, q0, q4⟩
/-! what is taken from many receipts of one silo, whatever the order -/
def sS32 (f : Nat → Int32) : Nat → Int32
  | 0 => 0
  | n + 1 => sS32 f n + f n
theorem i32_add4 (x y z : Int32) : x + y + z = x + z + y := by rw [Int32.add_assoc, Int32.add_comm y z, ← Int32.add_assoc]
theorem sS32_congr {f g : Nat → Int32} : ∀ {n : Nat}, (∀ i, i < n → f i = g i) → sS32 f n = sS32 g n
  | 0, _ => rfl
  | n + 1, h => by
    show sS32 f n + f n = sS32 g n + g n
    rw [sS32_congr (n := n) (fun i hi => h i (by omega)), h n (Nat.lt_succ_self n)]
theorem sS32_upd {f : Nat → Int32} {p : Nat} {y : Int32} : ∀ {n : Nat}, p < n → sS32 (upd f p (f p + y)) n = sS32 f n + y
  | 0, h => absurd h (Nat.not_lt_zero _)
  | n + 1, h => by
    show sS32 (upd f p (f p + y)) n + upd f p (f p + y) n = sS32 f n + f n + y
    by_cases hp : p = n
    · subst hp
      rw [sS32_congr (f := upd f p (f p + y)) (g := f) (fun i hi => if_neg (Nat.ne_of_lt hi)), show upd f p (f p + y) p = f p + y from if_pos rfl, Int32.add_assoc]
    · rw [sS32_upd (n := n) (by omega), show upd f p (f p + y) n = f n from if_neg (fun z => hp z.symm), i32_add4]
def kTk (a : CS) (s nr : Nat) (sh rem : Nat → Int32) : CS :=
  (a.1, fun j k i => if j = 3 ∧ k = 3 then a.2.1 3 3 i - sh i else if j = 4 ∧ k = 4 then (if i = s then a.2.1 4 4 s - sS32 sh nr else a.2.1 4 4 i) else if j = 3 ∧ (k = 4 ∨ k = 5 ∨ k = 6) then (if ¬ sh i = 0 ∧ ¬ 0 < a.2.1 3 3 i - sh i then -1 else a.2.1 3 k i) else if j = 3 ∧ k = 8 then rem i else a.2.1 j k i, a.2.2)
theorem kTk_rd (a : CS) (s nr : Nat) (sh rem : Nat → Int32) (j k i : Nat) : (kTk a s nr sh rem).2.1 j k i = if j = 3 ∧ k = 3 then a.2.1 3 3 i - sh i else if j = 4 ∧ k = 4 then (if i = s then a.2.1 4 4 s - sS32 sh nr else a.2.1 4 4 i) else if j = 3 ∧ (k = 4 ∨ k = 5 ∨ k = 6) then (if ¬ sh i = 0 ∧ ¬ 0 < a.2.1 3 3 i - sh i then -1 else a.2.1 3 k i) else if j = 3 ∧ k = 8 then rem i else a.2.1 j k i := rfl
theorem kTk_1 (a : CS) (s nr : Nat) (sh rem : Nat → Int32) : (kTk a s nr sh rem).1 = a.1 := rfl
theorem kTk_2 (a : CS) (s nr : Nat) (sh rem : Nat → Int32) : (kTk a s nr sh rem).2.2 = a.2.2 := rfl
theorem CS_ext {a b : CS} (h1 : a.1 = b.1) (h2 : ∀ j k i, a.2.1 j k i = b.2.1 j k i) (h3 : a.2.2 = b.2.2) : a = b := Prod.ext h1 (Prod.ext (funext fun j => funext fun k => funext fun i => h2 j k i) h3)
theorem i32_add0 {x y : Int32} (h : x + y = x) : y = 0 := by
  have h1 : x + y - x = 0 := by rw [h, Int32.sub_self]
  rwa [Int32.add_comm, Int32.add_sub_cancel] at h1
theorem kTk_take {a : CS} {s nr p : Nat} {sh rem : Nat → Int32} {y : Int32} (hp : p < nr) (h0 : 0 < a.2.1 3 3 p) (h1 : 0 < a.2.1 3 3 p - sh p) : kTakeFrom (kTk a s nr sh rem) p s y = kTk a s nr (upd sh p (sh p + y)) rem := by
  refine CS_ext (by rw [(kTakeFrom_rest _ _ _ _).1, kTk_1, kTk_1]) (fun j k i => ?_) (by rw [(kTakeFrom_rest _ _ _ _).2, kTk_2, kTk_2])
  have e33 : (kTk a s nr sh rem).2.1 3 3 = fun i => a.2.1 3 3 i - sh i := by funext i; rw [kTk_rd, if_pos ⟨rfl, rfl⟩]
  have e44 : (kTk a s nr sh rem).2.1 4 4 = fun i => if i = s then a.2.1 4 4 s - sS32 sh nr else a.2.1 4 4 i := by
    funext i
    rw [kTk_rd, if_neg (by omega), if_pos ⟨rfl, rfl⟩]
  have us : ∀ q, upd sh p (sh p + y) q = if q = p then sh p + y else sh q := fun q => rfl
  by_cases a1 : j = 3 ∧ k = 3
  · obtain ⟨rfl, rfl⟩ := a1
    rw [(kTakeFrom_row).1, e33]
    rw [kTk_rd, if_pos ⟨rfl, rfl⟩, us]
    show (if i = p then a.2.1 3 3 p - sh p - y else a.2.1 3 3 i - sh i) = _
    by_cases hi : i = p
    · rw [if_pos hi, if_pos hi, hi, i32_sub_sub]
    · rw [if_neg hi, if_neg hi]
  · by_cases a2 : j = 4 ∧ k = 4
    · obtain ⟨rfl, rfl⟩ := a2
      rw [(kTakeFrom_row).2, e44]
      rw [kTk_rd, if_neg (by omega), if_pos ⟨rfl, rfl⟩, sS32_upd hp]
      show (if i = s then (if s = s then a.2.1 4 4 s - sS32 sh nr else a.2.1 4 4 s) - y else (if i = s then a.2.1 4 4 s - sS32 sh nr else a.2.1 4 4 i)) = _
      by_cases hi : i = s
      · rw [if_pos hi, if_pos rfl, if_pos hi, i32_sub_sub]
      · rw [if_neg hi, if_neg hi, if_neg hi]
    · by_cases a3 : j = 3 ∧ (k = 4 ∨ k = 5 ∨ k = 6)
      · obtain ⟨rfl, hk⟩ := a3
        have ek : ∀ (sh' : Nat → Int32) i, (kTk a s nr sh' rem).2.1 3 k i = if ¬ sh' i = 0 ∧ ¬ 0 < a.2.1 3 3 i - sh' i then -1 else a.2.1 3 k i := fun sh' i => by
          rw [kTk_rd, if_neg (by omega), if_neg (by omega), if_pos ⟨rfl, hk⟩]
        rw [kTakeFrom_p hk, ek, e33]
        show (if 0 < a.2.1 3 3 p - sh p - y then (kTk a s nr sh rem).2.1 3 k else upd ((kTk a s nr sh rem).2.1 3 k) p (-1)) i = _
        rw [us, i32_sub_sub]
        by_cases hl : 0 < a.2.1 3 3 p - (sh p + y)
        · rw [if_pos hl, ek]
          by_cases hi : i = p
          · subst hi
            rw [if_neg (fun z => z.2 h1), if_pos rfl, if_neg (fun z => z.2 hl)]
          · rw [if_neg hi]
        · rw [if_neg hl]
          show (if i = p then (-1) else (kTk a s nr sh rem).2.1 3 k i) = _
          by_cases hi : i = p
          · subst hi
            rw [if_pos rfl, if_pos rfl, if_pos ⟨fun z => hl (by rw [z, Int32.sub_zero]; exact h0), hl⟩]
          · rw [if_neg hi, if_neg hi, ek]
      · have g4 : ∀ q, ((j, k) : Nat × Nat) = (3, q) → q = 4 ∨ q = 5 ∨ q = 6 → False := fun q z hq => a3 ⟨congrArg Prod.fst z, by have := congrArg Prod.snd z; simp only at this; rw [this]; exact hq⟩
        rw [kTakeFrom_o (fun z => a1 ⟨congrArg Prod.fst z, congrArg Prod.snd z⟩) (fun z => a2 ⟨congrArg Prod.fst z, congrArg Prod.snd z⟩) (fun z => g4 4 z (by omega)) (fun z => g4 5 z (by omega)) (fun z => g4 6 z (by omega))]
        rw [kTk_rd, kTk_rd, if_neg a1, if_neg a2, if_neg a3, if_neg a1, if_neg a2, if_neg a3]
theorem kTk_38 {a : CS} {s nr p : Nat} {sh rem : Nat → Int32} {x : Int32} : cSI (kTk a s nr sh rem) 3 8 p x = kTk a s nr sh (upd rem p x) := by
  refine CS_ext (by rw [kTk_1]; rfl) (fun j k i => ?_) (by rw [kTk_2]; rfl)
  rw [cSI_row]
  by_cases h : j = 3 ∧ k = 8
  · obtain ⟨rfl, rfl⟩ := h
    rw [if_pos ⟨rfl, rfl⟩]
    have ek : ∀ (rem' : Nat → Int32) i, (kTk a s nr sh rem').2.1 3 8 i = rem' i := fun rem' i => by
      rw [kTk_rd, if_neg (by omega), if_neg (by omega), if_neg (by omega), if_pos ⟨rfl, rfl⟩]
    rw [ek]
    show (if i = p then x else (kTk a s nr sh rem).2.1 3 8 i) = _
    rw [ek]
    rfl
  · rw [if_neg h]
    rw [kTk_rd, kTk_rd, if_neg h, if_neg h]
theorem kTk_0 {a : CS} {s nr : Nat} {sh : Nat → Int32} (h : ∀ i, sh i = 0) : kTk a s nr sh (a.2.1 3 8) = a := by
  have hs : sS32 sh nr = 0 := by
    rw [sS32_congr (g := fun _ => 0) (fun i _ => h i)]
    induction nr with
    | zero => rfl
    | succ n ih => show sS32 (fun _ => 0) n + 0 = 0; rw [ih]; rfl
  refine CS_ext rfl (fun j k i => ?_) rfl
  rw [kTk_rd, hs, h i, Int32.sub_zero, Int32.sub_zero]
  by_cases a1 : j = 3 ∧ k = 3
  · rw [if_pos a1, a1.1, a1.2]
  · rw [if_neg a1]
    by_cases a2 : j = 4 ∧ k = 4
    · rw [if_pos a2, a2.1, a2.2]
      by_cases hi : i = s
      · rw [if_pos hi, hi]
      · rw [if_neg hi]
    · rw [if_neg a2]
      by_cases a3 : j = 3 ∧ (k = 4 ∨ k = 5 ∨ k = 6)
      · rw [if_pos a3, if_neg (fun z => z.1 rfl), a3.1]
      · rw [if_neg a3]
        by_cases a4 : j = 3 ∧ k = 8
        · rw [if_pos a4, a4.1, a4.2]
        · rw [if_neg a4]
