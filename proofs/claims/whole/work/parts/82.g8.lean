/-! contracts: what is handed over, when settled; what keeps it -/
def SI (a : CS) : Prop := (∀ c, c < cL a 3 → cI a 1 8 c = 0 → cI a 1 9 c = 0) ∧ (∀ c, c < cL a 3 → ¬ cI a 1 8 c = 0 → (cI a 1 6 c).toInt ≤ (cI a 6 9 0).toInt) ∧ ∀ r x, cR a 3 7 r = some x → x < cL a 3 ∧ ¬ cI a 1 8 x = 0
def cKp (a a' : CS) : Prop := a'.2.1 1 6 = a.2.1 1 6 ∧ a'.2.1 1 8 = a.2.1 1 8 ∧ (∀ x, cI a 1 8 x = 0 → cI a' 1 9 x = cI a 1 9 x) ∧ a'.2.1 6 9 = a.2.1 6 9 ∧ cL a' 3 = cL a 3 ∧ ∀ r x, cR a' 3 7 r = some x → ∃ r', cR a 3 7 r' = some x
theorem cKp.rf {a : CS} : cKp a a := ⟨rfl, rfl, fun _ _ => rfl, rfl, rfl, fun r _ h => ⟨r, h⟩⟩
theorem cKp.tr {a b c : CS} (h : cKp a b) (g : cKp b c) : cKp a c := by
  obtain ⟨h1, h2, h3, h4, h5, h6⟩ := h
  obtain ⟨g1, g2, g3, g4, g5, g6⟩ := g
  refine ⟨g1.trans h1, g2.trans h2, fun x hx => ?_, g4.trans h4, g5.trans h5, fun r x hr => ?_⟩
  · rw [g3 x (by show b.2.1 1 8 x = 0; rw [h2]; exact hx), h3 x hx]
  · obtain ⟨r', hr'⟩ := g6 r x hr
    exact h6 r' x hr'
theorem SI.kp {a a' : CS} (h : SI a) (g : cKp a a') : SI a' := by
  obtain ⟨h1, h2, h3⟩ := h
  obtain ⟨g1, g2, g3, g4, g5, g6⟩ := g
  have e8 : ∀ c, cI a' 1 8 c = cI a 1 8 c := fun c => by show a'.2.1 1 8 c = _; rw [g2]
  refine ⟨fun c hc h8 => ?_, fun c hc h8 => ?_, fun r x hr => ?_⟩
  · rw [e8] at h8
    rw [g3 c h8]
    exact h1 c (by omega) h8
  · rw [e8] at h8
    show (a'.2.1 1 6 c).toInt ≤ (a'.2.1 6 9 0).toInt
    rw [g1, g4]
    exact h2 c (by omega) h8
  · obtain ⟨r', hr'⟩ := g6 r x hr
    rw [e8, g5]
    exact h3 r' x hr'
theorem cKp.si {a a' : CS} (h : cKp a a') {j k : Nat} (hjk : ((j, k) ≠ (1, 6) ∧ (j, k) ≠ (1, 8)) ∧ (j, k) ≠ (1, 9) ∧ (j, k) ≠ (6, 9)) (i : Nat) (x : Int32) : cKp a (cSI a' j k i x) := by
  refine h.tr ⟨u3_ne _ _ _ (fun z => hjk.1.1 z.symm), u3_ne _ _ _ (fun z => hjk.1.2 z.symm), fun c _ => ?_, u3_ne _ _ _ (fun z => hjk.2.2 z.symm), rfl, fun r _ q => ⟨r, q⟩⟩
  exact congrFun (u3_ne a'.2.1 i x (fun z => hjk.2.1 z.symm)) c
theorem cKp.sr {a a' : CS} (h : cKp a a') {j k : Nat} (hjk : (j, k) ≠ (3, 7)) (i : Nat) (x : Option Nat) : cKp a (cSR a' j k i x) := by
  refine h.tr ⟨rfl, rfl, fun _ _ => rfl, rfl, rfl, fun r y q => ⟨r, ?_⟩⟩
  rw [← q]
  exact (congrFun (u3_ne a'.2.2.1 i x (fun z => hjk z.symm)) r).symm
theorem cKp.sr7 {a a' : CS} (h : cKp a a') (i : Nat) {x : Option Nat} (hx : ∀ y, x = some y → ∃ r', cR a' 3 7 r' = some y) : cKp a (cSR a' 3 7 i x) := by
  refine h.tr ⟨rfl, rfl, fun _ _ => rfl, rfl, rfl, fun r y q => ?_⟩
  have e : cR (cSR a' 3 7 i x) 3 7 r = if r = i then x else cR a' 3 7 r := congrFun (u3_at a'.2.2.1 3 7 i x) r
  rw [e] at q
  by_cases hr : r = i
  · rw [if_pos hr] at q; exact hx y q
  · rw [if_neg hr] at q; exact ⟨r, q⟩
theorem cKp.sl {a a' : CS} (h : cKp a a') {j : Nat} (hj : 3 ≠ j) (n : Nat) : cKp a (cSL a' j n) :=
  h.tr ⟨rfl, rfl, fun _ _ => rfl, rfl, if_neg hj, fun r _ q => ⟨r, q⟩⟩
theorem cKp.new {a a' : CS} (h : cKp a a') {j : Nat} (h1 : 1 ≠ j) (h6 : 6 ≠ j) : cKp a (cNew a' j) := by
  have e : ∀ {j' : Nat} (k : Nat), j' ≠ j → (cNew a' j).2.1 j' k = a'.2.1 j' k := fun k hj => by rw [cNew_I, if_neg hj]
  refine h.tr ⟨e 6 h1, e 8 h1, fun c _ => congrFun (e 9 h1) c, e 9 h6, rfl, fun r y q => ⟨r, ?_⟩⟩
  have q1 : (if 3 = j ∧ r = a'.1 j then none else a'.2.2.1 3 7 r) = some y := q
  by_cases hc : 3 = j ∧ r = a'.1 j
  · rw [if_pos hc] at q1; cases q1
  · rw [if_neg hc] at q1; exact q1
theorem cKp.of {a a' a'' : CS} (h : cKp a a') (h1 : a''.2.1 = a'.2.1) (h2 : a''.2.2.1 = a'.2.2.1) (h3 : a''.2.2.2.2.2 = a'.2.2.2.2.2) : cKp a a'' := by
  refine h.tr ⟨by rw [h1], by rw [h1], fun x _ => by unfold cI; rw [h1], by rw [h1], by unfold cL; rw [h3], fun r x q => ⟨r, ?_⟩⟩
  unfold cR at q ⊢
  rw [← h2]; exact q
theorem cKp.payT {a a' : CS} (h : cKp a a') (i j : Int32) (x : Int64) : cKp a (kPayT a' i j x) := by
  obtain ⟨h1, h2, h3, h4⟩ := kPayT_same a' i j x
  exact h.of h4 h2 h3
theorem cKp.oweT {a a' : CS} (h : cKp a a') (i x : Int32) : cKp a (kOweT a' i x) := by
  obtain ⟨h1, h2, h3, h4⟩ := kOweT_same a' i x
  exact h.of h4 h2 h3
theorem cKp.end {a a' : CS} (h : cKp a a') (r : Nat) : cKp a (kEndPledge a' r) := ((h.si (by decide) _ _).si (by decide) _ _).si (by decide) _ _
theorem cKp.take {a a' : CS} (h : cKp a a') (r s : Nat) (x : Int32) : cKp a (kTakeFrom a' r s x) := by
  have h1 := (h.si (j := 3) (k := 3) (by decide) r (cI a' 3 3 r - x)).si (j := 4) (k := 4) (by decide) s (cI (cSI a' 3 3 r (cI a' 3 3 r - x)) 4 4 s - x)
  unfold kTakeFrom
  simp only
  split
  · exact h1
  · exact h1.end r
theorem cKp.ch {a a' : CS} (h : cKp a a') (r : Nat) (w : Int32) : cKp a (kCh a' r w) := by
  have h0 : cKp a (kCh0 a' r) := h.sr7 r (fun y z => by cases z)
  have h1 : cKp a (kChSame a' r (kT a' r) w) := h0.si (by decide) _ _
  have h2 : cKp a (kChNew a' r (kT a' r) w) := (((((h0.new (j := 5) (by decide) (by decide)).si (by decide) _ _).si (by decide) _ _).sr (by decide) _ _).sr (by decide) _ _).si (by decide) _ _
  unfold kCh
  split
  · exact h1
  · split
    · exact h2
    · exact h1
theorem cKp.make {a a' : CS} (h : cKp a a') (d : Nat) (w kg : Int32) : cKp a (kMake a' d w kg) := by
  have h1 : cKp a (kMakeT a' w) := ((((h.new (j := 3) (by decide) (by decide)).new (j := 5) (by decide) (by decide)).si (by decide) _ _).si (by decide) _ _).sr (by decide) _ _
  have h2 : cKp a (kMakeR a' d w kg) := (((((((h1.si (by decide) _ _).sr (by decide) _ _).sr (by decide) _ _).si (by decide) _ _).si (by decide) _ _).si (by decide) _ _).si (by decide) _ _).si (by decide) _ _
  exact h2.sl (by decide) _
theorem cKp.putIn {a a' : CS} (h : cKp a a') (d : Nat) (kg : Int32) : cKp a (kPutIn a' d kg) := (h.si (j := 4) (k := 4) (by decide) _ _).make d _ kg
theorem cKp.splitOff {a a' : CS} (h : cKp a a') (r : Nat) (kg : Int32) : cKp a (kSplitOff a' r kg) := ((h.make (kD a' r) (cI a' 5 2 (kT a' r)) kg).sr7 (cN a' 3) (fun y z => ⟨r, z⟩)).si (by decide) _ _
theorem cKp.forfeit {a a' : CS} (h : cKp a a') (r : Nat) : cKp a (kForfeit a' r) := by
  unfold kForfeit
  split
  · exact h
  · split
    · exact h
    · exact (h.end r).ch r _
theorem kp_tb {a : CS} (hi : SI a) (r : Nat) (dl x : Int32) : cKp a (kTb a r dl x) := by
  have hp : cKp a (kPft a r dl (kMin (cI a 3 3 r) x)) := by
    unfold kPft
    split
    · exact cKp.rf.payT _ _ _
    · rename_i c hc
      obtain ⟨-, h8⟩ := hi.2.2 r c hc
      have h1 : cKp a (kPayT a (cI a 1 1 c) (cI a 5 2 (kT a r)) ((kMin (cI a 3 3 r) x).toInt64 * (cI a 1 7 c).toInt64)) := cKp.rf.payT _ _ _
      have h2 : ∀ {b : CS} (y : Int32), cKp a b → cKp a (cSI b 1 9 c y) := fun {b} y hb => by
        refine hb.tr ⟨(by rw [cSI_row, if_neg (by decide)]), (by rw [cSI_row, if_neg (by decide)]), fun q hq => ?_, (by rw [cSI_row, if_neg (by decide)]), rfl, fun r _ q => ⟨r, q⟩⟩
        have hqc : q ≠ c := fun z => h8 (by
          subst z
          have : b.2.1 1 8 = a.2.1 1 8 := hb.2.1
          rw [show cI a 1 8 q = b.2.1 1 8 q by rw [this]]
          exact hq)
        show (u3 b.2.1 1 9 c y) 1 9 q = b.2.1 1 9 q
        rw [u3_at]
        exact if_neg hqc
      exact (h2 _ h1).si (by decide) _ _
  unfold kTb
  split
  · exact cKp.rf.take r _ _
  · exact hp.take r _ _
theorem kp_tb1 (d : Nat) : ∀ (k i : Nat) (a : CS) (left : Int32), SI a → cKp a (kTB1 d i k a left).1
  | 0, _, a, left, _ => cKp.rf
  | k + 1, i, a, left, hi => by
    show cKp a (if left ≤ 0 then (a, left) else if kD a i = d then kTB1 d (i + 1) k (kTb a i (cI a 2 1 d) left) (left - kMin (cI a 3 3 i) left) else kTB1 d (i + 1) k a left).1
    split
    · exact cKp.rf
    · split
      · have h1 := kp_tb hi i (cI a 2 1 d) left
        exact h1.tr (kp_tb1 d k (i + 1) _ _ (hi.kp h1))
      · exact kp_tb1 d k (i + 1) a left hi
theorem kp_tb2 (d : Nat) : ∀ (k i : Nat) (a : CS) (left : Int32), SI a → cKp a (kTB2 d i k a left).1
  | 0, _, a, left, _ => cKp.rf
  | k + 1, i, a, left, hi => by
    show cKp a (if left ≤ 0 then (a, left) else if kS a (kD a i) = kS a d then (if cI a 5 2 (kT a i) = cI a 2 1 d then kTB2 d (i + 1) k (kTb a i (cI a 2 1 d) left) (left - kMin (cI a 3 3 i) left) else kTB2 d (i + 1) k a left) else kTB2 d (i + 1) k a left).1
    split
    · exact cKp.rf
    · split
      · split
        · have h1 := kp_tb hi i (cI a 2 1 d) left
          exact h1.tr (kp_tb2 d k (i + 1) _ _ (hi.kp h1))
        · exact kp_tb2 d k (i + 1) a left hi
      · exact kp_tb2 d k (i + 1) a left hi
theorem kp_takeBack {a : CS} (hi : SI a) (d : Nat) (x : Int32) : cKp a (kTakeBack a d x) := by
  have h1 := kp_tb1 d (cL a 2) 0 a x hi
  have h2 := h1.tr (kp_tb2 d (cL a 2) 0 (kTB1 d 0 (cL a 2) a x).1 (kTB1 d 0 (cL a 2) a x).2 (hi.kp h1))
  exact h2.oweT _ _
theorem kp_reweigh {a : CS} (hi : SI a) (d : Nat) (mo : Int32) : cKp a (kReweigh a d mo) := by
  have h1 : cKp a (cSI a 2 6 d (cI a 2 6 d + kDiff a d mo)) := cKp.rf.si (by decide) _ _
  unfold kReweigh
  simp only
  split
  · split
    · split
      · exact h1
      · exact h1.tr (kp_takeBack (hi.kp h1) d _)
    · exact h1.putIn d _
  · exact h1.oweT _ _
theorem kp_deliver1 (a : CS) (who g kg gr dry : Int32) (s : Nat) : cKp a (kDeliver1 a who g kg gr dry s) := by
  have h0 : cKp a (kDeliver0 a who g kg gr dry s) := ((((((((cKp.rf (a := a)).new (j := 2) (by decide) (by decide)).si (by decide) _ _).si (by decide) _ _).si (by decide) _ _).si (by decide) _ _).sr (by decide) _ _).si (by decide) _ _).si (by decide) _ _
  exact ((h0.sl (by decide) _).si (by decide) _ _).si (by decide) _ _
theorem kp_silo (a : CS) (x : Int32) : cKp a (kSilo a x) := (((((cKp.rf.new (by decide) (by decide)).si (by decide) _ _).si (by decide) _ _).si (by decide) _ _).si (by decide) _ _).sl (by decide) _
theorem kp_terms (a : CS) (r f q : Int32) : cKp a (kTerms a r f q) := ((cKp.rf.si (by decide) _ _).si (by decide) _ _).si (by decide) _ _
theorem kp_sell (a : CS) (r : Nat) (to cents : Int32) : cKp a (kSell a r to cents) := (cKp.rf.payT _ _ _).ch r to
theorem kp_pledge (a : CS) (r : Nat) (to cents days : Int32) : cKp a (kPledge a r to cents days) := (((cKp.rf.payT _ _ _).si (by decide) _ _).si (by decide) _ _).si (by decide) _ _
theorem kp_redeem (a : CS) (r t : Nat) : cKp a (kRedeem a r t) := ((cKp.rf (a := a)).of (a'' := kPay a (cI a 5 2 t) (cI a 3 4 r) (cI a 3 5 r).toInt64) rfl rfl rfl).end r
/-- how many are settled -/
def nSt (x : Nat → Int32) : Nat → Nat
  | 0 => 0
  | n + 1 => nSt x n + if x n = 0 then 0 else 1
theorem nSt_le {x : Nat → Int32} : ∀ n, nSt x n ≤ n
  | 0 => Nat.le_refl 0
  | n + 1 => by
    have := nSt_le (x := x) n
    show nSt x n + (if x n = 0 then 0 else 1) ≤ n + 1
    split <;> omega
theorem nSt_congr {x y : Nat → Int32} : ∀ {n : Nat}, (∀ i, i < n → x i = y i) → nSt x n = nSt y n
  | 0, _ => rfl
  | n + 1, h => by
    show nSt x n + (if x n = 0 then 0 else 1) = nSt y n + (if y n = 0 then 0 else 1)
    rw [nSt_congr (n := n) (fun i hi => h i (by omega)), h n (Nat.lt_succ_self n)]
theorem nSt_upd {x : Nat → Int32} {c : Nat} (h0 : x c = 0) : ∀ {n : Nat}, c < n → nSt (upd x c 1) n = nSt x n + 1
  | 0, h => by omega
  | n + 1, h => by
    show nSt (upd x c 1) n + (if (if n = c then (1 : Int32) else x n) = 0 then 0 else 1) = nSt x n + (if x n = 0 then 0 else 1) + 1
    by_cases hn : n = c
    · subst hn
      rw [if_pos rfl, if_neg (show ¬ (1 : Int32) = 0 by decide), h0, if_pos rfl, nSt_congr (x := upd x n 1) (y := x) (fun i hi => if_neg (by omega))]
    · rw [if_neg hn, nSt_upd (n := n) h0 (by omega)]
      omega
/-- the two states, and what holds of them: T calls, D days -/
def SJ (T D : Nat) (a : CS) (b : MS) : Prop := SI a ∧ (0 ≤ (cI a 6 9 0).toInt ∧ (cI a 6 9 0).toInt ≤ D) ∧ SC sL (T + 80 * nSt (a.2.1 1 8) (cL a 3)) a b
theorem SJ.bd {T D : Nat} {a : CS} {b : MS} (h : SJ T D a b) : 80 * nSt (a.2.1 1 8) (cL a 3) ≤ 2400 := by
  have h1 := h.2.2.1.2.2.2.2.2
  have := nSt_le (x := a.2.1 1 8) (cL a 3)
  omega
theorem SJ.step {T D D' : Nat} {a a' : CS} {b b' : MS} (h : SJ T D a b) (hk : cKp a a') (hD : D ≤ D') (hs : SC sL (T + 80 * nSt (a.2.1 1 8) (cL a 3) + 1) a' b') : SJ (T + 1) D' a' b' := by
  obtain ⟨h1, h2, h3⟩ := h
  refine ⟨h1.kp hk, ?_, ?_⟩
  · show 0 ≤ (a'.2.1 6 9 0).toInt ∧ (a'.2.1 6 9 0).toInt ≤ _
    rw [hk.2.2.2.1]
    exact ⟨h2.1, Int.le_trans h2.2 (Int.ofNat_le.mpr hD)⟩
  · rw [hk.2.1, hk.2.2.2.2.1]
    exact hs.mono (by omega)
theorem SJ.same {T D D' : Nat} {a : CS} {b : MS} (h : SJ T D a b) (hD : D ≤ D') (x : Int32) : SJ (T + 1) D' a (mS b 0 x) := h.step cKp.rf hD ((h.2.2.thr x).mono (by omega))
