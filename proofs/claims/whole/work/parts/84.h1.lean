/-! how many tenures there are -/
def TN (a : CS) : Prop := 0 ≤ (cI a 6 10 0).toInt ∧ (cN a 5 : Int) ≤ cN a 3 + (cI a 6 10 0).toInt
def cKt (a a' : CS) : Prop := TN a → TN a'
theorem cKt.rf {a : CS} : cKt a a := fun h => h
theorem cKt.tr {a b c : CS} (h : cKt a b) (g : cKt b c) : cKt a c := fun z => g (h z)
theorem cKt.si {a a' : CS} (h : cKt a a') {j k : Nat} (hjk : (j, k) ≠ (6, 10)) (i : Nat) (x : Int32) : cKt a (cSI a' j k i x) := fun z => by
  have z := h z
  have e : cI (cSI a' j k i x) 6 10 0 = cI a' 6 10 0 := congrFun (u3_ne a'.2.1 i x (fun y => hjk y.symm)) 0
  unfold TN
  rw [e]
  exact z
theorem cKt.sr {a a' : CS} (h : cKt a a') (j k i : Nat) (x : Option Nat) : cKt a (cSR a' j k i x) := h
theorem cKt.sl {a a' : CS} (h : cKt a a') (j n : Nat) : cKt a (cSL a' j n) := h
theorem cKt.of {a a' a'' : CS} (h : cKt a a') (h0 : a''.1 = a'.1) (h1 : a''.2.1 = a'.2.1) : cKt a a'' := fun z => by
  have z := h z
  unfold TN cI cN at z ⊢
  rw [h0, h1]; exact z
theorem cKt.new {a a' : CS} (h : cKt a a') {j : Nat} (h5 : 5 ≠ j) (h6 : 6 ≠ j) : cKt a (cNew a' j) := fun z => by
  have z := h z
  have e : cI (cNew a' j) 6 10 0 = cI a' 6 10 0 := by show (cNew a' j).2.1 6 10 0 = _; rw [cNew_I, if_neg h6]
  have e5 : cN (cNew a' j) 5 = cN a' 5 := if_neg h5
  have e3 : cN a' 3 ≤ cN (cNew a' j) 3 := cNew_le j 3
  unfold TN at z ⊢
  rw [e, e5]
  omega
theorem cKt.new35 {a a' : CS} (h : cKt a a') : cKt a (cNew (cNew a' 3) 5) := fun z => by
  have z := h z
  have e : cI (cNew (cNew a' 3) 5) 6 10 0 = cI a' 6 10 0 := by show (cNew (cNew a' 3) 5).2.1 6 10 0 = _; rw [cNew_I, if_neg (by decide), cNew_I, if_neg (by decide)]
  have e5 : cN (cNew (cNew a' 3) 5) 5 = cN a' 5 + 1 := rfl
  have e3 : cN (cNew (cNew a' 3) 5) 3 = cN a' 3 + 1 := rfl
  unfold TN at z ⊢
  rw [e, e5, e3]
  omega
theorem cKt.payT {a a' : CS} (h : cKt a a') (i j : Int32) (x : Int64) : cKt a (kPayT a' i j x) := by
  obtain ⟨h1, h2, h3, h4⟩ := kPayT_same a' i j x
  exact h.of h1 h4
theorem cKt.oweT {a a' : CS} (h : cKt a a') (i x : Int32) : cKt a (kOweT a' i x) := by
  obtain ⟨h1, h2, h3, h4⟩ := kOweT_same a' i x
  exact h.of h1 h4
theorem cKt.end {a a' : CS} (h : cKt a a') (r : Nat) : cKt a (kEndPledge a' r) := ((h.si (by decide) _ _).si (by decide) _ _).si (by decide) _ _
theorem cKt.take {a a' : CS} (h : cKt a a') (r s : Nat) (x : Int32) : cKt a (kTakeFrom a' r s x) := by
  have h1 := (h.si (j := 3) (k := 3) (by decide) r (cI a' 3 3 r - x)).si (j := 4) (k := 4) (by decide) s (cI (cSI a' 3 3 r (cI a' 3 3 r - x)) 4 4 s - x)
  unfold kTakeFrom
  simp only
  split
  · exact h1
  · exact h1.end r
theorem cKt.ch {a a' : CS} (h : cKt a a') (r : Nat) (w : Int32) : cKt a (kCh a' r w) := by
  have h1 : cKt a (kChSame a' r (kT a' r) w) := h.si (j := 5) (k := 2) (by decide) (kT a' r) w
  unfold kCh
  split
  · exact h1
  · split
    · rename_i hlt
      intro z
      have z := h z
      have e : cI (kChNew a' r (kT a' r) w) 6 10 0 = cI a' 6 10 0 + 1 := by
        show (kChNew a' r (kT a' r) w).2.1 6 10 0 = _
        unfold kChNew
        simp only
        rw [cSI_row, if_pos ⟨rfl, rfl⟩]; rfl
      have e5 : cN (kChNew a' r (kT a' r) w) 5 = cN a' 5 + 1 := rfl
      have e3 : cN (kChNew a' r (kT a' r) w) 3 = cN a' 3 := rfl
      rw [i32_lt, show (4096 : Int32).toInt = 4096 by decide] at hlt
      unfold TN at z ⊢
      rw [e, e5, e3, i32_add (by rw [show (1 : Int32).toInt = 1 by decide]; omega) (by rw [show (1 : Int32).toInt = 1 by decide]; omega), show (1 : Int32).toInt = 1 by decide]
      omega
    · exact h1
theorem cKt.make {a a' : CS} (h : cKt a a') (d : Nat) (w kg : Int32) : cKt a (kMake a' d w kg) := by
  have h1 : cKt a (kMakeT a' w) := ((h.new35.si (by decide) _ _).si (by decide) _ _).sr _ _ _ _
  have h2 : cKt a (kMakeR a' d w kg) := (((((((h1.si (by decide) _ _).sr _ _ _ _).sr _ _ _ _).si (by decide) _ _).si (by decide) _ _).si (by decide) _ _).si (by decide) _ _).si (by decide) _ _
  exact h2.sl _ _
theorem cKt.putIn {a a' : CS} (h : cKt a a') (d : Nat) (kg : Int32) : cKt a (kPutIn a' d kg) := (h.si (j := 4) (k := 4) (by decide) _ _).make d _ kg
theorem cKt.splitOff {a a' : CS} (h : cKt a a') (r : Nat) (kg : Int32) : cKt a (kSplitOff a' r kg) := ((h.make (kD a' r) (cI a' 5 2 (kT a' r)) kg).sr _ _ _ _).si (by decide) _ _
theorem cKt.forfeit {a a' : CS} (h : cKt a a') (r : Nat) : cKt a (kForfeit a' r) := by
  unfold kForfeit
  split
  · exact h
  · split
    · exact h
    · exact (h.end r).ch r _
theorem kt_tb (a : CS) (r : Nat) (dl x : Int32) : cKt a (kTb a r dl x) := by
  have hp : cKt a (kPft a r dl (kMin (cI a 3 3 r) x)) := by
    unfold kPft
    split
    · exact cKt.rf.payT _ _ _
    · exact ((cKt.rf.payT _ _ _).si (by decide) _ _).si (by decide) _ _
  unfold kTb
  split
  · exact cKt.rf.take r _ _
  · exact hp.take r _ _
theorem kt_tb1 (d : Nat) : ∀ (k i : Nat) (a : CS) (left : Int32), cKt a (kTB1 d i k a left).1
  | 0, _, a, left => cKt.rf
  | k + 1, i, a, left => by
    show cKt a (if left ≤ 0 then (a, left) else if kD a i = d then kTB1 d (i + 1) k (kTb a i (cI a 2 1 d) left) (left - kMin (cI a 3 3 i) left) else kTB1 d (i + 1) k a left).1
    split
    · exact cKt.rf
    · split
      · exact (kt_tb a i (cI a 2 1 d) left).tr (kt_tb1 d k (i + 1) _ _)
      · exact kt_tb1 d k (i + 1) a left
theorem kt_tb2 (d : Nat) : ∀ (k i : Nat) (a : CS) (left : Int32), cKt a (kTB2 d i k a left).1
  | 0, _, a, left => cKt.rf
  | k + 1, i, a, left => by
    show cKt a (if left ≤ 0 then (a, left) else if kS a (kD a i) = kS a d then (if cI a 5 2 (kT a i) = cI a 2 1 d then kTB2 d (i + 1) k (kTb a i (cI a 2 1 d) left) (left - kMin (cI a 3 3 i) left) else kTB2 d (i + 1) k a left) else kTB2 d (i + 1) k a left).1
    split
    · exact cKt.rf
    · split
      · split
        · exact (kt_tb a i (cI a 2 1 d) left).tr (kt_tb2 d k (i + 1) _ _)
        · exact kt_tb2 d k (i + 1) a left
      · exact kt_tb2 d k (i + 1) a left
theorem kt_takeBack (a : CS) (d : Nat) (x : Int32) : cKt a (kTakeBack a d x) :=
  ((kt_tb1 d (cL a 2) 0 a x).tr (kt_tb2 d (cL a 2) 0 (kTB1 d 0 (cL a 2) a x).1 (kTB1 d 0 (cL a 2) a x).2)).oweT _ _
theorem kt_reweigh (a : CS) (d : Nat) (mo : Int32) : cKt a (kReweigh a d mo) := by
  have h1 : cKt a (cSI a 2 6 d (cI a 2 6 d + kDiff a d mo)) := cKt.rf.si (by decide) _ _
  unfold kReweigh
  simp only
  split
  · split
    · split
      · exact h1
      · exact h1.tr (kt_takeBack _ d _)
    · exact h1.putIn d _
  · exact h1.oweT _ _
theorem kt_deliver1 (a : CS) (who g kg gr dry : Int32) (s : Nat) : cKt a (kDeliver1 a who g kg gr dry s) := by
  have h0 : cKt a (kDeliver0 a who g kg gr dry s) := (((((((cKt.rf (a := a)).new (j := 2) (by decide) (by decide)).si (by decide) _ _).si (by decide) _ _).si (by decide) _ _).si (by decide) _ _).sr _ _ _ _).si (by decide) _ _ |>.si (by decide) _ _
  exact ((h0.sl _ _).si (by decide) _ _).si (by decide) _ _
theorem kt_silo (a : CS) (x : Int32) : cKt a (kSilo a x) := (((((cKt.rf.new (by decide) (by decide)).si (by decide) _ _).si (by decide) _ _).si (by decide) _ _).si (by decide) _ _).sl _ _
theorem kt_terms (a : CS) (r f q : Int32) : cKt a (kTerms a r f q) := ((cKt.rf.si (by decide) _ _).si (by decide) _ _).si (by decide) _ _
theorem kt_sell (a : CS) (r : Nat) (to cents : Int32) : cKt a (kSell a r to cents) := (cKt.rf.payT _ _ _).ch r to
theorem kt_pledge (a : CS) (r : Nat) (to cents days : Int32) : cKt a (kPledge a r to cents days) := (((cKt.rf.payT _ _ _).si (by decide) _ _).si (by decide) _ _).si (by decide) _ _
theorem kt_redeem (a : CS) (r t : Nat) : cKt a (kRedeem a r t) := ((cKt.rf (a := a)).of (a'' := kPay a (cI a 5 2 t) (cI a 3 4 r) (cI a 3 5 r).toInt64) rfl rfl).end r
theorem kt_contract (a : CS) (x1 x2 x3 x4 x5 x6 x7 : Int32) : cKt a (kContract a x1 x2 x3 x4 x5 x6 x7) := by
  have h : cKt a (cSI (cSI (cSI (cSI (cSI (cSI (cSI (cSI (cNew a 1) 1 0 (cN a 1) (nI (cL a 3))) 1 1 (cN a 1) x1) 1 2 (cN a 1) x2) 1 3 (cN a 1) x3) 1 4 (cN a 1) x4) 1 5 (cN a 1) x5) 1 6 (cN a 1) (cI a 6 9 0 + x6)) 1 7 (cN a 1) x7) :=
    ((((((((cKt.rf.new (by decide) (by decide)).si (by decide) _ _).si (by decide) _ _).si (by decide) _ _).si (by decide) _ _).si (by decide) _ _).si (by decide) _ _).si (by decide) _ _).si (by decide) _ _
  exact h
theorem kt_sh1 (s : Nat) (x y : Int32) {a0 : CS} : ∀ (k i : Nat) (a : CS) (l : Int32), cKt a0 a → cKt a0 (kSh1 s x y i k a l).1
  | 0, _, _, _, h => h
  | k + 1, i, a, l, h => by
    show cKt a0 (if kLiveIn a s i = true then kSh1 s x y (i + 1) k (kShStep a x y i) (l - kShareOf a x y i) else kSh1 s x y (i + 1) k a l).1
    split
    · exact kt_sh1 s x y k (i + 1) _ _ ((h.si (by decide) _ _).take i _ _)
    · exact kt_sh1 s x y k (i + 1) a l h
theorem kt_bear (s : Nat) {a0 : CS} : ∀ (k : Nat) (a : CS), cKt a0 a → cKt a0 (kBear s k a)
  | 0, _, h => h
  | k + 1, a, h => by
    refine kt_bear s k (kBearStep a s) ?_
    unfold kBearStep
    split
    · exact h
    · exact (h.si (by decide) _ _).take _ _ _
theorem cKt.shrink {a0 a : CS} (h : cKt a0 a) (s : Nat) : cKt a0 (kShrink a s) := by
  unfold kShrink
  split
  · exact h
  · split
    · exact (kt_bear s _ _ (kt_sh1 s _ _ _ _ _ _ h)).si (by decide) _ _
    · exact h
theorem kt_silosN (a : CS) : ∀ n, cKt a (kSilosN a n)
  | 0 => cKt.rf
  | n + 1 => (kt_silosN a n).shrink n
theorem kt_forfN (a : CS) : ∀ n, cKt a (kForfN a n)
  | 0 => cKt.rf
  | n + 1 => (kt_forfN a n).forfeit n
theorem kt_ho (c : Nat) : ∀ (k i : Nat) (a : CS) (ms : Int32), cKt a (kHo c i k a ms).1
  | 0, _, a, _ => cKt.rf
  | k + 1, i, a, ms => by
    have hg : ∀ (a1 : CS) (i1 : Nat), cKt a1 (kGive a1 c i1) := fun a1 i1 => (cKt.rf.ch i1 _).sr _ _ _ _
    show cKt a (if ms ≤ 0 then (a, ms)
    else if decide (¬ cI a 3 4 i = -1) = true then kHo c (i + 1) k a ms
    else if kLiveOf a (cI a 1 1 c) (cI a 1 3 c) (cI a 1 4 c) i = true then
      (if cI a 3 3 i ≤ ms then kHo c (i + 1) k (kGive a c i) (ms - cI (kGive a c i) 3 3 i)
      else if decide ((80 : Int32) ≤ nI (cL a 2)) = true then (a, ms)
      else kHo c (i + 1) k (kGive (kSplitOff a i ms) c (cN a 3)) (ms - cI (kGive (kSplitOff a i ms) c (cN a 3)) 3 3 (cN a 3)))
    else kHo c (i + 1) k a ms).1
    split
    · exact cKt.rf
    · split
      · exact kt_ho c k (i + 1) a ms
      · split
        · split
          · exact (hg a i).tr (kt_ho c k (i + 1) _ _)
          · split
            · exact cKt.rf
            · exact ((cKt.rf.splitOff i ms).tr (hg _ _)).tr (kt_ho c k (i + 1) _ _)
        · exact kt_ho c k (i + 1) a ms
theorem kt_settle (a : CS) (c : Nat) : cKt a (kSettle a c) := (((((kt_ho c (cL a 2) 0 a (cI a 1 5 c)).si (by decide) _ _).si (by decide) _ _).si (by decide) _ _).payT _ _ _).payT _ _ _
theorem kt_consN (a : CS) : ∀ n, cKt a (kConsN a n)
  | 0 => cKt.rf
  | n + 1 => by
    refine (kt_consN a n).tr ?_
    show cKt _ (kConStep (kConsN a n) n)
    unfold kConStep
    split
    · split
      · exact kt_settle _ n
      · exact cKt.rf
    · exact cKt.rf
theorem kt_day (a : CS) : cKt a (kDay a) := by
  have h0 : cKt a (kDay0 a) := cKt.rf.si (by decide) _ _
  exact ((h0.tr (kt_silosN (kDay0 a) (cL a 0))).tr (kt_forfN (kDay1 a) (cL a 2))).tr (kt_consN (kDay2 a) (cL a 3))
theorem kt_days (a : CS) : ∀ n, cKt a (kDays a n)
  | 0 => cKt.rf
  | n + 1 => (kt_days a n).tr (kt_day (kDays a n))
/-- the room that all objects take -/
theorem TN.cost {T D : Nat} {a : CS} {b : MS} (h : TN a) (j : SJ T D a b) (hT : T ≤ 1000) : pc a ≤ 4000 ∧ ps a ≤ 40000 := by
  have hb := j.bd
  obtain ⟨-, -, ci, e, sc, ct, ac, ow, gr, no, dl, ds, hd, pl, co, tw, wf, hs, sm, pe, de, ze, cn, -⟩ := j
  obtain ⟨nch, tn, c1, c2, c3, c4, c5⟩ := cn
  have h3 := ci.2.1
  have h4 := ci.2.2.1
  have h2 := ci.2.2.2.1
  have h1 := ci.2.2.2.2
  obtain ⟨t1, t2⟩ := h
  rw [c2, nI_toInt (by omega)] at t2
  unfold pc ps
  omega
