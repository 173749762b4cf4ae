/-! days, on both sides -/
theorem SC.day0 {B : Nat} {a : CS} {b : MS} (h : SC sL B a b) : SC sL B (kDay0 a) (mDay0 b) := by
  obtain ⟨ci, e, sc, ct, ac, ow, gr, no, dl, ds, hd, pl, co, tw, wf, hs, sm, pe, de, ze, cn, rm, bt⟩ := h
  have k0 : ∀ {j k : Nat}, j ≠ 6 → (kDay0 a).2.1 j k = a.2.1 j k := fun hj => by
    unfold kDay0
    rw [cSI_row, if_neg (fun z => hj z.1)]
  have k6 : ∀ {k : Nat}, k ≠ 9 → (kDay0 a).2.1 6 k = a.2.1 6 k := fun a1 => by
    unfold kDay0
    rw [cSI_row, if_neg (fun z => a1 z.2)]
  refine ⟨ci.of rfl rfl rfl, ?_, ?_, ct, ac, ow, ?_, ?_, dl, ds, ?_, ?_, co, tw.to rfl (funext fun k => k0 (by decide)) rfl, wf, hs, sm, pe, de, ze, ?_, rm, bt⟩
  · intro p hp
    rw [k0 (sL_6 p hp).1]
    exact e p hp
  · refine ⟨?_, ?_, ?_, ?_⟩
    · show gS b 1 + 1 = (kDay0 a).2.1 6 9 0
      unfold kDay0
      rw [cSI_row, if_pos ⟨rfl, rfl⟩, show gS b 1 = cI a 6 9 0 from sc.1]
      rfl
    · show _ = (kDay0 a).2.1 6 6 0
      rw [k6 (by decide)]; exact sc.2.1
    · show _ = (kDay0 a).2.1 6 7 0
      rw [k6 (by decide)]; exact sc.2.2.1
    · show _ = (kDay0 a).2.1 6 8 0
      rw [k6 (by decide)]; exact sc.2.2.2
  · rw [k0 (by decide), k0 (by decide), k0 (by decide)]; exact gr
  · rw [k0 (by decide), k0 (by decide), k0 (by decide), k0 (by decide)]; exact no
  · intro i hi
    show _ = (kDay0 a).2.1 5 2 _
    rw [k0 (by decide)]; exact hd i hi
  · rw [k0 (by decide), k0 (by decide), k0 (by decide)]; exact pl
  · show sCn B (cL a 2) (b.1 29) (b.2.1 25) (b.2.1 30) ((kDay0 a).2.1 6 10 0)
    rw [k6 (by decide)]; exact cn
theorem SC.mk {B : Nat} {a : CS} {b : MS} (h : SC sL B a b) (hB : B ≤ 4000) : mK (cL a 0) (cL a 3) b ∧ gS b 20 = nI (cL a 2) := by
  obtain ⟨ci, e, sc, ct, ac, ow, gr, no, dl, ds, hd, pl, co, tw, wf, hs, sm, pe, de, ze, cn, rm, bt⟩ := h
  have h80 := ci.2.1.2
  have g20 : gS b 20 = nI (cL a 2) := ct.2.2.1
  exact ⟨⟨wf, ct.1, by rw [g20]; exact vin_nI (by omega) (by omega), ct.2.2.2, (cn.lt h80 hB).2⟩, g20⟩
theorem kp_sh1 (s : Nat) (x y : Int32) {a0 : CS} : ∀ (k i : Nat) (a : CS) (l : Int32), cKp a0 a → cKp a0 (kSh1 s x y i k a l).1
  | 0, _, _, _, h => h
  | k + 1, i, a, l, h => by
    show cKp a0 (if kLiveIn a s i = true then kSh1 s x y (i + 1) k (kShStep a x y i) (l - kShareOf a x y i) else kSh1 s x y (i + 1) k a l).1
    split
    · exact kp_sh1 s x y k (i + 1) _ _ ((h.si (by decide) _ _).take i _ _)
    · exact kp_sh1 s x y k (i + 1) a l h
theorem kp_bear (s : Nat) {a0 : CS} : ∀ (k : Nat) (a : CS), cKp a0 a → cKp a0 (kBear s k a)
  | 0, _, h => h
  | k + 1, a, h => by
    refine kp_bear s k (kBearStep a s) ?_
    unfold kBearStep
    split
    · exact h
    · exact (h.si (by decide) _ _).take _ _ _
theorem cKp.shrink {a0 a : CS} (h : cKp a0 a) (s : Nat) : cKp a0 (kShrink a s) := by
  unfold kShrink
  split
  · exact h
  · split
    · exact (kp_bear s _ _ (kp_sh1 s _ _ _ _ _ _ h)).si (by decide) _ _
    · exact h
theorem kp_silosN (a : CS) : ∀ n, cKp a (kSilosN a n)
  | 0 => cKp.rf
  | n + 1 => (kp_silosN a n).shrink n
theorem kp_forfN (a : CS) : ∀ n, cKp a (kForfN a n)
  | 0 => cKp.rf
  | n + 1 => (kp_forfN a n).forfeit n
/-- all silos shrink -/
theorem silos_sim {B : Nat} {a : CS} {b : MS} (h : SC sL B a b) : ∀ n, n ≤ cL a 0 → SC sL B (kSilosN a n) (mSilosN b n) ∧ (mSilosN b n).1 = b.1
  | 0, _ => ⟨h, rfl⟩
  | n + 1, hn => by
    obtain ⟨h1, h2⟩ := silos_sim h n (by omega)
    have eL : cL (kSilosN a n) 0 = cL a 0 := by unfold cL; rw [(kSilosN_same a n).2.2]
    obtain ⟨s1, -, -, s4, -⟩ := shrink_sim h1 (s := n) (by rw [eL]; omega)
    exact ⟨s1, s4.trans h2⟩
theorem silos_ok {B : Nat} {a : CS} {b : MS} (h : SC sL B a b) : kShOk a ∧ ∀ i, i < cL a 0 → mHz (mSilosN b i) (nI i) := by
  refine ⟨fun i hi => ?_, fun i hi => ?_⟩
  · have eL : cL (kSilosN a i) 0 = cL a 0 := by unfold cL; rw [(kSilosN_same a i).2.2]
    exact (shrink_sim (silos_sim h i (by omega)).1 (s := i) (by rw [eL]; exact hi)).2.1
  · have eL : cL (kSilosN a i) 0 = cL a 0 := by unfold cL; rw [(kSilosN_same a i).2.2]
    exact (shrink_sim (silos_sim h i (by omega)).1 (s := i) (by rw [eL]; exact hi)).2.2.1
/-- all that is due is forfeited -/
theorem forf_sim {B : Nat} {a : CS} {b : MS} (h : SC sL (B + 1) a b) (hB : B ≤ 4000) : ∀ n, n ≤ cL a 2 → SC sL (B + 1) (kForfN a n) (mForfN b n) ∧ cL (kForfN a n) 2 = cL a 2 ∧ (mForfN b n).1 0 = b.1 0
  | 0, _ => ⟨h, rfl, rfl⟩
  | n + 1, hn => by
    obtain ⟨h1, h2, h3⟩ := forf_sim h hB n (by omega)
    have ok := kForfN_ok h.1 (n + 1) (by rw [← h.1.2.1.1]; exact hn)
    refine ⟨h1.forfeit sL_ok (by decide) hB (by rw [h2]; omega), ok.2.2.2, ?_⟩
    rw [← h3]
    show (mForStep (mForfN b n) (nI n)).1 0 = _
    unfold mForStep
    split
    · rfl
    · split <;> rfl
theorem kHo_R7 {c : Nat} : ∀ (k i : Nat) (a : CS) (ms : Int32) (r x : Nat), cR (kHo c i k a ms).1 3 7 r = some x → x = c ∨ ∃ r', cR a 3 7 r' = some x
  | 0, _, a, _, r, x, h => Or.inr ⟨r, h⟩
  | k + 1, i, a, ms, r, x, h => by
    have hg : ∀ (a1 : CS) (i1 : Nat), (x = c ∨ ∃ r', cR (kGive a1 c i1) 3 7 r' = some x) → (x = c ∨ ∃ r', cR a1 3 7 r' = some x) := fun a1 i1 z => by
      rcases z with z | ⟨r', z⟩
      · exact Or.inl z
      · have e : cR (kGive a1 c i1) 3 7 r' = if r' = i1 then some c else cR (kCh a1 i1 (cI a1 1 2 c)) 3 7 r' := congrFun (u3_at (kCh a1 i1 (cI a1 1 2 c)).2.2.1 3 7 i1 (some c)) r'
        rw [e] at z
        by_cases hr : r' = i1
        · rw [if_pos hr] at z; cases z; exact Or.inl rfl
        · rw [if_neg hr, kCh_R.2.2 r', if_neg hr] at z; exact Or.inr ⟨r', z⟩
    have h0 : cR (if ms ≤ 0 then (a, ms)
    else if decide (¬ cI a 3 4 i = -1) = true then kHo c (i + 1) k a ms
    else if kLiveOf a (cI a 1 1 c) (cI a 1 3 c) (cI a 1 4 c) i = true then
      (if cI a 3 3 i ≤ ms then kHo c (i + 1) k (kGive a c i) (ms - cI (kGive a c i) 3 3 i)
      else if decide ((80 : Int32) ≤ nI (cL a 2)) = true then (a, ms)
      else kHo c (i + 1) k (kGive (kSplitOff a i ms) c (cN a 3)) (ms - cI (kGive (kSplitOff a i ms) c (cN a 3)) 3 3 (cN a 3)))
    else kHo c (i + 1) k a ms).1 3 7 r = some x := h
    split at h0
    · exact Or.inr ⟨r, h0⟩
    · split at h0
      · exact kHo_R7 k (i + 1) a ms r x h0
      · split at h0
        · split at h0
          · exact hg a i (kHo_R7 k (i + 1) _ _ r x h0)
          · split at h0
            · exact Or.inr ⟨r, h0⟩
            · rcases hg _ _ (kHo_R7 k (i + 1) _ _ r x h0) with z | ⟨r', z⟩
              · exact Or.inl z
              · obtain ⟨r2, z2⟩ := (cKp.rf (a := a)).splitOff i ms |>.2.2.2.2.2 r' x z
                exact Or.inr ⟨r2, z2⟩
        · exact kHo_R7 k (i + 1) a ms r x h0
/-- while contracts are settled: those before i have been looked at -/
def SIm (a : CS) (i : Nat) : Prop := SI a ∧ ∀ c, i ≤ c → c < cL a 3 → ¬ cI a 1 8 c = 0 → (cI a 1 6 c).toInt < (cI a 6 9 0).toInt
theorem cons_sim {T : Nat} {a0 : CS} {b0 : MS} (hT : T ≤ 1000) (hi : SIm a0 0) (hs : SC sL (T + 80 * nSt (a0.2.1 1 8) (cL a0 3)) a0 b0) : ∀ n, n ≤ cL a0 3 →
    SIm (kConsN a0 n) n ∧ SC sL (T + 80 * nSt ((kConsN a0 n).2.1 1 8) (cL a0 3)) (kConsN a0 n) (mConsN b0 n) ∧ cI (kConsN a0 n) 6 9 0 = cI a0 6 9 0 ∧ cL (kConsN a0 n) 3 = cL a0 3 ∧ cL (kConsN a0 n) 0 = cL a0 0 ∧ (mConsN b0 n).1 0 = b0.1 0
  | 0, _ => ⟨hi, hs, rfl, rfl, rfl, rfl⟩
  | n + 1, hn => by
    obtain ⟨h1, h2, h3, h4, h5, h6⟩ := cons_sim hT hi hs n (by omega)
    show SIm (kConStep (kConsN a0 n) n) (n + 1) ∧ SC sL (T + 80 * nSt ((kConStep (kConsN a0 n) n).2.1 1 8) (cL a0 3)) (kConStep (kConsN a0 n) n) (mConStep (mConsN b0 n) (nI n)) ∧ cI (kConStep (kConsN a0 n) n) 6 9 0 = cI a0 6 9 0 ∧ cL (kConStep (kConsN a0 n) n) 3 = cL a0 3 ∧ cL (kConStep (kConsN a0 n) n) 0 = cL a0 0 ∧ (mConStep (mConsN b0 n) (nI n)).1 0 = b0.1 0
    generalize kConsN a0 n = a at *
    generalize mConsN b0 n = b at *
    have h30 := h2.1.2.2.2.2.2
    have hn3 : n < cL a 3 := by omega
    have e39 : b.2.1 39 = a.2.1 1 6 := h2.2.1 (39, 1, 6) (by decide)
    have e41 : b.2.1 41 = a.2.1 1 8 := h2.2.1 (41, 1, 8) (by decide)
    have e42 : b.2.1 42 = a.2.1 1 9 := h2.2.1 (42, 1, 9) (by decide)
    have e1 : gS b 1 = cI a 6 9 0 := h2.2.2.1.1
    have c39 : gA b 39 (nI n) = cI a 1 6 n := by rw [gA_nI _ _ (by omega), e39]
    unfold kConStep mConStep
    rw [c39, e1]
    by_cases hd : cI a 1 6 n = cI a 6 9 0
    · rw [if_pos hd, if_pos hd]
      by_cases h8 : cI a 1 8 n = 0
      · rw [if_pos h8]
        have hle := nSt_le (x := a.2.1 1 8) (cL a0 3)
        obtain ⟨s1, s2, s3, -, s5, s6⟩ := settle_sim h2 (by omega) hn3 (by rw [e42]; exact h1.1.1 n hn3 h8)
        have q39 : (mSettle b (nI n)).2.1 39 = (kSettle a n).2.1 1 6 := s1.2.1 (39, 1, 6) (by decide)
        have q41 : (mSettle b (nI n)).2.1 41 = (kSettle a n).2.1 1 8 := s1.2.1 (41, 1, 8) (by decide)
        have q42 : (mSettle b (nI n)).2.1 42 = (kSettle a n).2.1 1 9 := s1.2.1 (42, 1, 9) (by decide)
        have q1 : (mSettle b (nI n)).1 1 = cI (kSettle a n) 6 9 0 := s1.2.2.1.1
        have gr := kSettle_gr a n
        have k6 : (kSettle a n).2.1 1 6 = a.2.1 1 6 := by rw [← q39, s3, e39]
        have k8 : (kSettle a n).2.1 1 8 = upd (a.2.1 1 8) n 1 := by rw [← q41, s2, e41]
        have kt : cI (kSettle a n) 6 9 0 = cI a 6 9 0 := by
          rw [← q1, s6 1 (by decide) (by decide)]; exact e1
        have kL : cL (kSettle a n) 3 = cL a 3 := gr.2.2.2.1
        have k9 : ∀ q, q ≠ n → cI (kSettle a n) 1 9 q = cI a 1 9 q := fun q hq => by
          show (kSettle a n).2.1 1 9 q = a.2.1 1 9 q
          rw [← q42, (s5 q hq).1, e42]
        have kR : ∀ r x, cR (kSettle a n) 3 7 r = some x → x = n ∨ ∃ r', cR a 3 7 r' = some x := fun r x hr => by
          refine kHo_R7 (c := n) (cL a 2) 0 a (cI a 1 5 n) r x ?_
          rw [← hr]
          unfold cR
          rw [(kSettle_same a n).2.1]
        have j8 : ∀ q, cI (kSettle a n) 1 8 q = if q = n then 1 else cI a 1 8 q := fun q => by
          show (kSettle a n).2.1 1 8 q = _
          rw [k8]; rfl
        have j6 : ∀ q, cI (kSettle a n) 1 6 q = cI a 1 6 q := fun q => by
          show (kSettle a n).2.1 1 6 q = _
          rw [k6]
        refine ⟨⟨⟨fun q hq hz => ?_, fun q hq hz => ?_, fun r x hr => ?_⟩, fun q hq1 hq hz => ?_⟩, ?_, by rw [kt, h3], by rw [kL, h4], by rw [gr.2.1, h5], by rw [s6 0 (by decide) (by decide), h6]⟩
        · rw [j8] at hz
          by_cases hqn : q = n
          · rw [if_pos hqn] at hz; exact absurd hz (by decide)
          · rw [if_neg hqn] at hz
            rw [k9 q hqn]
            exact h1.1.1 q (by omega) hz
        · rw [j8] at hz
          rw [j6, kt]
          by_cases hqn : q = n
          · rw [hqn, hd]; exact Int.le_refl _
          · rw [if_neg hqn] at hz
            exact h1.1.2.1 q (by omega) hz
        · rw [kL, j8]
          rcases kR r x hr with z | ⟨r', z⟩
          · rw [if_pos z]; exact ⟨by omega, by decide⟩
          · obtain ⟨z1, z2⟩ := h1.1.2.2 r' x z
            refine ⟨z1, ?_⟩
            split
            · decide
            · exact z2
        · rw [j8, if_neg (by omega)] at hz
          rw [j6, kt]
          exact h1.2 q (by omega) (by omega) hz
        · rw [k8, nSt_upd (x := a.2.1 1 8) h8 (by omega), show T + 80 * (nSt (a.2.1 1 8) (cL a0 3) + 1) = T + 80 * nSt (a.2.1 1 8) (cL a0 3) + 80 by omega]
          exact s1
      · exact absurd (h1.2 n (Nat.le_refl n) hn3 h8) (by rw [hd]; omega)
    · rw [if_neg hd, if_neg hd]
      exact ⟨⟨h1.1, fun c hc => h1.2 c (by omega)⟩, h2, h3, h4, h5, h6⟩
theorem day_sim {T D : Nat} {a : CS} {b : MS} (h : SJ (T + 1) D a b) (hT : T < 1000) (hD : D ≤ 100000) :
    SJ (T + 1) (D + 1) (kDay a) (mDay (cL a 0) (cL a 2) (cL a 3) b) ∧ kShOk (kDay0 a) ∧ mDayOk (cL a 0) (cL a 2) (cL a 3) b ∧ cL (kDay a) 0 = cL a 0 ∧ cL (kDay a) 3 = cL a 3 ∧ (mDay (cL a 0) (cL a 2) (cL a 3) b).1 0 = b.1 0 := by
  have hbd := h.bd
  obtain ⟨hi, ⟨t0, t1⟩, hs⟩ := h
  have hs0 := hs.day0
  have e0 : cI (kDay0 a) 6 9 0 = cI a 6 9 0 + 1 := by
    show (kDay0 a).2.1 6 9 0 = _
    unfold kDay0
    rw [cSI_row, if_pos ⟨rfl, rfl⟩]; rfl
  have t2 : (cI (kDay0 a) 6 9 0).toInt = (cI a 6 9 0).toInt + 1 := by
    rw [e0, i32_add (by rw [show (1 : Int32).toInt = 1 by decide]; omega) (by rw [show (1 : Int32).toInt = 1 by decide]; omega)]
    rw [show (1 : Int32).toInt = 1 by decide]
  have r1 : ∀ k, (kDay0 a).2.1 1 k = a.2.1 1 k := fun k => by
    unfold kDay0
    rw [cSI_row, if_neg (fun z => absurd z.1 (by decide))]
  have hi0 : SIm (kDay0 a) 0 := by
    have c8 : ∀ c, cI (kDay0 a) 1 8 c = cI a 1 8 c := fun c => by show (kDay0 a).2.1 1 8 c = _; rw [r1]
    have c9 : ∀ c, cI (kDay0 a) 1 9 c = cI a 1 9 c := fun c => by show (kDay0 a).2.1 1 9 c = _; rw [r1]
    have c6 : ∀ c, cI (kDay0 a) 1 6 c = cI a 1 6 c := fun c => by show (kDay0 a).2.1 1 6 c = _; rw [r1]
    refine ⟨⟨fun c hc hz => ?_, fun c hc hz => ?_, fun r x hr => ?_⟩, fun c _ hc hz => ?_⟩
    · rw [c8] at hz; rw [c9]; exact hi.1 c hc hz
    · rw [c8] at hz
      have := hi.2.1 c hc hz
      rw [c6, t2]; omega
    · rw [c8]; exact hi.2.2 r x hr
    · rw [c8] at hz
      have := hi.2.1 c hc hz
      rw [c6, t2]; omega
  have eB : T + 1 + 80 * nSt (a.2.1 1 8) (cL a 3) = T + 80 * nSt (a.2.1 1 8) (cL a 3) + 1 := by omega
  have hk1 : cKp (kDay0 a) (kDay1 a) := kp_silosN (kDay0 a) (cL a 0)
  have hk2 : cKp (kDay0 a) (kDay2 a) := hk1.tr (kp_forfN (kDay1 a) (cL a 2))
  have L1 : cL (kDay1 a) = cL a := by
    have := (kDay1_same a).2.2
    exact this
  obtain ⟨sA, sA1⟩ := silos_sim hs0 (cL a 0) (Nat.le_refl _)
  have sA : SC sL (T + 80 * nSt (a.2.1 1 8) (cL a 3) + 1) (kDay1 a) (mDay1 (cL a 0) b) := eB ▸ sA
  have hF := forf_sim sA (by omega)
  have sB := hF (cL a 2) (by rw [L1]; exact Nat.le_refl _)
  have hi2 : SIm (kDay2 a) 0 := ⟨hi0.1.kp hk2, fun c _ hc hz => by
    have q8 : cI (kDay2 a) 1 8 c = cI (kDay0 a) 1 8 c := congrFun hk2.2.1 c
    have q6 : cI (kDay2 a) 1 6 c = cI (kDay0 a) 1 6 c := congrFun hk2.1 c
    have qt : cI (kDay2 a) 6 9 0 = cI (kDay0 a) 6 9 0 := congrFun hk2.2.2.2.1 0
    rw [q8] at hz
    rw [q6, qt]
    exact hi0.2 c (Nat.zero_le _) (by rw [← hk2.2.2.2.2.1]; exact hc) hz⟩
  have L3 : cL (kDay2 a) 3 = cL a 3 := hk2.2.2.2.2.1
  have L0 : cL (kDay2 a) 0 = cL a 0 := (kDay2_inv hs.1).2.2.1
  have e8 : (kDay2 a).2.1 1 8 = a.2.1 1 8 := by rw [hk2.2.1, r1]
  have sC : SC sL (T + 1 + 80 * nSt ((kDay2 a).2.1 1 8) (cL (kDay2 a) 3)) (kDay2 a) (mDay2 (cL a 0) (cL a 2) b) := by
    rw [e8, L3, eB]; exact sB.1
  have hC := cons_sim (T := T + 1) (by omega) hi2 sC
  obtain ⟨d1, d2, d3, d4, d5, d6⟩ := hC (cL a 3) (by rw [L3]; exact Nat.le_refl _)
  have qt : cI (kDay2 a) 6 9 0 = cI (kDay0 a) 6 9 0 := congrFun hk2.2.2.2.1 0
  refine ⟨⟨d1.1, ?_, ?_⟩, (silos_ok hs0).1, ⟨fun i hi9 => ?_, (silos_ok hs0).2, fun i hi9 => ?_, fun i hi9 => ?_⟩, ?_, ?_, ?_⟩
  · have : cI (kDay a) 6 9 0 = cI (kDay2 a) 6 9 0 := d3
    rw [this, qt, t2]
    omega
  · have : cL (kDay a) 3 = cL (kDay2 a) 3 := d4
    rw [this]; exact d2
  · have q := (silos_sim hs0 i hi9).1
    have eL0 : cL (kSilosN (kDay0 a) i) = cL a := by
      have := (kSilosN_same (kDay0 a) i).2.2
      exact this
    have := (q.mk (by omega)).1
    rw [eL0] at this
    exact this
  · obtain ⟨q1, q2, -⟩ := hF i (by rw [L1]; exact hi9)
    have ok := kForfN_ok sA.1 i (by rw [← sA.1.2.1.1, L1]; exact hi9)
    obtain ⟨m1, m2⟩ := q1.mk (by omega)
    rw [ok.2.1.2.1, ok.2.1.2.2.2.1, L1] at m1
    rw [q2, L1] at m2
    exact ⟨m1, m2⟩
  · obtain ⟨-, q2, -, q4, q5, -⟩ := hC i (by rw [L3]; exact hi9)
    have hle := nSt_le (x := (kConsN (kDay2 a) i).2.1 1 8) (cL (kDay2 a) 3)
    have h30 := hs.1.2.2.2.2.2
    have := (q2.mk (by rw [L3] at hle ⊢; omega)).1
    rw [q4, q5, L0, L3] at this
    exact this
  · show cL (kConsN (kDay2 a) (cL a 3)) 0 = _
    rw [d5, L0]
  · show cL (kConsN (kDay2 a) (cL a 3)) 3 = _
    rw [d4, L3]
  · show (mConsN (mDay2 (cL a 0) (cL a 2) b) (cL a 3)).1 0 = _
    rw [d6, show (mDay2 (cL a 0) (cL a 2) b).1 0 = (mDay1 (cL a 0) b).1 0 from sB.2.2, show (mDay1 (cL a 0) b).1 = (mDay0 b).1 from sA1]
    rfl
theorem kDays_S (a : CS) (n : Nat) : kDays a (n + 1) = kDay (kDays a n) := rfl
theorem days_sim {T D : Nat} {a : CS} {b : MS} (h : SJ (T + 1) D a b) (hT : T < 1000) : ∀ n, D + n ≤ 100000 →
    SJ (T + 1) (D + n) (kDays a n) (mDays (cL a 0) (cL a 3) (fun d => cL (kDays a d) 2) b n) ∧ cL (kDays a n) 0 = cL a 0 ∧ cL (kDays a n) 3 = cL a 3 ∧ (mDays (cL a 0) (cL a 3) (fun d => cL (kDays a d) 2) b n).1 0 = b.1 0
  | 0, _ => ⟨h, rfl, rfl, rfl⟩
  | n + 1, hn => by
    obtain ⟨h1, h2, h3, h4⟩ := days_sim h hT n (by omega)
    obtain ⟨d1, -, -, d4, d5, d6⟩ := day_sim h1 hT (by omega)
    rw [h2, h3] at d1 d6
    rw [h2] at d4
    rw [h3] at d5
    exact ⟨d1, d4, d5, d6.trans h4⟩
theorem p_pass {T D : Nat} {a : CS} {b : MS} (h : SJ T D a b) (hT : T < 1000) (hD : D + 30 ≤ 100000) (v : Int32) :
    (mIn v 1 30 = false) ∨ ∃ n9, v = nI n9 ∧ n9 ≤ 30 ∧ mIn (nI n9) 1 30 = true ∧ (∀ i, i < n9 → kShOk (kDay0 (kDays a i))) ∧ (∀ d, d < n9 → mDayOk (cL a 0) (cL (kDays a d) 2) (cL a 3) (mDays (cL a 0) (cL a 3) (fun d => cL (kDays a d) 2) (mS b 0 0) d)) ∧ (∀ d, cL (kDays a d) 2 ≤ 80) ∧
      SJ (T + 1) (D + 30) (kDays a n9) (mDays (cL a 0) (cL a 3) (fun d => cL (kDays a d) 2) (mS b 0 0) n9) ∧ gS (mDays (cL a 0) (cL a 3) (fun d => cL (kDays a d) 2) (mS b 0 0) n9) 1 = cI (kDays a n9) 6 9 0 ∧ (mDays (cL a 0) (cL a 3) (fun d => cL (kDays a d) 2) (mS b 0 0) n9).1 0 = 0 := by
  by_cases hv : mIn v 1 30 = true
  · refine Or.inr ?_
    obtain ⟨w1, w2⟩ := mIn_int.mp hv
    rw [show (1 : Int32).toInt = 1 by decide] at w1
    rw [show (30 : Int32).toInt = 30 by decide] at w2
    have ev : v = nI v.toInt.toNat := by
      rw [← Int32.toInt_inj, nI_toInt (by omega)]
      omega
    have h0 : SJ (T + 1) D a (mS b 0 0) := h.same (Nat.le_refl D) 0
    have hd := days_sim h0 hT
    refine ⟨v.toInt.toNat, ev, by omega, by rw [← ev]; exact hv, fun i hi => ?_, fun d hd9 => ?_, fun d => ?_, ?_, ?_, ?_⟩
    · obtain ⟨h1, -⟩ := hd i (by omega)
      exact (day_sim h1 hT (by omega)).2.1
    · obtain ⟨h1, h2, h3, -⟩ := hd d (by omega)
      have := (day_sim h1 hT (by omega)).2.2.1
      rw [h2, h3] at this
      exact this
    · exact (kDays_inv h.2.2.1 d).1.2.1.2
    · obtain ⟨h1, -⟩ := hd v.toInt.toNat (by omega)
      exact ⟨h1.1, ⟨h1.2.1.1, by have := h1.2.1.2; omega⟩, h1.2.2⟩
    · exact (hd v.toInt.toNat (by omega)).1.2.2.2.2.1.1
    · exact (hd v.toInt.toNat (by omega)).2.2.2
  · exact Or.inl (bne_true hv)
