/-- what holds of the class's state between calls, of its objects and lists alone -/
def cInv (a : CS) : Prop := cOk a ∧ (cL a 2 = cN a 3 ∧ cL a 2 ≤ 80) ∧ (cL a 0 = cN a 4 ∧ cL a 0 ≤ 6) ∧ (cL a 1 = cN a 2 ∧ cL a 1 ≤ 40) ∧ cL a 3 = cN a 1 ∧ cL a 3 ≤ 30
def cGr (a b : CS) : Prop := (∀ j, cN a j ≤ cN b j) ∧ cL b 0 = cL a 0 ∧ cL b 1 = cL a 1 ∧ cL b 3 = cL a 3 ∧ cL a 2 ≤ cL b 2 ∧ cN b 1 = cN a 1 ∧ cN b 2 = cN a 2 ∧ cN b 4 = cN a 4
theorem cGr.rf {a : CS} : cGr a a := ⟨fun _ => Nat.le_refl _, rfl, rfl, rfl, Nat.le_refl _, rfl, rfl, rfl⟩
theorem cGr.tr {a b c : CS} (h : cGr a b) (g : cGr b c) : cGr a c := by
  obtain ⟨h1, h2, h3, h4, h5, h6, h7, h8⟩ := h
  obtain ⟨g1, g2, g3, g4, g5, g6, g7, g8⟩ := g
  exact ⟨fun j => Nat.le_trans (h1 j) (g1 j), g2.trans h2, g3.trans h3, g4.trans h4, Nat.le_trans h5 g5, g6.trans h6, g7.trans h7, g8.trans h8⟩
theorem cGr.of {a a' : CS} (h1 : a'.1 = a.1) (h3 : a'.2.2.2.2.2 = a.2.2.2.2.2) : cGr a a' := by
  unfold cGr cN cL
  rw [h1, h3]
  exact ⟨fun _ => Nat.le_refl _, rfl, rfl, rfl, Nat.le_refl _, rfl, rfl, rfl⟩
theorem cInv.of {a a' : CS} (h1 : a'.1 = a.1) (h2 : a'.2.2.1 = a.2.2.1) (h3 : a'.2.2.2.2.2 = a.2.2.2.2.2) (h : cInv a) : cInv a' := by
  refine ⟨h.1.of h1 h2 h3, ?_⟩
  have := h.2
  unfold cN cL at *
  rw [h1, h3]
  exact this
theorem cInv.ofGr {a b : CS} (h : cInv a) (g : cGr a b) (ok : cOk b) (h1 : cL b 2 = cN b 3) (h2 : cL b 2 ≤ 80) : cInv b := by
  obtain ⟨-, -, ⟨k1, k2⟩, ⟨k3, k4⟩, k5, k6⟩ := h
  obtain ⟨g1, g2, g3, g4, g5, g6, g7, g8⟩ := g
  exact ⟨ok, ⟨h1, h2⟩, ⟨by omega, by omega⟩, ⟨by omega, by omega⟩, by omega, by omega⟩
theorem cGr.cost {a b : CS} (h : cGr a b) : pc a ≤ pc b ∧ ps a ≤ ps b := by
  have h1 := h.1 1
  have h2 := h.1 2
  have h3 := h.1 3
  have h4 := h.1 4
  have h5 := h.1 5
  unfold pc ps
  omega
theorem kMake_ok {a : CS} (ok : cOk a) {d : Nat} (hd : d < cN a 2) (h kg : Int32) (hL : cL a 2 = cN a 3) : cOk (kMake a d h kg) := by
  have n5 : cN (kMake a d h kg) 5 = cN a 5 + 1 := rfl
  have n3 : cN (kMake a d h kg) 3 = cN a 3 + 1 := rfl
  have n2 : cN (kMake a d h kg) 2 = cN a 2 := rfl
  have w : cRwf (kMake a d h kg) := by
    refine cRwf_of (a := cSR (cSR (cSR (cNew (cNew a 3) 5) 5 1 (cN a 5) none) 3 1 (cN a 3) (some d)) 3 2 (cN a 3) (some (cN a 5))) rfl rfl ?_
    refine cRwf_SR 3 2 _ _ (fun y h => ?_) (cRwf_SR 3 1 _ _ (fun y h => ?_) (cRwf_SR 5 1 _ _ (fun y h => by cases h) (cRwf_new 5 (cRwf_new 3 ok.2))))
    · cases h; exact Nat.lt_succ_self _
    · cases h; exact hd
  refine ⟨?_, w⟩
  obtain ⟨⟨g1, g2, g3⟩, -⟩ := ok
  refine ⟨fun r hr => ?_, fun d' hd' => ?_, ?_⟩
  · by_cases hr9 : r = cN a 3
    · subst hr9
      have e1 : cR (kMake a d h kg) 3 1 (cN a 3) = some d := by simp [kMake, kMakeR, kMakeT, cSL, cSI, cSR, u3, cR, cN, cNew]
      have e2 : cR (kMake a d h kg) 3 2 (cN a 3) = some (cN a 5) := if_pos ⟨rfl, rfl, rfl⟩
      unfold kD kT
      rw [e1, e2, n2, n5]
      exact ⟨rfl, hd, rfl, Nat.lt_succ_self _⟩
    · have hr3 : r < cN a 3 := by omega
      obtain ⟨f1, f2, f3, f4⟩ := g1 r hr3
      have e1 : cR (kMake a d h kg) 3 1 r = cR a 3 1 r := by simp [kMake, kMakeR, kMakeT, cSL, cSI, cSR, u3, cR, cN, cNew, hr9]
      have e2 : cR (kMake a d h kg) 3 2 r = cR a 3 2 r := by simp [kMake, kMakeR, kMakeT, cSL, cSI, cSR, u3, cR, cN, cNew, hr9]
      simp only [kD, kT] at f1 f2 f3 f4 ⊢
      rw [e1, e2, n2, n5]
      exact ⟨f1, f2, f3, Nat.lt_succ_of_lt f4⟩
  · have e3 : cR (kMake a d h kg) 2 4 d' = cR a 2 4 d' := by simp [kMake, kMakeR, kMakeT, cSL, cSI, cSR, u3, cR, cN, cNew]
    obtain ⟨f1, f2⟩ := g2 d' hd'
    simp only [kS] at f1 f2 ⊢
    rw [e3]
    exact ⟨f1, f2⟩
  · obtain ⟨f1, f2, f3, f4⟩ := g3
    refine ⟨f1, f2, ?_, f4⟩
    show cL a 2 + 1 ≤ cN a 3 + 1
    omega
theorem kMake_gr {a : CS} (d : Nat) (h kg : Int32) : cGr a (kMake a d h kg) := ⟨fun t => Nat.le_trans (cNew_le 3 t) (cNew_le 5 t), rfl, rfl, rfl, Nat.le_succ _, rfl, rfl, rfl⟩
theorem kSplitOff_gr {a : CS} (r : Nat) (kg : Int32) : cGr a (kSplitOff a r kg) := kMake_gr (kD a r) (cI a 5 2 (kT a r)) kg
theorem kSplitOff_ok {a : CS} (ok : cOk a) {r : Nat} (hr : r < cN a 3) (kg : Int32) (hL : cL a 2 = cN a 3) : cOk (kSplitOff a r kg) := by
  have k := kMake_ok ok (ok.1.1 r hr).2.1 (cI a 5 2 (kT a r)) kg hL
  refine cOk.of (a := cSR (kMake a (kD a r) (cI a 5 2 (kT a r)) kg) 3 7 (cN a 3) (cR (kMake a (kD a r) (cI a 5 2 (kT a r)) kg) 3 7 r)) rfl rfl rfl ⟨cWf_SR7 k.1, cRwf_SR 3 7 _ _ (fun y h => ?_) k.2⟩
  exact k.2 (3, 7) (by decide) r y (Nat.lt_succ_of_lt hr) h
theorem kSplitOff_pc (a : CS) (r : Nat) (kg : Int32) : pc (kSplitOff a r kg) = pc a + 3 ∧ ps (kSplitOff a r kg) = ps a + 164 := by
  have e1 : cN (kSplitOff a r kg) 1 = cN a 1 := rfl
  have e2 : cN (kSplitOff a r kg) 2 = cN a 2 := rfl
  have e3 : cN (kSplitOff a r kg) 3 = cN a 3 + 1 := rfl
  have e4 : cN (kSplitOff a r kg) 4 = cN a 4 := rfl
  have e5 : cN (kSplitOff a r kg) 5 = cN a 5 + 1 := rfl
  unfold pc ps
  rw [e1, e2, e3, e4, e5]
  omega
theorem kCh_gr {a : CS} (r : Nat) (h : Int32) : cGr a (kCh a r h) := by
  obtain ⟨h1, h2, h3⟩ := kCh_le (a := a) (r := r) h
  have e : ∀ j, cL (kCh a r h) j = cL a j := fun j => congrFun h3 j
  exact ⟨h1, e 0, e 1, e 3, Nat.le_of_eq (e 2).symm, h2 1 (by decide), h2 2 (by decide), h2 4 (by decide)⟩
/-- a receipt goes to the contract's buyer -/
def kGive (a : CS) (c r : Nat) : CS := cSR (kCh a r (cI a 1 2 c)) 3 7 r (some c)
theorem kGive_gr {a : CS} (c r : Nat) : cGr a (kGive a c r) := kCh_gr r (cI a 1 2 c)
theorem kGive_inv {a : CS} {c r : Nat} (hr : r < cN a 3) (hc : c < cN a 1) (h : cInv a) : cInv (kGive a c r) := by
  have k := kCh_ok (cI a 1 2 c) hr h.1
  obtain ⟨h1, h2, h3⟩ := kCh_le (a := a) (r := r) (cI a 1 2 c)
  refine h.ofGr (kGive_gr c r) ⟨cWf_SR7 k.1, cRwf_SR 3 7 _ _ (fun y h => ?_) k.2⟩ ?_ ?_
  · cases h
    exact Nat.lt_of_lt_of_le hc (h1 1)
  · show cL (kCh a r (cI a 1 2 c)) 2 = cN (kCh a r (cI a 1 2 c)) 3
    rw [h2 3 (by decide), show cL (kCh a r (cI a 1 2 c)) 2 = cL a 2 from congrFun h3 2]
    exact h.2.1.1
  · show cL (kCh a r (cI a 1 2 c)) 2 ≤ 80
    rw [show cL (kCh a r (cI a 1 2 c)) 2 = cL a 2 from congrFun h3 2]
    exact h.2.1.2
theorem kSplitOff_inv {a : CS} {r : Nat} (hr : r < cN a 3) (kg : Int32) (h8 : cL a 2 < 80) (h : cInv a) : cInv (kSplitOff a r kg) :=
  h.ofGr (kSplitOff_gr r kg) (kSplitOff_ok h.1 hr kg h.2.1.1) (by show cL a 2 + 1 = cN a 3 + 1; rw [h.2.1.1]) (by show cL a 2 + 1 ≤ 80; omega)
def kHo (c : Nat) : Nat → Nat → CS → Int32 → CS × Int32
  | _, 0, a, ms => (a, ms)
  | i, k + 1, a, ms =>
    if ms ≤ 0 then (a, ms)
    else if decide (¬ cI a 3 4 i = -1) = true then kHo c (i + 1) k a ms
    else if kLiveOf a (cI a 1 1 c) (cI a 1 3 c) (cI a 1 4 c) i = true then
      (if cI a 3 3 i ≤ ms then kHo c (i + 1) k (kGive a c i) (ms - cI (kGive a c i) 3 3 i)
      else if decide ((80 : Int32) ≤ nI (cL a 2)) = true then (a, ms)
      else kHo c (i + 1) k (kGive (kSplitOff a i ms) c (cN a 3)) (ms - cI (kGive (kSplitOff a i ms) c (cN a 3)) 3 3 (cN a 3)))
    else kHo c (i + 1) k a ms
theorem kHo_gr {c : Nat} : ∀ (k i : Nat) (a : CS) (ms : Int32), cGr a (kHo c i k a ms).1
  | 0, i, a, ms => cGr.rf
  | k + 1, i, a, ms => by
    unfold kHo
    split
    · exact cGr.rf
    · split
      · exact kHo_gr k (i + 1) a ms
      · split
        · split
          · exact (kGive_gr c i).tr (kHo_gr k (i + 1) _ _)
          · split
            · exact cGr.rf
            · exact ((kSplitOff_gr i ms).tr (kGive_gr c _)).tr (kHo_gr k (i + 1) _ _)
        · exact kHo_gr k (i + 1) a ms
theorem nI_80n {n : Nat} (h : ¬ decide ((80 : Int32) ≤ nI n) = true) (hb : n ≤ 80) : n < 80 := by
  rcases Nat.lt_or_ge n 80 with q | q
  · exact q
  · exact absurd (nI_80t q (by omega)) h
theorem kHo_inv {c : Nat} : ∀ (k i : Nat) (a : CS) (ms : Int32), c < cN a 1 → i + k ≤ cL a 2 → cInv a → cInv (kHo c i k a ms).1
  | 0, i, a, ms, _, _, h => h
  | k + 1, i, a, ms, hc, hk, h => by
    have hr : i < cN a 3 := by have := h.2.1.1; omega
    unfold kHo
    split
    · exact h
    · split
      · exact kHo_inv k (i + 1) a ms hc (by omega) h
      · split
        · split
          · exact kHo_inv k (i + 1) _ _ (Nat.lt_of_lt_of_le hc ((kGive_gr c i).1 1)) (by have := (kGive_gr (a := a) c i).2.2.2.2.1; omega) (kGive_inv hr hc h)
          · split
            · exact h
            · rename_i h8
              have h80 := nI_80n h8 h.2.1.2
              have i2 := kSplitOff_inv hr ms h80 h
              have g2 := kSplitOff_gr (a := a) i ms
              have hc2 := Nat.lt_of_lt_of_le hc (g2.1 1)
              have g3 := kGive_gr (a := kSplitOff a i ms) c (cN a 3)
              exact kHo_inv k (i + 1) _ _ (Nat.lt_of_lt_of_le hc2 (g3.1 1)) (by have := g3.2.2.2.2.1; have := g2.2.2.2.2.1; omega) (kGive_inv (Nat.lt_succ_self _) hc2 i2)
        · exact kHo_inv k (i + 1) a ms hc (by omega) h
def kSettle (a : CS) (c : Nat) : CS :=
  let t := kHo c 0 (cL a 2) a (cI a 1 5 c)
  let ho := cI t.1 1 5 c - t.2
  let b := cSI (cSI (cSI t.1 1 8 c 1) 1 9 c ho) 1 10 c t.2
  let b := kPayT b (cI b 1 2 c) (cI b 1 1 c) (ho.toInt64 * (cI b 1 7 c).toInt64)
  kPayT b (cI b 1 1 c) (cI b 1 2 c) (t.2.toInt64 * (cI b 6 8 0).toInt64)
theorem kSettle_same (a : CS) (c : Nat) : (kSettle a c).1 = (kHo c 0 (cL a 2) a (cI a 1 5 c)).1.1 ∧ (kSettle a c).2.2.1 = (kHo c 0 (cL a 2) a (cI a 1 5 c)).1.2.2.1 ∧ (kSettle a c).2.2.2.2.2 = (kHo c 0 (cL a 2) a (cI a 1 5 c)).1.2.2.2.2.2 := by
  unfold kSettle
  simp only
  refine ⟨?_, ?_, ?_⟩
  · rw [(kPayT_same _ _ _ _).1, (kPayT_same _ _ _ _).1]; rfl
  · rw [(kPayT_same _ _ _ _).2.1, (kPayT_same _ _ _ _).2.1]; rfl
  · rw [(kPayT_same _ _ _ _).2.2.1, (kPayT_same _ _ _ _).2.2.1]; rfl
theorem kSettle_gr (a : CS) (c : Nat) : cGr a (kSettle a c) := by
  obtain ⟨h1, h2, h3⟩ := kSettle_same a c
  exact (kHo_gr (cL a 2) 0 a (cI a 1 5 c)).tr (cGr.of h1 h3)
theorem kSettle_inv {a : CS} {c : Nat} (hc : c < cN a 1) (h : cInv a) : cInv (kSettle a c) := by
  obtain ⟨h1, h2, h3⟩ := kSettle_same a c
  exact (kHo_inv (cL a 2) 0 a (cI a 1 5 c) hc (by omega) h).of h1 h2 h3
abbrev rpX5_handOver (mc ms : Nat) : Room := { frames := 9, cells := mc, slots := ms, locals := 238 }
set_option maxHeartbeats 1500000 in
set_option maxRecDepth 100000 in
theorem k_handOver (l : Launch) (D : va_G) (ty : Nat → ClassId) (A : Nat → Prop) (tE : Nat) (el : Nat → Nat → Nat) (a : CS) (inv : cInv a) {c9 : Nat} (hc1 : c9 < cN a 1) : Met l yX5_handOver wsX5_handOver (rpX5_handOver (pc (kHo c9 0 (cL a 2) a (cI a 1 5 c9)).1 - pc a) (ps (kHo c9 0 (cL a 2) a (cI a 1 5 c9)).1 - ps a)) (gPc D ty true cstrs tE A [.ref (el 6 0), .ref (el 1 c9)] (hC D ty A tE el a)) (gQ A (gRet (some (.int (kHo c9 0 (cL a 2) a (cI a 1 5 c9)).2)) (hX D ty A tE el a (kHo c9 0 (cL a 2) a (cI a 1 5 c9)).1))) (pc (kHo c9 0 (cL a 2) a (cI a 1 5 c9)).1 - pc a) (ps (kHo c9 0 (cL a 2) a (cI a 1 5 c9)).1 - ps a) A := by
  refine g_Met (cc := cX5_handOver) (maxL := 6) (ret := (some .int)) [some (.ref (el 6 0)), some (.ref (el 1 c9)), none, none, none, none] (by decide) rfl (Nat.le_of_ble_eq_true rfl) rfl ?_
  intro p e s m args below meth c S hlk hr hnm hK hE hP0
  have S : CallFix p m c cX5_handOver 6 s args wsX5_handOver RX5 := S
  have h1 : cOb a 1 c9 := Or.inl ⟨by decide, hc1⟩
  have h80 := inv.2.1.2
  have L : ∀ (kk i : Nat) (a9 : CS) (el9 : Nat → Nat → Nat) (ms : Int32), i + kk = cL a 2 → elX a el el9 → cInv a9 → cGr a a9 → kHo c9 i kk a9 ms = (kHo c9 0 (cL a 2) a (cI a 1 5 c9)) → gW p l e (headSpec wsX5_handOver (rpX5_handOver (pc (kHo c9 0 (cL a 2) a (cI a 1 5 c9)).1 - pc a) (ps (kHo c9 0 (cL a 2) a (cI a 1 5 c9)).1 - ps a))).room s m args below meth c A (gR below A args s (pc (kHo c9 0 (cL a 2) a (cI a 1 5 c9)).1 - pc a) (ps (kHo c9 0 (cL a 2) a (cI a 1 5 c9)).1 - ps a) (gRet (some (.int (kHo c9 0 (cL a 2) a (cI a 1 5 c9)).2)) (hX D ty A tE el a (kHo c9 0 (cL a 2) a (cI a 1 5 c9)).1))) 6 (hC D ty A tE el9 a9) (pc a9 - pc a) (ps a9 - ps a) 16 [some (.ref (el9 6 0)), some (.ref (el9 1 c9)), some (.int ms), some (.int (nI (cL a 2))), some (.int (nI i)), none] [] := by
    intro kk
    induction kk with
    | zero =>
      intro i a9 el9 ms ei hx9 inv9 gr9 e1
      have hLN9 := inv9.2.1.1
      have h809 := inv9.2.1.2
      have hb9 : cL a9 2 < 2 ^ 31 := by omega
      have hpc := gr9.cost
      have hm0 : pc a9 ≤ pc (kHo c9 0 (cL a 2) a (cI a 1 5 c9)).1 ∧ ps a9 ≤ ps (kHo c9 0 (cL a 2) a (cI a 1 5 c9)).1 := by rw [← e1]; exact (kHo_gr _ i a9 ms).cost
      have h19 : cOb a9 1 c9 := cOb_le gr9.1 h1
      have ok9 := inv9.1
      have hwf9 := ok9.1
      refine g_iload S dX5_handOver_16 rfl ?_
      refine g_iload_n S dX5_handOver_18 rfl ?_
      refine g_icmp_ge S (tgt := 137) dX5_handOver_19 (by decide) (fun c_19 => ?_) (fun c_19 => ?_)
      · refine g_iload_n S dX5_handOver_137 rfl ?_
        exact g_iret S hlk hr (fun H h => ⟨by rw [← e1]; rfl, el9, hx9, by rw [← e1]; exact h⟩) (by rw [← e1]; exact Nat.le_refl _) (by rw [← e1]; exact Nat.le_refl _) dX5_handOver_138
      · exact absurd (lp_exit (nr := cL a 2) rfl (by omega) (by omega)) c_19
    | succ kk ih =>
      intro i a9 el9 ms ei hx9 inv9 gr9 e1
      have hLN9 := inv9.2.1.1
      have h809 := inv9.2.1.2
      have hb9 : cL a9 2 < 2 ^ 31 := by omega
      have hpc := gr9.cost
      have hm0 : pc a9 ≤ pc (kHo c9 0 (cL a 2) a (cI a 1 5 c9)).1 ∧ ps a9 ≤ ps (kHo c9 0 (cL a 2) a (cI a 1 5 c9)).1 := by rw [← e1]; exact (kHo_gr _ i a9 ms).cost
      have h19 : cOb a9 1 c9 := cOb_le gr9.1 h1
      have ok9 := inv9.1
      have hwf9 := ok9.1
      have hq : i < cL a9 2 := by have := gr9.2.2.2.2.1; omega
      have hr3 : i < cN a9 3 := by omega
      have hr9 := hwf9.1 i hr3
      have h3 : cOb a9 3 i := Or.inl ⟨by decide, hr3⟩
      have hd := hr9.1
      have h2 : cOb a9 2 (kD a9 i) := Or.inl ⟨by decide, hr9.2.1⟩
      have ht := hr9.2.2.1
      have h5 : cOb a9 5 (kT a9 i) := Or.inl ⟨by decide, hr9.2.2.2⟩
      have hs9 := hwf9.2.1 _ hr9.2.1
      have hs := hs9.1
      have h4 : cOb a9 4 (kS a9 (kD a9 i)) := Or.inl ⟨by decide, hs9.2⟩
      have h93 : ¬ ms ≤ 0 → decide (¬ cI a9 3 4 i = -1) = false → kLiveOf a9 (cI a9 1 1 c9) (cI a9 1 3 c9) (cI a9 1 4 c9) i = true → ¬ cI a9 3 3 i ≤ ms → decide ((80 : Int32) ≤ nI (cL a9 2)) = false → pc (kSplitOff a9 i ms) ≤ pc (kHo c9 0 (cL a 2) a (cI a 1 5 c9)).1 ∧ ps (kSplitOff a9 i ms) ≤ ps (kHo c9 0 (cL a 2) a (cI a 1 5 c9)).1 := by
        intro c_35 c_57 c_77 c_86 c_93
        rw [← e1]
        simp only [kHo]
        rw [if_neg c_35, if_neg (show ¬ decide (¬ cI a9 3 4 i = -1) = true from fun z => absurd (Eq.trans (Eq.symm c_57) z) (by decide)), if_pos (show kLiveOf a9 (cI a9 1 1 c9) (cI a9 1 3 c9) (cI a9 1 4 c9) i = true from c_77), if_neg c_86, if_neg (show ¬ decide ((80 : Int32) ≤ nI (cL a9 2)) = true from fun z => absurd (Eq.trans (Eq.symm c_93) z) (by decide))]
        exact ((kGive_gr c9 _).tr (kHo_gr kk (i + 1) _ _)).cost
      refine g_iload S dX5_handOver_16 rfl ?_
      refine g_iload_n S dX5_handOver_18 rfl ?_
      refine g_icmp_ge S (tgt := 137) dX5_handOver_19 (by decide) (fun c_19 => ?_) (fun c_19 => ?_)
      · exact absurd c_19 (lp_stay (nr := cL a 2) rfl (by omega) (by omega))
      · refine g_iload S dX5_handOver_22 rfl ?_
        refine g_aload_n S dX5_handOver_24 rfl ?_
        refine k6_get S hK (by exact cOb6) 2 (by decide) (S.2.2.2.2 _ (List.mem_of_getElem? (i := 2) rfl)) rfl dX5_handOver_25 ?_
        refine g_cVr S (k_size l D ty A tE el9 a9 (j := 2) (by decide)) (cwV 0 S.2.2.2.2 gX5_handOver_Jx4a65c_size_8abf5 rfl rfl rfl (by decide +kernel) ⟨Nat.le_of_ble_eq_true rfl, Nat.le_of_ble_eq_true rfl⟩) hK hE (fun H h => h) (k0_recv hK (j := 2) (by decide)) rfl (Nat.le_of_ble_eq_true rfl) dX5_handOver_28 ⟨by show (pc a9 - pc a) + 0 ≤ pc (kHo c9 0 (cL a 2) a (cI a 1 5 c9)).1 - pc a; omega, by show (ps a9 - ps a) + 0 ≤ ps (kHo c9 0 (cL a 2) a (cI a 1 5 c9)).1 - ps a; omega⟩ ?_
        refine g_icmp_ge S (tgt := 137) dX5_handOver_31 (by decide) (fun c_31 => ?_) (fun c_31 => ?_)
        · exact absurd c_31 (lp_stay (nr := cL a9 2) rfl (by omega) (by omega))
        · refine g_iload_n S dX5_handOver_34 rfl ?_
          refine g_if_le S (tgt := 137) dX5_handOver_35 (by decide) (fun c_35 => ?_) (fun c_35 => ?_)
          · refine g_iload_n S dX5_handOver_137 rfl ?_
            exact g_iret S hlk hr (fun H h => ⟨by rw [← e1]; simp only [kHo]; rw [if_pos c_35], el9, hx9, by rw [← e1]; simp only [kHo]; rw [if_pos c_35]; exact h⟩) (by rw [← e1]; simp only [kHo]; rw [if_pos c_35]; exact Nat.le_refl _) (by rw [← e1]; simp only [kHo]; rw [if_pos c_35]; exact Nat.le_refl _) dX5_handOver_138
          · refine g_aload_n S dX5_handOver_38 rfl ?_
            refine k6_get S hK (by exact cOb6) 2 (by decide) (S.2.2.2.2 _ (List.mem_of_getElem? (i := 2) rfl)) rfl dX5_handOver_39 ?_
            refine g_iload S dX5_handOver_42 rfl ?_
            refine g_cVr S (k_get l D ty A tE el9 a9 (j := 2) (by decide) hq hb9) (cwV 1 S.2.2.2.2 gX5_handOver_Jx4a65c_get_915e3 rfl rfl rfl (by decide +kernel) ⟨Nat.le_of_ble_eq_true rfl, Nat.le_of_ble_eq_true rfl⟩) hK hE (fun H h => h) (k0_recv hK (j := 2) (by decide)) rfl (Nat.le_of_ble_eq_true rfl) dX5_handOver_44 ⟨by show (pc a9 - pc a) + 0 ≤ pc (kHo c9 0 (cL a 2) a (cI a 1 5 c9)).1 - pc a; omega, by show (ps a9 - ps a) + 0 ≤ ps (kHo c9 0 (cL a 2) a (cI a 1 5 c9)).1 - ps a; omega⟩ ?_
            refine g_cast S hK (q := (RX2, TX2, 9)) (S.2.2.2.2 _ (List.mem_of_getElem? (i := 3) rfl)) (ci := 3) rfl (k3_recv hK h3) dX5_handOver_47 ?_
            refine g_astore S dX5_handOver_50 (by decide) rfl ?_
            refine g_aload S dX5_handOver_52 rfl ?_
            refine g_cVr S (k_isPledged l D ty A tE el9 a9 h3) (cwV 0 S.2.2.2.2 gX5_handOver_X2_isPledged rfl rfl rfl (by decide +kernel) ⟨Nat.le_of_ble_eq_true rfl, Nat.le_of_ble_eq_true rfl⟩) hK hE (fun H h => h) (k3_recv hK h3) rfl (Nat.le_of_ble_eq_true rfl) dX5_handOver_54 ⟨by show (pc a9 - pc a) + 0 ≤ pc (kHo c9 0 (cL a 2) a (cI a 1 5 c9)).1 - pc a; omega, by show (ps a9 - ps a) + 0 ≤ ps (kHo c9 0 (cL a 2) a (cI a 1 5 c9)).1 - ps a; omega⟩ ?_
            refine g_ifb_ne S (tgt := 131) dX5_handOver_57 (by decide) (fun c_57 => ?_) (fun c_57 => ?_)
            · refine g_iinc S (v := nI (i + 1)) dX5_handOver_131 rfl (nI_inc i) (by decide) rfl ?_
              refine g_goto S (tgt := 16) dX5_handOver_134 (by decide) ?_
              refine g_drop 5 ?_
              exact ih (i + 1) a9 el9 ms (by omega) hx9 inv9 gr9 (by rw [← e1]; simp only [kHo]; rw [if_neg c_35, if_pos c_57])
            · refine g_aload S dX5_handOver_60 rfl ?_
              refine g_aload_n S dX5_handOver_62 rfl ?_
              refine k1_get S hK (by exact h19) 1 (by decide) (S.2.2.2.2 _ (List.mem_of_getElem? (i := 4) rfl)) rfl dX5_handOver_63 ?_
              refine g_aload_n S dX5_handOver_66 rfl ?_
              refine k1_get S hK (by exact h19) 3 (by decide) (S.2.2.2.2 _ (List.mem_of_getElem? (i := 5) rfl)) rfl dX5_handOver_67 ?_
              refine g_aload_n S dX5_handOver_70 rfl ?_
              refine k1_get S hK (by exact h19) 4 (by decide) (S.2.2.2.2 _ (List.mem_of_getElem? (i := 6) rfl)) rfl dX5_handOver_71 ?_
              refine g_cVr S (k_isLiveOf l D ty A tE el9 a9 h3 ht h5 hd h2 hs h4 _ _ _) (cwV 3 S.2.2.2.2 gX5_handOver_X2_isLiveOf rfl rfl rfl (by decide +kernel) ⟨Nat.le_of_ble_eq_true rfl, Nat.le_of_ble_eq_true rfl⟩) hK hE (fun H h => h) (k3_recv hK h3) rfl (Nat.le_of_ble_eq_true rfl) dX5_handOver_74 ⟨by show (pc a9 - pc a) + 0 ≤ pc (kHo c9 0 (cL a 2) a (cI a 1 5 c9)).1 - pc a; omega, by show (ps a9 - ps a) + 0 ≤ ps (kHo c9 0 (cL a 2) a (cI a 1 5 c9)).1 - ps a; omega⟩ ?_
              refine g_ifb_eq S (tgt := 131) dX5_handOver_77 (by decide) (fun c_77 => ?_) (fun c_77 => ?_)
              · refine g_iinc S (v := nI (i + 1)) dX5_handOver_131 rfl (nI_inc i) (by decide) rfl ?_
                refine g_goto S (tgt := 16) dX5_handOver_134 (by decide) ?_
                refine g_drop 5 ?_
                exact ih (i + 1) a9 el9 ms (by omega) hx9 inv9 gr9 (by rw [← e1]; simp only [kHo]; rw [if_neg c_35, if_neg (show ¬ decide (¬ cI a9 3 4 i = -1) = true from fun z => absurd (Eq.trans (Eq.symm c_57) z) (by decide)), if_neg (show ¬ kLiveOf a9 (cI a9 1 1 c9) (cI a9 1 3 c9) (cI a9 1 4 c9) i = true from fun z => absurd (Eq.trans (Eq.symm c_77) z) (by decide))])
              · refine g_aload S dX5_handOver_80 rfl ?_
                refine k3_get S hK (by exact h3) 3 (by decide) (S.2.2.2.2 _ (List.mem_of_getElem? (i := 7) rfl)) rfl dX5_handOver_82 ?_
                refine g_iload_n S dX5_handOver_85 rfl ?_
                refine g_icmp_le S (tgt := 107) dX5_handOver_86 (by decide) (fun c_86 => ?_) (fun c_86 => ?_)
                · obtain ⟨B, hB⟩ : ∃ x, x = (kGive a9 c9 i) := ⟨_, rfl⟩
                  have eT : kHo c9 (i + 1) kk B (ms - cI B 3 3 i) = (kHo c9 0 (cL a 2) a (cI a 1 5 c9)) := by rw [hB, ← e1]; simp only [kHo]; rw [if_neg c_35, if_neg (show ¬ decide (¬ cI a9 3 4 i = -1) = true from fun z => absurd (Eq.trans (Eq.symm c_57) z) (by decide)), if_pos (show kLiveOf a9 (cI a9 1 1 c9) (cI a9 1 3 c9) (cI a9 1 4 c9) i = true from c_77), if_pos c_86]
                  have hm : pc B ≤ pc (kHo c9 0 (cL a 2) a (cI a 1 5 c9)).1 ∧ ps B ≤ ps (kHo c9 0 (cL a 2) a (cI a 1 5 c9)).1 := by rw [← eT]; exact (kHo_gr kk (i + 1) B _).cost
                  have hBc : pc B = pc (kCh a9 i (cI a9 1 2 c9)) ∧ ps B = ps (kCh a9 i (cI a9 1 2 c9)) := by rw [hB]; exact ⟨rfl, rfl⟩
                  have hcp := kCh_pc a9 i (cI a9 1 2 c9)
                  refine g_aload_n S dX5_handOver_107 rfl ?_
                  refine g_aload S dX5_handOver_108 rfl ?_
                  refine g_aload_n S dX5_handOver_110 rfl ?_
                  refine k1_get S hK (by exact h19) 2 (by decide) (S.2.2.2.2 _ (List.mem_of_getElem? (i := 8) rfl)) rfl dX5_handOver_111 ?_
                  refine g_cVh S (k_ch l D ty A tE el9 a9 cOb6 (r := i) h3 (cI a9 1 2 c9) ok9 hr3) (cwV 2 S.2.2.2.2 gX5_handOver_X5_changeHolder rfl rfl rfl (by decide +kernel) ⟨Nat.le_of_ble_eq_true rfl, Nat.le_of_ble_eq_true rfl⟩) hK hE (fun H h => h) (k6_recv hK cOb6) rfl (Nat.le_of_ble_eq_true rfl) dX5_handOver_114 ⟨by show (pc a9 - pc a) + (pc (kCh a9 i (cI a9 1 2 c9)) - pc a9) ≤ pc (kHo c9 0 (cL a 2) a (cI a 1 5 c9)).1 - pc a; omega, by show (ps a9 - ps a) + (ps (kCh a9 i (cI a9 1 2 c9)) - ps a9) ≤ ps (kHo c9 0 (cL a 2) a (cI a 1 5 c9)).1 - ps a; omega⟩ (fun el2 x2 => ?_)
                  refine g_lv (show _ = [some (.ref (el2 6 0)), some (.ref (el2 1 c9)), some (.int ms), some (.int (nI (cL a 2))), some (.int (nI i)), some (.ref (el2 3 i))] from by rw [x2.ob (a := a9) cOb6, x2.ob h19, x2.ob h3] <;> rfl) ?_
                  refine g_aload S dX5_handOver_117 rfl ?_
                  refine g_aload_n S dX5_handOver_119 rfl ?_
                  refine k3_putR S hK (some c9) (by exact (cOb_le (kCh_le _).1 h3)) 7 (by decide) (by decide) (S.2.2.2.2 _ (List.mem_of_getElem? (i := 9) rfl)) (Or.inl rfl) rfl rfl rfl dX5_handOver_120 ?_
                  refine g_iload_n S dX5_handOver_123 rfl ?_
                  refine g_aload S dX5_handOver_124 rfl ?_
                  refine k3_get S hK (by exact (cOb_le (kCh_le _).1 h3)) 3 (by decide) (S.2.2.2.2 _ (List.mem_of_getElem? (i := 7) rfl)) rfl dX5_handOver_126 ?_
                  refine g_isub S dX5_handOver_129 ?_
                  refine g_istore_n S dX5_handOver_130 (by decide) rfl ?_
                  refine g_iinc S (v := nI (i + 1)) dX5_handOver_131 rfl (nI_inc i) (by decide) rfl ?_
                  refine g_goto S (tgt := 16) dX5_handOver_134 (by decide) ?_
                  refine g_drop 5 ?_
                  refine g_widen (k' := pc B - pc a) (n' := ps B - ps a) (by rw [hBc.1]; omega) (by rw [hBc.2]; omega) ?_
                  subst hB
                  exact ih (i + 1) _ el2 _ (by omega) (elX.tr hx9 x2 gr9.1) (kGive_inv hr3 (Nat.lt_of_lt_of_le hc1 (gr9.1 1)) inv9) (gr9.tr (kGive_gr c9 i)) eT
                · refine g_aload_n S dX5_handOver_89 rfl ?_
                  refine g_cVr S (k_full l D ty A tE el9 a9 cOb6) (cwV 0 S.2.2.2.2 gX5_handOver_X5_receiptsAreFull rfl rfl rfl (by decide +kernel) ⟨Nat.le_of_ble_eq_true rfl, Nat.le_of_ble_eq_true rfl⟩) hK hE (fun H h => h) (k6_recv hK cOb6) rfl (Nat.le_of_ble_eq_true rfl) dX5_handOver_90 ⟨by show (pc a9 - pc a) + 0 ≤ pc (kHo c9 0 (cL a 2) a (cI a 1 5 c9)).1 - pc a; omega, by show (ps a9 - ps a) + 0 ≤ ps (kHo c9 0 (cL a 2) a (cI a 1 5 c9)).1 - ps a; omega⟩ ?_
                  refine g_ifb_eq S (tgt := 98) dX5_handOver_93 (by decide) (fun c_93 => ?_) (fun c_93 => ?_)
                  · refine g_aload_n S dX5_handOver_98 rfl ?_
                    refine g_aload S dX5_handOver_99 rfl ?_
                    refine g_iload_n S dX5_handOver_101 rfl ?_
                    refine g_cVx S (k_splitOff l D ty A tE el9 a9 ok9 hr3 ms hLN9 (by omega)) (cwV 2 S.2.2.2.2 gX5_handOver_X5_splitOff rfl rfl rfl (by decide +kernel) ⟨Nat.le_of_ble_eq_true rfl, Nat.le_of_ble_eq_true rfl⟩) hK hE (fun H h => h) (k6_recv hK cOb6) rfl (Nat.le_of_ble_eq_true rfl) dX5_handOver_102 ⟨by show (pc a9 - pc a) + 3 ≤ pc (kHo c9 0 (cL a 2) a (cI a 1 5 c9)).1 - pc a; have z9 := kSplitOff_pc a9 i ms; have z8 : pc (kSplitOff a9 i ms) ≤ pc (kHo c9 0 (cL a 2) a (cI a 1 5 c9)).1 := (h93 c_35 c_57 c_77 c_86 c_93).1; omega, by show (ps a9 - ps a) + 164 ≤ ps (kHo c9 0 (cL a 2) a (cI a 1 5 c9)).1 - ps a; have z9 := kSplitOff_pc a9 i ms; have z8 : ps (kSplitOff a9 i ms) ≤ ps (kHo c9 0 (cL a 2) a (cI a 1 5 c9)).1 := (h93 c_35 c_57 c_77 c_86 c_93).2; omega⟩ (fun el1 x1 => ?_)
                    refine g_lv (show _ = [some (.ref (el1 6 0)), some (.ref (el1 1 c9)), some (.int ms), some (.int (nI (cL a 2))), some (.int (nI i)), some (.ref (el9 3 i))] from by rw [x1.ob (a := a9) cOb6, x1.ob h19] <;> rfl) ?_
                    refine g_astore S dX5_handOver_105 (by decide) rfl ?_
                    obtain ⟨B, hB⟩ : ∃ x, x = (kGive (kSplitOff a9 i ms) c9 (cN a9 3)) := ⟨_, rfl⟩
                    have eT : kHo c9 (i + 1) kk B (ms - cI B 3 3 (cN a9 3)) = (kHo c9 0 (cL a 2) a (cI a 1 5 c9)) := by rw [hB, ← e1]; simp only [kHo]; rw [if_neg c_35, if_neg (show ¬ decide (¬ cI a9 3 4 i = -1) = true from fun z => absurd (Eq.trans (Eq.symm c_57) z) (by decide)), if_pos (show kLiveOf a9 (cI a9 1 1 c9) (cI a9 1 3 c9) (cI a9 1 4 c9) i = true from c_77), if_neg c_86, if_neg (show ¬ decide ((80 : Int32) ≤ nI (cL a9 2)) = true from fun z => absurd (Eq.trans (Eq.symm c_93) z) (by decide))]
                    have hm : pc B ≤ pc (kHo c9 0 (cL a 2) a (cI a 1 5 c9)).1 ∧ ps B ≤ ps (kHo c9 0 (cL a 2) a (cI a 1 5 c9)).1 := by rw [← eT]; exact (kHo_gr kk (i + 1) B _).cost
                    have hBc : pc B = pc (kCh (kSplitOff a9 i ms) (cN a9 3) (cI (kSplitOff a9 i ms) 1 2 c9)) ∧ ps B = ps (kCh (kSplitOff a9 i ms) (cN a9 3) (cI (kSplitOff a9 i ms) 1 2 c9)) := by rw [hB]; exact ⟨rfl, rfl⟩
                    have hcp := kCh_pc (kSplitOff a9 i ms) (cN a9 3) (cI (kSplitOff a9 i ms) 1 2 c9)
                    have hsp := kSplitOff_pc a9 i ms
                    refine g_aload_n S dX5_handOver_107 rfl ?_
                    refine g_aload S dX5_handOver_108 rfl ?_
                    refine g_aload_n S dX5_handOver_110 rfl ?_
                    refine k1_get S hK (by exact (cOb_le (kSplitOff_gr i ms).1 h19)) 2 (by decide) (S.2.2.2.2 _ (List.mem_of_getElem? (i := 8) rfl)) rfl dX5_handOver_111 ?_
                    refine g_cVh S (k_ch l D ty A tE el1 (kSplitOff a9 i ms) cOb6 (r := (cN a9 3)) (cOb_le (cNew_le 5) (cOb_nw (a := a9) (j := 3) (by decide))) (cI (kSplitOff a9 i ms) 1 2 c9) (kSplitOff_ok ok9 hr3 ms hLN9) (Nat.lt_succ_self _)) (cwV 2 S.2.2.2.2 gX5_handOver_X5_changeHolder rfl rfl rfl (by decide +kernel) ⟨Nat.le_of_ble_eq_true rfl, Nat.le_of_ble_eq_true rfl⟩) hK hE (fun H h => h) (k6_recv hK cOb6) rfl (Nat.le_of_ble_eq_true rfl) dX5_handOver_114 ⟨by show ((pc a9 - pc a) + 3) + (pc (kCh (kSplitOff a9 i ms) (cN a9 3) (cI (kSplitOff a9 i ms) 1 2 c9)) - pc (kSplitOff a9 i ms)) ≤ pc (kHo c9 0 (cL a 2) a (cI a 1 5 c9)).1 - pc a; omega, by show ((ps a9 - ps a) + 164) + (ps (kCh (kSplitOff a9 i ms) (cN a9 3) (cI (kSplitOff a9 i ms) 1 2 c9)) - ps (kSplitOff a9 i ms)) ≤ ps (kHo c9 0 (cL a 2) a (cI a 1 5 c9)).1 - ps a; omega⟩ (fun el2 x2 => ?_)
                    refine g_lv (show _ = [some (.ref (el2 6 0)), some (.ref (el2 1 c9)), some (.int ms), some (.int (nI (cL a 2))), some (.int (nI i)), some (.ref (el2 3 (cN a9 3)))] from by rw [x2.ob (a := (kSplitOff a9 i ms)) cOb6, x2.ob (cOb_le (kSplitOff_gr i ms).1 h19), x2.ob (cOb_le (cNew_le 5) (cOb_nw (a := a9) (j := 3) (by decide)))] <;> rfl) ?_
                    refine g_aload S dX5_handOver_117 rfl ?_
                    refine g_aload_n S dX5_handOver_119 rfl ?_
                    refine k3_putR S hK (some c9) (by exact (cOb_le (kCh_le _).1 (cOb_le (cNew_le 5) (cOb_nw (a := a9) (j := 3) (by decide))))) 7 (by decide) (by decide) (S.2.2.2.2 _ (List.mem_of_getElem? (i := 9) rfl)) (Or.inl rfl) rfl rfl rfl dX5_handOver_120 ?_
                    refine g_iload_n S dX5_handOver_123 rfl ?_
                    refine g_aload S dX5_handOver_124 rfl ?_
                    refine k3_get S hK (by exact (cOb_le (kCh_le _).1 (cOb_le (cNew_le 5) (cOb_nw (a := a9) (j := 3) (by decide))))) 3 (by decide) (S.2.2.2.2 _ (List.mem_of_getElem? (i := 7) rfl)) rfl dX5_handOver_126 ?_
                    refine g_isub S dX5_handOver_129 ?_
                    refine g_istore_n S dX5_handOver_130 (by decide) rfl ?_
                    refine g_iinc S (v := nI (i + 1)) dX5_handOver_131 rfl (nI_inc i) (by decide) rfl ?_
                    refine g_goto S (tgt := 16) dX5_handOver_134 (by decide) ?_
                    refine g_drop 5 ?_
                    refine g_widen (k' := pc B - pc a) (n' := ps B - ps a) (by rw [hBc.1]; omega) (by rw [hBc.2]; omega) ?_
                    subst hB
                    exact ih (i + 1) _ el2 _ (by omega) (elX.tr hx9 (elX.tr x1 x2 (kSplitOff_gr i ms).1) gr9.1) (kGive_inv (Nat.lt_succ_self _) (Nat.lt_of_lt_of_le (Nat.lt_of_lt_of_le hc1 (gr9.1 1)) ((kSplitOff_gr i ms).1 1)) (kSplitOff_inv hr3 ms (nI_80n (fun z => absurd (Eq.trans (Eq.symm c_93) z) (by decide)) h809) inv9)) ((gr9.tr (kSplitOff_gr i ms)).tr (kGive_gr c9 _)) eT
                  · refine g_iload_n S dX5_handOver_96 rfl ?_
                    exact g_iret S hlk hr (fun H h => ⟨by rw [← e1]; simp only [kHo]; rw [if_neg c_35, if_neg (show ¬ decide (¬ cI a9 3 4 i = -1) = true from fun z => absurd (Eq.trans (Eq.symm c_57) z) (by decide)), if_pos (show kLiveOf a9 (cI a9 1 1 c9) (cI a9 1 3 c9) (cI a9 1 4 c9) i = true from c_77), if_neg c_86, if_pos c_93], el9, hx9, by rw [← e1]; simp only [kHo]; rw [if_neg c_35, if_neg (show ¬ decide (¬ cI a9 3 4 i = -1) = true from fun z => absurd (Eq.trans (Eq.symm c_57) z) (by decide)), if_pos (show kLiveOf a9 (cI a9 1 1 c9) (cI a9 1 3 c9) (cI a9 1 4 c9) i = true from c_77), if_neg c_86, if_pos c_93]; exact h⟩) (by rw [← e1]; simp only [kHo]; rw [if_neg c_35, if_neg (show ¬ decide (¬ cI a9 3 4 i = -1) = true from fun z => absurd (Eq.trans (Eq.symm c_57) z) (by decide)), if_pos (show kLiveOf a9 (cI a9 1 1 c9) (cI a9 1 3 c9) (cI a9 1 4 c9) i = true from c_77), if_neg c_86, if_pos c_93]; exact Nat.le_refl _) (by rw [← e1]; simp only [kHo]; rw [if_neg c_35, if_neg (show ¬ decide (¬ cI a9 3 4 i = -1) = true from fun z => absurd (Eq.trans (Eq.symm c_57) z) (by decide)), if_pos (show kLiveOf a9 (cI a9 1 1 c9) (cI a9 1 3 c9) (cI a9 1 4 c9) i = true from c_77), if_neg c_86, if_pos c_93]; exact Nat.le_refl _) dX5_handOver_97
  refine g_aload_n S dX5_handOver_0 rfl ?_
  refine k1_get S hK (by exact h1) 5 (by decide) (S.2.2.2.2 _ (List.mem_of_getElem? (i := 1) rfl)) rfl dX5_handOver_1 ?_
  refine g_istore_n S dX5_handOver_4 (by decide) rfl ?_
  refine g_aload_n S dX5_handOver_5 rfl ?_
  refine k6_get S hK (by exact cOb6) 2 (by decide) (S.2.2.2.2 _ (List.mem_of_getElem? (i := 2) rfl)) rfl dX5_handOver_6 ?_
  refine g_cVr S (k_size l D ty A tE el a (j := 2) (by decide)) (cwV 0 S.2.2.2.2 gX5_handOver_Jx4a65c_size_8abf5 rfl rfl rfl (by decide +kernel) ⟨Nat.le_of_ble_eq_true rfl, Nat.le_of_ble_eq_true rfl⟩) hK hE (fun H h => h) (k0_recv hK (j := 2) (by decide)) rfl (Nat.le_of_ble_eq_true rfl) dX5_handOver_9 ⟨Nat.zero_le _, Nat.zero_le _⟩ ?_
  refine g_istore_n S dX5_handOver_12 (by decide) rfl ?_
  refine g_iconst S (v := 0) dX5_handOver_13 (by decide) ?_
  refine g_istore S dX5_handOver_14 (by decide) rfl ?_
  refine g_widen (k' := pc a - pc a) (n' := ps a - ps a) (by omega) (by omega) ?_
  exact L (cL a 2) 0 a el _ (Nat.zero_add _) elX.rf inv cGr.rf rfl

abbrev rpX5_settle (mc ms : Nat) : Room := { frames := 10, cells := mc, slots := ms, locals := 263 }
set_option maxHeartbeats 1500000 in
set_option maxRecDepth 100000 in
theorem k_settle (l : Launch) (D : va_G) (ty : Nat → ClassId) (A : Nat → Prop) (tE : Nat) (el : Nat → Nat → Nat) (a : CS) (inv : cInv a) {c9 : Nat} (hc1 : c9 < cN a 1) : Met l yX5_settle wsX5_settle (rpX5_settle (pc (kSettle a c9) - pc a) (ps (kSettle a c9) - ps a)) (gPc D ty true cstrs tE A [.ref (el 6 0), .ref (el 1 c9)] (hC D ty A tE el a)) (gQ A (gRet none (hX D ty A tE el a (kSettle a c9)))) (pc (kSettle a c9) - pc a) (ps (kSettle a c9) - ps a) A := by
  refine g_Met (cc := cX5_settle) (maxL := 4) (ret := none) [some (.ref (el 6 0)), some (.ref (el 1 c9)), none, none] (by decide) rfl (Nat.le_of_ble_eq_true rfl) rfl ?_
  intro p e s m args below meth c S hlk hr hnm hK hE hP0
  have S : CallFix p m c cX5_settle 4 s args wsX5_settle RX5 := S
  have h1 : cOb a 1 c9 := Or.inl ⟨by decide, hc1⟩
  have hcT : cOb (kHo c9 0 (cL a 2) a (cI a 1 5 c9)).1 1 c9 := cOb_le (kHo_gr (cL a 2) 0 a (cI a 1 5 c9)).1 h1
  have hpc : pc (kSettle a c9) = pc (kHo c9 0 (cL a 2) a (cI a 1 5 c9)).1 ∧ ps (kSettle a c9) = ps (kHo c9 0 (cL a 2) a (cI a 1 5 c9)).1 := pc_of (kSettle_same a c9).1
  refine g_aload_n S dX5_settle_0 rfl ?_
  refine g_aload_n S dX5_settle_1 rfl ?_
  refine g_cVi S (k_handOver l D ty A tE el a inv hc1) (cwV 1 S.2.2.2.2 gX5_settle_X5_handOver rfl rfl rfl (by decide +kernel) ⟨Nat.le_of_ble_eq_true rfl, Nat.le_of_ble_eq_true rfl⟩) hK hE (fun H h => h) (k6_recv hK cOb6) rfl (Nat.le_of_ble_eq_true rfl) dX5_settle_2 ⟨by show 0 + (pc (kHo c9 0 (cL a 2) a (cI a 1 5 c9)).1 - pc a) ≤ (pc (kSettle a c9) - pc a); omega, by show 0 + (ps (kHo c9 0 (cL a 2) a (cI a 1 5 c9)).1 - ps a) ≤ (ps (kSettle a c9) - ps a); omega⟩ (fun el1 x1 => ?_)
  refine g_lv (show _ = [some (.ref (el1 6 0)), some (.ref (el1 1 c9)), none, none] from by rw [x1.ob (a := a) cOb6, x1.ob h1] <;> rfl) ?_
  refine g_istore_n S dX5_settle_5 (by decide) rfl ?_
  refine g_aload_n S dX5_settle_6 rfl ?_
  refine k1_get S hK (by exact hcT) 5 (by decide) (S.2.2.2.2 _ (List.mem_of_getElem? (i := 1) rfl)) rfl dX5_settle_7 ?_
  refine g_iload_n S dX5_settle_10 rfl ?_
  refine g_isub S dX5_settle_11 ?_
  refine g_istore_n S dX5_settle_12 (by decide) rfl ?_
  refine g_aload_n S dX5_settle_13 rfl ?_
  refine g_iconst S (v := 1) dX5_settle_14 (by decide) ?_
  refine k1_put S hK (by exact hcT) 8 (by decide) (by decide) (S.2.2.2.2 _ (List.mem_of_getElem? (i := 2) rfl)) (Or.inl rfl) rfl rfl dX5_settle_15 ?_
  refine g_aload_n S dX5_settle_18 rfl ?_
  refine g_iload_n S dX5_settle_19 rfl ?_
  refine k1_put S hK (by exact hcT) 9 (by decide) (by decide) (S.2.2.2.2 _ (List.mem_of_getElem? (i := 3) rfl)) (Or.inl rfl) rfl rfl dX5_settle_20 ?_
  refine g_aload_n S dX5_settle_23 rfl ?_
  refine g_iload_n S dX5_settle_24 rfl ?_
  refine k1_put S hK (by exact hcT) 10 (by decide) (by decide) (S.2.2.2.2 _ (List.mem_of_getElem? (i := 4) rfl)) (Or.inl rfl) rfl rfl dX5_settle_25 ?_
  refine g_aload_n S dX5_settle_28 rfl ?_
  refine g_aload_n S dX5_settle_29 rfl ?_
  refine k1_get S hK (by exact hcT) 2 (by decide) (S.2.2.2.2 _ (List.mem_of_getElem? (i := 5) rfl)) rfl dX5_settle_30 ?_
  refine g_aload_n S dX5_settle_33 rfl ?_
  refine k1_get S hK (by exact hcT) 1 (by decide) (S.2.2.2.2 _ (List.mem_of_getElem? (i := 6) rfl)) rfl dX5_settle_34 ?_
  refine g_iload_n S dX5_settle_37 rfl ?_
  refine g_i2l S dX5_settle_38 ?_
  refine g_aload_n S dX5_settle_39 rfl ?_
  refine k1_get S hK (by exact hcT) 7 (by decide) (S.2.2.2.2 _ (List.mem_of_getElem? (i := 7) rfl)) rfl dX5_settle_40 ?_
  refine g_i2l S dX5_settle_43 ?_
  refine g_lmul S dX5_settle_44 ?_
  refine g_cVv S (k_payT l D ty A tE el1 (cSI (cSI (cSI (kHo c9 0 (cL a 2) a (cI a 1 5 c9)).1 1 8 c9 1) 1 9 c9 (cI (kHo c9 0 (cL a 2) a (cI a 1 5 c9)).1 1 5 c9 - (kHo c9 0 (cL a 2) a (cI a 1 5 c9)).2)) 1 10 c9 (kHo c9 0 (cL a 2) a (cI a 1 5 c9)).2) cOb6 _ _ _) (cwV 3 S.2.2.2.2 gX5_settle_X5_pay rfl rfl rfl (by decide +kernel) ⟨Nat.le_of_ble_eq_true rfl, Nat.le_of_ble_eq_true rfl⟩) hK hE (fun H h => h) (k6_recv hK cOb6) rfl (Nat.le_of_ble_eq_true rfl) dX5_settle_45 ⟨by show 0 + (pc (kHo c9 0 (cL a 2) a (cI a 1 5 c9)).1 - pc a) ≤ (pc (kSettle a c9) - pc a); omega, by show 0 + (ps (kHo c9 0 (cL a 2) a (cI a 1 5 c9)).1 - ps a) ≤ (ps (kSettle a c9) - ps a); omega⟩ ?_
  have hcP : cOb (kPayT (cSI (cSI (cSI (kHo c9 0 (cL a 2) a (cI a 1 5 c9)).1 1 8 c9 1) 1 9 c9 (cI (kHo c9 0 (cL a 2) a (cI a 1 5 c9)).1 1 5 c9 - (kHo c9 0 (cL a 2) a (cI a 1 5 c9)).2)) 1 10 c9 (kHo c9 0 (cL a 2) a (cI a 1 5 c9)).2) (cI (cSI (cSI (cSI (kHo c9 0 (cL a 2) a (cI a 1 5 c9)).1 1 8 c9 1) 1 9 c9 (cI (kHo c9 0 (cL a 2) a (cI a 1 5 c9)).1 1 5 c9 - (kHo c9 0 (cL a 2) a (cI a 1 5 c9)).2)) 1 10 c9 (kHo c9 0 (cL a 2) a (cI a 1 5 c9)).2) 1 2 c9) (cI (cSI (cSI (cSI (kHo c9 0 (cL a 2) a (cI a 1 5 c9)).1 1 8 c9 1) 1 9 c9 (cI (kHo c9 0 (cL a 2) a (cI a 1 5 c9)).1 1 5 c9 - (kHo c9 0 (cL a 2) a (cI a 1 5 c9)).2)) 1 10 c9 (kHo c9 0 (cL a 2) a (cI a 1 5 c9)).2) 1 1 c9) ((cI (kHo c9 0 (cL a 2) a (cI a 1 5 c9)).1 1 5 c9 - (kHo c9 0 (cL a 2) a (cI a 1 5 c9)).2).toInt64 * (cI (cSI (cSI (cSI (kHo c9 0 (cL a 2) a (cI a 1 5 c9)).1 1 8 c9 1) 1 9 c9 (cI (kHo c9 0 (cL a 2) a (cI a 1 5 c9)).1 1 5 c9 - (kHo c9 0 (cL a 2) a (cI a 1 5 c9)).2)) 1 10 c9 (kHo c9 0 (cL a 2) a (cI a 1 5 c9)).2) 1 7 c9).toInt64)) 1 c9 := cOb_of (a := (cSI (cSI (cSI (kHo c9 0 (cL a 2) a (cI a 1 5 c9)).1 1 8 c9 1) 1 9 c9 (cI (kHo c9 0 (cL a 2) a (cI a 1 5 c9)).1 1 5 c9 - (kHo c9 0 (cL a 2) a (cI a 1 5 c9)).2)) 1 10 c9 (kHo c9 0 (cL a 2) a (cI a 1 5 c9)).2)) (kPayT_same _ _ _ _).1 hcT
  refine g_aload_n S dX5_settle_48 rfl ?_
  refine g_aload_n S dX5_settle_49 rfl ?_
  refine k1_get S hK (by exact hcP) 1 (by decide) (S.2.2.2.2 _ (List.mem_of_getElem? (i := 6) rfl)) rfl dX5_settle_50 ?_
  refine g_aload_n S dX5_settle_53 rfl ?_
  refine k1_get S hK (by exact hcP) 2 (by decide) (S.2.2.2.2 _ (List.mem_of_getElem? (i := 5) rfl)) rfl dX5_settle_54 ?_
  refine g_iload_n S dX5_settle_57 rfl ?_
  refine g_i2l S dX5_settle_58 ?_
  refine g_aload_n S dX5_settle_59 rfl ?_
  refine k6_get S hK (by exact cOb6) 8 (by decide) (S.2.2.2.2 _ (List.mem_of_getElem? (i := 8) rfl)) rfl dX5_settle_60 ?_
  refine g_i2l S dX5_settle_63 ?_
  refine g_lmul S dX5_settle_64 ?_
  refine g_cVv S (k_payT l D ty A tE el1 (kPayT (cSI (cSI (cSI (kHo c9 0 (cL a 2) a (cI a 1 5 c9)).1 1 8 c9 1) 1 9 c9 (cI (kHo c9 0 (cL a 2) a (cI a 1 5 c9)).1 1 5 c9 - (kHo c9 0 (cL a 2) a (cI a 1 5 c9)).2)) 1 10 c9 (kHo c9 0 (cL a 2) a (cI a 1 5 c9)).2) (cI (cSI (cSI (cSI (kHo c9 0 (cL a 2) a (cI a 1 5 c9)).1 1 8 c9 1) 1 9 c9 (cI (kHo c9 0 (cL a 2) a (cI a 1 5 c9)).1 1 5 c9 - (kHo c9 0 (cL a 2) a (cI a 1 5 c9)).2)) 1 10 c9 (kHo c9 0 (cL a 2) a (cI a 1 5 c9)).2) 1 2 c9) (cI (cSI (cSI (cSI (kHo c9 0 (cL a 2) a (cI a 1 5 c9)).1 1 8 c9 1) 1 9 c9 (cI (kHo c9 0 (cL a 2) a (cI a 1 5 c9)).1 1 5 c9 - (kHo c9 0 (cL a 2) a (cI a 1 5 c9)).2)) 1 10 c9 (kHo c9 0 (cL a 2) a (cI a 1 5 c9)).2) 1 1 c9) ((cI (kHo c9 0 (cL a 2) a (cI a 1 5 c9)).1 1 5 c9 - (kHo c9 0 (cL a 2) a (cI a 1 5 c9)).2).toInt64 * (cI (cSI (cSI (cSI (kHo c9 0 (cL a 2) a (cI a 1 5 c9)).1 1 8 c9 1) 1 9 c9 (cI (kHo c9 0 (cL a 2) a (cI a 1 5 c9)).1 1 5 c9 - (kHo c9 0 (cL a 2) a (cI a 1 5 c9)).2)) 1 10 c9 (kHo c9 0 (cL a 2) a (cI a 1 5 c9)).2) 1 7 c9).toInt64)) cOb6 _ _ _) (cwV 3 S.2.2.2.2 gX5_settle_X5_pay rfl rfl rfl (by decide +kernel) ⟨Nat.le_of_ble_eq_true rfl, Nat.le_of_ble_eq_true rfl⟩) hK hE (fun H h => h) (k6_recv hK cOb6) rfl (Nat.le_of_ble_eq_true rfl) dX5_settle_65 ⟨by show 0 + (pc (kHo c9 0 (cL a 2) a (cI a 1 5 c9)).1 - pc a) ≤ (pc (kSettle a c9) - pc a); omega, by show 0 + (ps (kHo c9 0 (cL a 2) a (cI a 1 5 c9)).1 - ps a) ≤ (ps (kSettle a c9) - ps a); omega⟩ ?_
  exact g_vret S hlk hr (fun H h => ⟨rfl, el1, x1, h⟩) (by show 0 + (pc (kHo c9 0 (cL a 2) a (cI a 1 5 c9)).1 - pc a) ≤ _; omega) (by show 0 + (ps (kHo c9 0 (cL a 2) a (cI a 1 5 c9)).1 - ps a) ≤ _; omega) dX5_settle_68

