/-! a new contract, a pledge, on both sides -/
theorem mX_row (b : MS) (k : Nat) {i : Nat} (h : i < 2 ^ 31) (x : Int32) (q : Nat) : (mX b k (nI i) x).2.1 q = if q = k then upd (b.2.1 k) i x else b.2.1 q := by
  by_cases hq : q = k
  · subst hq; rw [if_pos rfl]; exact mX_at b q h x
  · rw [if_neg hq]; exact mX_ne b hq _ _
theorem kContract_I (a : CS) (x1 x2 x3 x4 x5 x6 x7 : Int32) (j k : Nat) : (kContract a x1 x2 x3 x4 x5 x6 x7).2.1 j k = if j = 1 then upd (a.2.1 1 k) (cN a 1) (if k = 7 then x7 else if k = 6 then cI a 6 9 0 + x6 else if k = 5 then x5 else if k = 4 then x4 else if k = 3 then x3 else if k = 2 then x2 else if k = 1 then x1 else if k = 0 then nI (cL a 3) else 0) else a.2.1 j k := by
  show (cSI (cSI (cSI (cSI (cSI (cSI (cSI (cSI (cNew a 1) 1 0 (cN a 1) (nI (cL a 3))) 1 1 (cN a 1) x1) 1 2 (cN a 1) x2) 1 3 (cN a 1) x3) 1 4 (cN a 1) x4) 1 5 (cN a 1) x5) 1 6 (cN a 1) (cI a 6 9 0 + x6)) 1 7 (cN a 1) x7).2.1 j k = _
  simp only [cSI_row]
  by_cases hj : j = 1
  · subst hj
    by_cases h7 : k = 7
    · subst h7; simp [cNew_s, upd2]
    · by_cases h6 : k = 6
      · subst h6; simp [cNew_s, upd2]
      · by_cases h5 : k = 5
        · subst h5; simp [cNew_s, upd2]
        · by_cases h4 : k = 4
          · subst h4; simp [cNew_s, upd2]
          · by_cases h3 : k = 3
            · subst h3; simp [cNew_s, upd2]
            · by_cases h2 : k = 2
              · subst h2; simp [cNew_s, upd2]
              · by_cases h1 : k = 1
                · subst h1; simp [cNew_s, upd2]
                · by_cases h0 : k = 0
                  · subst h0; simp [cNew_s, upd2]
                  · simp [h0, h1, h2, h3, h4, h5, h6, h7, cNew_s]
  · simp [hj, cNew_o a hj]
def mCon (b : MS) (n : Nat) (x1 x2 x3 x4 x5 x6 x7 : Int32) : MS := mS (mX (mX (mX (mX (mX (mX (mX b 34 (nI n) x1) 35 (nI n) x2) 36 (nI n) x3) 37 (nI n) x4) 38 (nI n) x5) 39 (nI n) x6) 40 (nI n) x7) 33 (nI (n + 1))
theorem mCon_row (b : MS) {n : Nat} (hn : n < 2 ^ 31) (x1 x2 x3 x4 x5 x6 x7 : Int32) (q : Nat) : (mCon b n x1 x2 x3 x4 x5 x6 x7).2.1 q = if q = 40 then upd (b.2.1 40) n x7 else if q = 39 then upd (b.2.1 39) n x6 else if q = 38 then upd (b.2.1 38) n x5 else if q = 37 then upd (b.2.1 37) n x4 else if q = 36 then upd (b.2.1 36) n x3 else if q = 35 then upd (b.2.1 35) n x2 else if q = 34 then upd (b.2.1 34) n x1 else b.2.1 q := by
  show (mX (mX (mX (mX (mX (mX (mX b 34 (nI n) x1) 35 (nI n) x2) 36 (nI n) x3) 37 (nI n) x4) 38 (nI n) x5) 39 (nI n) x6) 40 (nI n) x7).2.1 q = _
  simp [mX_row _ _ hn]
theorem mCon_lo (b : MS) {n : Nat} (hn : n < 2 ^ 31) (x1 x2 x3 x4 x5 x6 x7 : Int32) {q : Nat} (h : q < 34 ∨ 40 < q) : (mCon b n x1 x2 x3 x4 x5 x6 x7).2.1 q = b.2.1 q := by
  rw [mCon_row b hn, if_neg (by omega), if_neg (by omega), if_neg (by omega), if_neg (by omega), if_neg (by omega), if_neg (by omega), if_neg (by omega)]
theorem SC.contract {B : Nat} {a : CS} {b : MS} (h : SC sL B a b) (h30 : cL a 3 < 30) {x1 x2 : Int32} (hx1 : vp_in x1 6) (hx2 : vp_in x2 6) (x3 x4 x5 x6 x7 : Int32) : SC sL B (kContract a x1 x2 x3 x4 x5 x6 x7) (mCon b (cL a 3) x1 x2 x3 x4 x5 (cI a 6 9 0 + x6) x7) := by
  obtain ⟨ci, e, sc, ct, ac, ow, gr, no, dl, ds, hd, pl, co, tw, wf, hs, sm, pe, de, ze, cn, rm, bt⟩ := h
  have hn1 : cN a 1 = cL a 3 := ci.2.2.2.2.1.symm
  have ks := kContract_I a x1 x2 x3 x4 x5 x6 x7
  rw [hn1] at ks
  have ms := mCon_row b (n := cL a 3) (by omega) x1 x2 x3 x4 x5 (cI a 6 9 0 + x6) x7
  have mo : ∀ {q : Nat}, (q < 34 ∨ 40 < q) → (mCon b (cL a 3) x1 x2 x3 x4 x5 (cI a 6 9 0 + x6) x7).2.1 q = b.2.1 q := fun hq => mCon_lo b (by omega) _ _ _ _ _ _ _ hq
  have ko : ∀ {j k : Nat}, j ≠ 1 → (kContract a x1 x2 x3 x4 x5 x6 x7).2.1 j k = a.2.1 j k := fun {j k} hj => by rw [ks, if_neg hj]
  have r2 : (kContract a x1 x2 x3 x4 x5 x6 x7).2.2.1 2 = a.2.2.1 2 := (cNew_R a (show 2 ≠ 1 by decide) : (cNew a 1).2.2.1 2 = a.2.2.1 2)
  have r3 : (kContract a x1 x2 x3 x4 x5 x6 x7).2.2.1 3 = a.2.2.1 3 := (cNew_R a (show 3 ≠ 1 by decide) : (cNew a 1).2.2.1 3 = a.2.2.1 3)
  have r5 : (kContract a x1 x2 x3 x4 x5 x6 x7).2.2.1 5 = a.2.2.1 5 := (cNew_R a (show 5 ≠ 1 by decide) : (cNew a 1).2.2.1 5 = a.2.2.1 5)
  have eD : kD (kContract a x1 x2 x3 x4 x5 x6 x7) = kD a := by funext q; unfold kD cR; rw [r3]
  have eS : kS (kContract a x1 x2 x3 x4 x5 x6 x7) = kS a := by funext q; unfold kS cR; rw [r2]
  have eT : kT (kContract a x1 x2 x3 x4 x5 x6 x7) = kT a := by funext q; unfold kT cR; rw [r3]
  have eL3 : cL (kContract a x1 x2 x3 x4 x5 x6 x7) 3 = cL a 3 + 1 := rfl
  have ok := cOk_new1 (X := kContract a x1 x2 x3 x4 x5 x6 x7) ci.1 ci.2.2.2.2.1 rfl rfl rfl
  refine ⟨⟨ok, ci.2.1, ci.2.2.1, ci.2.2.2.1, ?_, ?_⟩, ?_, ?_, ⟨ct.1, ct.2.1, ct.2.2.1, rfl⟩, ac, ?_, ?_, ?_, ?_, ?_, ?_, ?_, ?_, ?_, ?_, ?_, ?_, ?_, ?_, ?_, ?_, ?_, bt⟩
  · show cL a 3 + 1 = cN a 1 + 1
    omega
  · rw [eL3]; omega
  · intro p hp
    rcases (show ∀ p ∈ sL, (p.2.1 ≠ 1 ∧ p.1 < 34) ∨ p = (34, 1, 1) ∨ p = (35, 1, 2) ∨ p = (36, 1, 3) ∨ p = (37, 1, 4) ∨ p = (38, 1, 5) ∨ p = (39, 1, 6) ∨ p = (40, 1, 7) ∨ p = (41, 1, 8) ∨ p = (43, 1, 10) ∨ p = (42, 1, 9) by decide) p hp with ⟨g1, g2⟩ | rfl | rfl | rfl | rfl | rfl | rfl | rfl | rfl | rfl | rfl
    · rw [mo (Or.inl g2), ko g1]; exact e p hp
    · have := e _ hp
      simp only at this ⊢
      rw [ms, ks, this]; simp
    · have := e _ hp
      simp only at this ⊢
      rw [ms, ks, this]; simp
    · have := e _ hp
      simp only at this ⊢
      rw [ms, ks, this]; simp
    · have := e _ hp
      simp only at this ⊢
      rw [ms, ks, this]; simp
    · have := e _ hp
      simp only at this ⊢
      rw [ms, ks, this]; simp
    · have := e _ hp
      simp only at this ⊢
      rw [ms, ks, this]; simp
    · have := e _ hp
      simp only at this ⊢
      rw [ms, ks, this]; simp
    · have := e _ hp
      simp only at this ⊢
      rw [ms, ks, ← this]; simp [upd_z ze.2.2.1]
    · have := e _ hp
      simp only at this ⊢
      rw [ms, ks, ← this]; simp [upd_z ze.2.2.2.2]
    · have := e _ hp
      simp only at this ⊢
      rw [ms, ks, ← this]; simp [upd_z ze.2.2.2.1]
  · unfold sSc cI
    rw [ko (by decide), ko (by decide), ko (by decide), ko (by decide)]
    exact sc
  · rw [mo (by decide)]; exact ow
  · rw [mo (by decide), mo (by decide), ko (by decide), ko (by decide), ko (by decide)]; exact gr
  · rw [eL3, ks 1 0, ko (by decide), ko (by decide), ko (by decide)]
    refine ⟨no.1, no.2.1, no.2.2.1, fun i hi => ?_⟩
    rw [if_pos rfl, if_neg (by decide), if_neg (by decide), if_neg (by decide), if_neg (by decide), if_neg (by decide), if_neg (by decide), if_neg (by decide), if_pos rfl]
    unfold upd
    by_cases hin : i = cL a 3
    · rw [if_pos hin, hin]
    · rw [if_neg hin]; exact no.2.2.2 i (by omega)
  · rw [mo (by decide), mo (by decide), eD, eS]; exact dl
  · rw [mo (by decide), eS]; exact ds
  · rw [mo (by decide)]
    intro q hq
    show _ = (kContract a x1 x2 x3 x4 x5 x6 x7).2.1 5 2 (kT (kContract a x1 x2 x3 x4 x5 x6 x7) q)
    rw [eT, ko (by decide)]; exact hd q hq
  · rw [mo (by decide), mo (by decide), ko (by decide), ko (by decide), ko (by decide)]; exact pl
  · rw [mo (by decide)]
    intro q hq
    show _ = sOI ((kContract a x1 x2 x3 x4 x5 x6 x7).2.2.1 3 7 q)
    rw [r3]; exact co q hq
  · rw [mo (by decide), mo (by decide), mo (by decide)]
    exact tw.to2 rfl rfl (funext fun k => ko (by decide)) r5 r3
  · exact mWf_X (k := 40) (mWf_X (k := 39) (mWf_X (k := 38) (mWf_X (k := 37) (mWf_X (k := 36) (mWf_X (k := 35) (mWf_X (k := 34) wf _ hx1) _ hx2) _ trivial) _ trivial) _ trivial) _ trivial) _ trivial
  · rw [mo (by decide)]; exact hs
  · rw [mo (by decide), mo (by decide), mo (by decide)]; exact sm
  · rw [mo (by decide), mo (by decide)]; exact pe
  · rw [mo (by decide), mo (by decide)]; exact de
  · rw [mo (by decide), mo (by decide), mo (by decide), mo (by decide), mo (by decide), eL3]
    exact ⟨ze.1, ze.2.1, ze.2.2.1.up (Nat.le_succ _), ze.2.2.2.1.up (Nat.le_succ _), ze.2.2.2.2.up (Nat.le_succ _)⟩
  · show sCn B (cL a 2) (b.1 29) _ _ ((kContract a x1 x2 x3 x4 x5 x6 x7).2.1 6 10 0)
    rw [mo (by decide), mo (by decide), ko (by decide)]; exact cn
  · rw [mo (by decide)]; exact rm
def cC (x1 x2 x3 x4 x5 x6 x7 : Int32) : Prop := mIn x1 0 5 = true ∧ mIn x2 0 5 = true ∧ mIn x3 0 2 = true ∧ mIn x4 0 2 = true ∧ mIn x5 1 100000 = true ∧ mIn x6 1 100 = true ∧ mIn x7 0 1000 = true ∧ ¬ x1 = x2
theorem p_contract {B : Nat} {a : CS} {b : MS} (h : SC sL B a b) (x1 x2 x3 x4 x5 x6 x7 : Int32) :
    (¬ cC x1 x2 x3 x4 x5 x6 x7 ∧ oT b (mContract b x1 x2 x3 x4 x5 x6 x7) 1) ∨ (cC x1 x2 x3 x4 x5 x6 x7 ∧ ((¬ cL a 3 < 30 ∧ oT b (mContract b x1 x2 x3 x4 x5 x6 x7) 2) ∨ (cL a 3 < 30 ∧ oS B (kContract a x1 x2 x3 x4 x5 x6 x7) (mContract b x1 x2 x3 x4 x5 x6 x7) (nI (cL a 3))))) := by
  obtain ⟨ci, e, sc, ct, -⟩ := id h
  have h30 := ci.2.2.2.2.2
  have g33 : gS b 33 = nI (cL a 3) := ct.2.2.2
  have hc : (mIn x1 0 5 && (mIn x2 0 5 && (decide (¬ x1 = x2) && (mIn x3 0 2 && (mIn x4 0 2 && (mIn x5 1 100000 && (mIn x6 1 100 && mIn x7 0 1000))))))) = true ↔ cC x1 x2 x3 x4 x5 x6 x7 := by
    unfold cC
    simp only [Bool.and_eq_true, decide_eq_true_eq]
    constructor
    · rintro ⟨q1, q2, q3, q4, q5, q6, q7, q8⟩; exact ⟨q1, q2, q4, q5, q6, q7, q8, q3⟩
    · rintro ⟨q1, q2, q4, q5, q6, q7, q8, q3⟩; exact ⟨q1, q2, q3, q4, q5, q6, q7, q8⟩
  unfold mContract
  by_cases h1 : cC x1 x2 x3 x4 x5 x6 x7
  · refine Or.inr ⟨h1, ?_⟩
    rw [if_pos (hc.mpr h1)]
    have e6 : gS b 33 = 30 ↔ cL a 3 = 30 := by
      rw [g33, show (30 : Int32) = nI 30 by decide]
      exact nI_eq (by omega) (by omega)
    by_cases h2 : cL a 3 < 30
    · rw [if_pos (fun z => by have := e6.mp z; omega)]
      have s := (h.thr 0).contract h2 (x1 := x1) (x2 := x2) (mIn_v6.mp h1.1) (mIn_v6.mp h1.2.1) x3 x4 x5 x6 x7
      have gX : ∀ (c : MS) (k : Nat) (i x : Int32) (q : Nat), gS (mX c k i x) q = gS c q := fun _ _ _ _ _ => rfl
      have eX : mContractS (mS b 0 0) x1 x2 x3 x4 x5 x6 x7 = mCon (mS b 0 0) (cL a 3) x1 x2 x3 x4 x5 (cI a 6 9 0 + x6) x7 := by
        unfold mContractS mCon
        simp only [gX]
        rw [show gS (mS b 0 0) 33 = nI (cL a 3) from g33, show gS (mS b 0 0) 1 = cI a 6 9 0 from sc.1, show nI (cL a 3) + 1 = nI (cL a 3 + 1) from nI_1 _]
      rw [eX]
      refine Or.inr ⟨h2, ?_, rfl, s⟩
      show nI (cL a 3 + 1) - 1 = nI (cL a 3)
      rw [← show nI (cL a 3) + 1 = nI (cL a 3 + 1) from nI_1 _, i_a1]
    · rw [if_neg (fun z => z (e6.mpr (by omega)))]; exact Or.inl ⟨h2, rfl⟩
  · rw [if_neg (fun z => h1 (hc.mp z))]; exact Or.inl ⟨h1, rfl⟩
/-! a pledge -/
def kPl (a : CS) (r : Nat) (to cents day : Int32) : CS := cSI (cSI (cSI a 3 4 r to) 3 5 r cents) 3 6 r day
theorem SC.pledge {B : Nat} {a : CS} {b : MS} (h : SC sL B a b) {r : Nat} (hr : r < cL a 2) {to cents day : Int32} (hto : vp_in to 6) (hh : 0 < cI a 3 3 r) : SC sL (B + 1) (kPl a r to cents day) (mX (mX (mX b 25 (nI r) to) 26 (nI r) cents) 27 (nI r) day) := by
  obtain ⟨ci, e, sc, ct, ac, ow, gr, no, dl, ds, hd, pl, co, tw, wf, hs, sm, pe, de, ze, cn, rm, bt⟩ := h
  have h80 := ci.2.1.2
  have ms : ∀ q, (mX (mX (mX b 25 (nI r) to) 26 (nI r) cents) 27 (nI r) day).2.1 q = if q = 27 then upd (b.2.1 27) r day else if q = 26 then upd (b.2.1 26) r cents else if q = 25 then upd (b.2.1 25) r to else b.2.1 q := fun q => by
    simp [mX_row _ _ (show r < 2 ^ 31 by omega)]
  have ks : ∀ j k, (kPl a r to cents day).2.1 j k = if j = 3 ∧ k = 6 then upd (a.2.1 3 6) r day else if j = 3 ∧ k = 5 then upd (a.2.1 3 5) r cents else if j = 3 ∧ k = 4 then upd (a.2.1 3 4) r to else a.2.1 j k := fun j k => by
    unfold kPl
    simp [cSI_row]
  have mo : ∀ {q : Nat}, q ≠ 25 → q ≠ 26 → q ≠ 27 → (mX (mX (mX b 25 (nI r) to) 26 (nI r) cents) 27 (nI r) day).2.1 q = b.2.1 q := fun q1 q2 q3 => by rw [ms, if_neg q3, if_neg q2, if_neg q1]
  have ko : ∀ {j k : Nat}, ¬ (j = 3 ∧ k = 4) → ¬ (j = 3 ∧ k = 5) → ¬ (j = 3 ∧ k = 6) → (kPl a r to cents day).2.1 j k = a.2.1 j k := fun q1 q2 q3 => by rw [ks, if_neg q3, if_neg q2, if_neg q1]
  have e25 : b.2.1 25 = a.2.1 3 4 := e (25, 3, 4) (by decide)
  have e21 : b.2.1 21 = a.2.1 3 3 := e (21, 3, 3) (by decide)
  have m25 : (mX (mX (mX b 25 (nI r) to) 26 (nI r) cents) 27 (nI r) day).2.1 25 = upd (b.2.1 25) r to := by rw [ms, if_neg (by decide), if_neg (by decide), if_pos rfl]
  have hne : ¬ to = -1 := by
    obtain ⟨v1, v2⟩ := vin_toInt hto
    intro z
    rw [z, show (-1 : Int32).toInt = -1 by decide] at v1
    omega
  refine ⟨ci.of rfl rfl rfl, ?_, ?_, ct, ac, ?_, ?_, ?_, ?_, ?_, ?_, ?_, ?_, ?_, mWf_X (k := 27) (mWf_X (k := 26) (mWf_X (k := 25) wf _ (Or.inr hto)) _ trivial) _ trivial, ?_, ?_, ?_, ?_, ?_, ?_, ?_, bt⟩
  · intro p hp
    by_cases a1 : p = (25, 3, 4)
    · subst a1
      show (mX (mX (mX b 25 (nI r) to) 26 (nI r) cents) 27 (nI r) day).2.1 25 = (kPl a r to cents day).2.1 3 4
      rw [m25, ks, if_neg (by decide), if_neg (by decide), if_pos ⟨rfl, rfl⟩, e25]
    · obtain ⟨g1, g2, g3, g4, g5, g6⟩ := (show ∀ p ∈ sL, p ≠ (25, 3, 4) → p.1 ≠ 25 ∧ p.1 ≠ 26 ∧ p.1 ≠ 27 ∧ ¬ (p.2.1 = 3 ∧ p.2.2 = 4) ∧ ¬ (p.2.1 = 3 ∧ p.2.2 = 5) ∧ ¬ (p.2.1 = 3 ∧ p.2.2 = 6) by decide) p hp a1
      rw [mo g1 g2 g3, ko g4 g5 g6]; exact e p hp
  · unfold sSc cI
    rw [ko (by decide) (by decide) (by decide), ko (by decide) (by decide) (by decide), ko (by decide) (by decide) (by decide), ko (by decide) (by decide) (by decide)]
    exact sc
  · rw [mo (by decide) (by decide) (by decide)]; exact ow
  · rw [mo (by decide) (by decide) (by decide), mo (by decide) (by decide) (by decide), ko (by decide) (by decide) (by decide), ko (by decide) (by decide) (by decide), ko (by decide) (by decide) (by decide)]; exact gr
  · rw [ko (by decide) (by decide) (by decide), ko (by decide) (by decide) (by decide), ko (by decide) (by decide) (by decide), ko (by decide) (by decide) (by decide)]; exact no
  · rw [mo (by decide) (by decide) (by decide), mo (by decide) (by decide) (by decide)]; exact dl
  · rw [mo (by decide) (by decide) (by decide)]; exact ds
  · rw [mo (by decide) (by decide) (by decide)]
    intro q hq
    show _ = (kPl a r to cents day).2.1 5 2 (kT a q)
    rw [ko (by decide) (by decide) (by decide)]; exact hd q hq
  · rw [ms 26, ms 27, ks 3 4, ks 3 5, ks 3 6]
    rw [if_neg (show ¬ (26 : Nat) = 27 by decide), if_pos (show (26 : Nat) = 26 from rfl), if_pos (show (27 : Nat) = 27 from rfl), if_neg (show ¬ ((3 : Nat) = 3 ∧ (4 : Nat) = 6) by decide), if_neg (show ¬ ((3 : Nat) = 3 ∧ (4 : Nat) = 5) by decide), if_pos (show ((3 : Nat) = 3 ∧ (4 : Nat) = 4) by decide), if_neg (show ¬ ((3 : Nat) = 3 ∧ (5 : Nat) = 6) by decide), if_pos (show ((3 : Nat) = 3 ∧ (5 : Nat) = 5) by decide), if_pos (show ((3 : Nat) = 3 ∧ (6 : Nat) = 6) by decide)]
    intro q hq
    by_cases hqr : q = r
    · subst hqr
      refine ⟨fun _ => ⟨?_, ?_⟩, fun z => ?_⟩
      · simp [upd]
      · simp [upd]
      · simp [upd] at z
        exact absurd z hne
    · have := pl q hq
      simpa only [upd, if_neg hqr] using this
  · rw [mo (by decide) (by decide) (by decide)]; exact co
  · rw [mo (by decide) (by decide) (by decide), mo (by decide) (by decide) (by decide), mo (by decide) (by decide) (by decide)]
    exact tw.to rfl (funext fun k => ko (fun z => absurd z.1 (by decide)) (fun z => absurd z.1 (by decide)) (fun z => absurd z.1 (by decide))) rfl
  · rw [mo (by decide) (by decide) (by decide)]; exact hs
  · rw [mo (by decide) (by decide) (by decide), mo (by decide) (by decide) (by decide), mo (by decide) (by decide) (by decide)]; exact sm
  · rw [mo (by decide) (by decide) (by decide), m25]
    intro q hq hz
    have hqr : ¬ q = r := fun z => by
      subst z
      rw [e21] at hz
      rw [show cI a 3 3 q = 0 from hz] at hh
      exact absurd hh (by decide)
    show (if q = r then to else b.2.1 25 q) = -1
    rw [if_neg hqr]; exact pe q hq hz
  · rw [mo (by decide) (by decide) (by decide), mo (by decide) (by decide) (by decide)]; exact de
  · rw [mo (by decide) (by decide) (by decide), mo (by decide) (by decide) (by decide), mo (by decide) (by decide) (by decide), mo (by decide) (by decide) (by decide), mo (by decide) (by decide) (by decide)]
    exact ze
  · show sCn (B + 1) (cL a 2) (b.1 29) _ _ ((kPl a r to cents day).2.1 6 10 0)
    rw [m25, mo (by decide) (by decide) (by decide), ko (by decide) (by decide) (by decide)]
    obtain ⟨nch, tn, c1, c2, c3, c4, c5⟩ := cn
    have := (nPl_upd (x := b.2.1 25) (r := r) (v := to) (n := cL a 2)).1
    rw [if_neg hne] at this
    exact ⟨nch, tn, c1, c2, c3, by omega, c5⟩
  · rw [mo (by decide) (by decide) (by decide)]; exact rm
theorem p_pledge {B : Nat} {a : CS} {b : MS} (h : SC sL B a b) (r to cents days : Int32) :
    (¬ vp_in r (cL a 2) ∧ oT b (mPledge b r to cents days) 1) ∨ ∃ q, q < cL a 2 ∧ r = nI q ∧ ((¬ (mIn to 0 5 = true ∧ mIn cents 0 10000000 = true ∧ mIn days 0 100 = true) ∧ oT b (mPledge b r to cents days) 2) ∨ ((mIn to 0 5 = true ∧ mIn cents 0 10000000 = true ∧ mIn days 0 100 = true) ∧ ((¬ (0 < cI a 3 3 q ∧ cI a 3 4 q = -1 ∧ ¬ cI a 5 2 (kT a q) = to) ∧ oT b (mPledge b r to cents days) 3) ∨
      ((0 < cI a 3 3 q ∧ cI a 3 4 q = -1 ∧ ¬ cI a 5 2 (kT a q) = to) ∧ oS (B + 1) (kPledge a q to cents days) (mPledge b r to cents days) (cI (kPledge a q to cents days) 3 6 q))))) := by
  have hx := (h.ix r).2.2.1
  unfold mPledge
  by_cases h1 : vp_in r (cL a 2)
  · rw [if_pos (hx.mpr h1)]
    obtain ⟨ci, e, sc, ct, -⟩ := id h
    have h80 := ci.2.1.2
    obtain ⟨q, hq, rfl⟩ := vp_in_of h1 (by omega)
    refine Or.inr ⟨q, hq, rfl, ?_⟩
    obtain ⟨r1, r2, r3, r4, r5, r6, r7⟩ := h.rcp hq
    have hcc : (mIn to 0 5 && (mIn cents 0 10000000 && mIn days 0 100)) = true ↔ (mIn to 0 5 = true ∧ mIn cents 0 10000000 = true ∧ mIn days 0 100 = true) := by simp only [Bool.and_eq_true]
    by_cases h2 : mIn to 0 5 = true ∧ mIn cents 0 10000000 = true ∧ mIn days 0 100 = true
    · refine Or.inr ⟨h2, ?_⟩
      rw [if_pos (hcc.mpr h2), r1, r2, r3]
      by_cases h4 : cI a 3 3 q ≤ 0
      · rw [if_pos h4]; exact Or.inl ⟨fun z => Int32.not_lt.mpr h4 z.1, rfl⟩
      · rw [if_neg h4]
        by_cases h5 : cI a 3 4 q = -1
        · rw [if_neg (fun z => z h5)]
          by_cases h6 : cI a 5 2 (kT a q) = to
          · rw [if_pos h6]; exact Or.inl ⟨fun z => z.2.2 h6, rfl⟩
          · rw [if_neg h6]
            have s1 := (h.thr 0).pay (i := to) (j := cI a 5 2 (kT a q)) (mIn_v6.mp h2.1) (h.hd6 hq) cents.toInt64
            have ep := kPayT_same a to (cI a 5 2 (kT a q)) cents.toInt64
            have i33 : cI (kPayT a to (cI a 5 2 (kT a q)) cents.toInt64) 3 3 q = cI a 3 3 q := by show (kPayT a _ _ _).2.1 3 3 q = _; rw [ep.2.2.2]
            have i69 : cI (kPayT a to (cI a 5 2 (kT a q)) cents.toInt64) 6 9 0 = cI a 6 9 0 := by show (kPayT a _ _ _).2.1 6 9 0 = _; rw [ep.2.2.2]
            have s2 := s1.pledge (r := q) (by rw [show cL (kPayT a to (cI a 5 2 (kT a q)) cents.toInt64) 2 = cL a 2 from congrFun ep.2.2.1 2]; exact hq) (to := to) (cents := cents) (day := cI a 6 9 0 + days) (mIn_v6.mp h2.1) (by rw [i33]; exact Int32.not_le.mp h4)
            have eK : kPledge a q to cents days = kPl (kPayT a to (cI a 5 2 (kT a q)) cents.toInt64) q to cents (cI a 6 9 0 + days) := by
              unfold kPledge kPl
              simp only
              rw [i69]
            have g1 : gS (mX (mX (mPay (mS b 0 0) to (cI a 5 2 (kT a q)) cents.toInt64) 25 (nI q) to) 26 (nI q) cents) 1 = cI a 6 9 0 := sc.1
            simp only [g1]
            rw [eK]
            refine Or.inr ⟨⟨Int32.not_le.mp h4, h5, h6⟩, ?_, rfl, s2⟩
            show (mX (mX (mX (mPay (mS b 0 0) to (cI a 5 2 (kT a q)) cents.toInt64) 25 (nI q) to) 26 (nI q) cents) 27 (nI q) (cI a 6 9 0 + days)).2.1 27 (nI q).toNatClampNeg = (cSI (cSI (cSI (kPayT a to (cI a 5 2 (kT a q)) cents.toInt64) 3 4 q to) 3 5 q cents) 3 6 q (cI a 6 9 0 + days)).2.1 3 6 q
            rw [cSI_row, if_pos ⟨rfl, rfl⟩, mX_at _ _ (show q < 2 ^ 31 by omega), nI_clamp (by omega)]
            simp [upd]
        · rw [if_pos h5]; exact Or.inl ⟨fun z => h5 z.2.1, rfl⟩
    · rw [if_neg (fun z => h2 (hcc.mp z))]; exact Or.inl ⟨h2, rfl⟩
  · rw [if_neg (fun z => h1 (hx.mp z))]; exact Or.inl ⟨h1, rfl⟩
