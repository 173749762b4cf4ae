/-! new silos, contracts, deliveries and pledges, on both sides -/
theorem upd2 (f : Nat → Int32) (n : Nat) (v w : Int32) : upd (upd f n v) n w = upd f n w := by
  funext i
  unfold upd
  by_cases h : i = n
  · rw [if_pos h, if_pos h]
  · rw [if_neg h, if_neg h, if_neg h]
theorem upd_z {f : Nat → Int32} {n : Nat} (h : sZ n f) : upd f n 0 = f := by
  have := upd_self f n
  rwa [h n (Nat.le_refl n)] at this
theorem sZ.up {f : Nat → Int32} {n m : Nat} (h : sZ n f) (hm : n ≤ m) : sZ m f := fun i hi => h i (Nat.le_trans hm hi)
theorem cNew_o (a : CS) {j0 j : Nat} (h : j ≠ j0) (k : Nat) : (cNew a j0).2.1 j k = a.2.1 j k := by rw [cNew_I, if_neg h]
theorem cNew_s (a : CS) (j0 k : Nat) : (cNew a j0).2.1 j0 k = upd (a.2.1 j0 k) (cN a j0) 0 := by rw [cNew_I, if_pos rfl]; rfl
theorem cNew_R (a : CS) {j0 j : Nat} (h : j ≠ j0) : (cNew a j0).2.2.1 j = a.2.2.1 j := by
  funext k i
  exact if_neg (fun z => h z.1)
theorem sOw.to2 {a a' : CS} {x30 x31 x32 : Nat → Int32} {nch : Nat} (h : sOw a x30 x31 x32 nch) (n3 : cN a' 3 = cN a 3) (n5 : cN a' 5 = cN a 5) (h0 : a'.2.1 5 = a.2.1 5) (h1 : a'.2.2.1 5 = a.2.2.1 5) (h3 : a'.2.2.1 3 = a.2.2.1 3) : sOw a' x30 x31 x32 nch := by
  obtain ⟨hd, ⟨o, o1, o2⟩, o3⟩ := h
  have eT : kT a' = kT a := by funext q; unfold kT cR; rw [h3]
  have e51 : ∀ t, cR a' 5 1 t = cR a 5 1 t := fun t => by show a'.2.2.1 5 1 t = a.2.2.1 5 1 t; rw [h1]
  refine ⟨fun t t' ht hq => ?_, ⟨o, fun r hr => ?_, fun t t' ht hq => ?_⟩, fun r hr day => ?_⟩
  · rw [e51] at hq; rw [n5] at ht; exact hd t t' ht hq
  · rw [eT]; rw [n3] at hr; exact o1 r hr
  · rw [e51] at hq; rw [n5] at ht; exact o2 t t' ht hq
  · rw [n3] at hr
    rw [← o3 r hr day, eT]
    unfold kOwn
    exact kOwnF_to h0 h1 day _ _
theorem cOk_new4 {a X : CS} (ok : cOk a) (hL : cL a 0 = cN a 4) (h1 : X.1 = (cNew a 4).1) (h2 : X.2.2.1 = (cNew a 4).2.2.1) (h3 : X.2.2.2.2.2 = (cSL a 0 (cL a 0 + 1)).2.2.2.2.2) : cOk X := by
  have k : cOk (cSL (cNew a 4) 0 (cL a 0 + 1)) := by
    refine ⟨?_, cRwf_of rfl rfl (cRwf_new 4 ok.2)⟩
    obtain ⟨⟨g1, g2, g3⟩, -⟩ := ok
    refine ⟨fun r hr => g1 r hr, fun d hd => ?_, ?_⟩
    · obtain ⟨f1, f2⟩ := g2 d hd
      exact ⟨f1, Nat.lt_succ_of_lt f2⟩
    · obtain ⟨f1, f2, f3, f4⟩ := g3
      refine ⟨?_, f2, f3, f4⟩
      show cL a 0 + 1 ≤ cN a 4 + 1
      omega
  exact cOk.of (a := cSL (cNew a 4) 0 (cL a 0 + 1)) h1 h2 h3 k
theorem cOk_new1 {a X : CS} (ok : cOk a) (hL : cL a 3 = cN a 1) (h1 : X.1 = (cNew a 1).1) (h2 : X.2.2.1 = (cNew a 1).2.2.1) (h3 : X.2.2.2.2.2 = (cSL a 3 (cL a 3 + 1)).2.2.2.2.2) : cOk X := by
  have k : cOk (cSL (cNew a 1) 3 (cL a 3 + 1)) := by
    refine ⟨?_, cRwf_of rfl rfl (cRwf_new 1 ok.2)⟩
    obtain ⟨⟨g1, g2, g3⟩, -⟩ := ok
    refine ⟨fun r hr => g1 r hr, fun d hd => g2 d hd, ?_⟩
    obtain ⟨f1, f2, f3, f4⟩ := g3
    refine ⟨f1, f2, f3, ?_⟩
    show cL a 3 + 1 ≤ cN a 1 + 1
    omega
  exact cOk.of (a := cSL (cNew a 1) 3 (cL a 3 + 1)) h1 h2 h3 k
theorem kSilo_I (a : CS) (x : Int32) (j k : Nat) : (kSilo a x).2.1 j k = if j = 4 then (if k = 3 then upd (a.2.1 4 3) (cN a 4) (-1) else if k = 2 then upd (a.2.1 4 2) (cN a 4) (-1) else if k = 1 then upd (a.2.1 4 1) (cN a 4) x else if k = 0 then upd (a.2.1 4 0) (cN a 4) (nI (cL a 0)) else upd (a.2.1 4 k) (cN a 4) 0) else a.2.1 j k := by
  show (cSI (cSI (cSI (cSI (cNew a 4) 4 0 (cN a 4) (nI (cL a 0))) 4 1 (cN a 4) x) 4 2 (cN a 4) (-1)) 4 3 (cN a 4) (-1)).2.1 j k = _
  simp only [cSI_row]
  by_cases hj : j = 4
  · subst hj
    by_cases h3 : k = 3
    · subst h3; simp [cNew_s, upd2]
    · by_cases h2 : k = 2
      · subst h2; simp [cNew_s, upd2]
      · by_cases h1 : k = 1
        · subst h1; simp [cNew_s, upd2]
        · by_cases h0 : k = 0
          · subst h0; simp [cNew_s, upd2]
          · simp [h0, h1, h2, h3, cNew_s]
  · simp [hj, cNew_o a hj]
theorem SC.silo {B : Nat} {a : CS} {b : MS} (h : SC sL B a b) (h6 : cL a 0 < 6) {x : Int32} (hx : 1 ≤ x.toInt ∧ x.toInt ≤ 1000000) : SC sL B (kSilo a x) (mS (mX b 8 (nI (cL a 0)) x) 7 (nI (cL a 0 + 1))) := by
  obtain ⟨ci, e, sc, ct, ac, ow, gr, no, dl, ds, hd, pl, co, tw, wf, hs, sm, pe, de, ze, cn, rm, bt⟩ := h
  have hn4 : cN a 4 = cL a 0 := ci.2.2.1.1.symm
  have ks := kSilo_I a x
  rw [hn4] at ks
  have e8 : b.2.1 8 = a.2.1 4 1 := e (8, 4, 1) (by decide)
  have e9 : b.2.1 9 = a.2.1 4 4 := e (9, 4, 4) (by decide)
  have e12 : b.2.1 12 = a.2.1 4 5 := e (12, 4, 5) (by decide)
  have m8 : (mX b 8 (nI (cL a 0)) x).2.1 8 = upd (b.2.1 8) (cL a 0) x := mX_at b 8 (by omega) x
  have mo : ∀ k, k ≠ 8 → (mX b 8 (nI (cL a 0)) x).2.1 k = b.2.1 k := fun k hk => mX_ne b hk _ _
  have ko : ∀ {j k : Nat}, j ≠ 4 → (kSilo a x).2.1 j k = a.2.1 j k := fun {j k} hj => by rw [ks, if_neg hj]
  have r2 : (kSilo a x).2.2.1 2 = a.2.2.1 2 := (cNew_R a (show 2 ≠ 4 by decide) : (cNew a 4).2.2.1 2 = a.2.2.1 2)
  have r3 : (kSilo a x).2.2.1 3 = a.2.2.1 3 := (cNew_R a (show 3 ≠ 4 by decide) : (cNew a 4).2.2.1 3 = a.2.2.1 3)
  have r5 : (kSilo a x).2.2.1 5 = a.2.2.1 5 := (cNew_R a (show 5 ≠ 4 by decide) : (cNew a 4).2.2.1 5 = a.2.2.1 5)
  have eD : kD (kSilo a x) = kD a := by funext q; unfold kD cR; rw [r3]
  have eS : kS (kSilo a x) = kS a := by funext q; unfold kS cR; rw [r2]
  have eT : kT (kSilo a x) = kT a := by funext q; unfold kT cR; rw [r3]
  have eL0 : cL (kSilo a x) 0 = cL a 0 + 1 := rfl
  have hz9 : b.2.1 9 (cL a 0) = 0 := ze.1 _ (Nat.le_refl _)
  have ok := cOk_new4 (X := kSilo a x) ci.1 ci.2.2.1.1 rfl rfl rfl
  refine ⟨⟨ok, ci.2.1, ⟨?_, ?_⟩, ci.2.2.2⟩, ?_, ?_, ⟨rfl, ct.2.1, ct.2.2.1, ct.2.2.2⟩, ac, ?_, ?_, ?_, ?_, ?_, ?_, ?_, ?_, ?_, mWf_X (k := 8) wf _ trivial, ?_, ?_, ?_, ?_, ?_, ?_, ?_, bt⟩
  · show cL a 0 + 1 = cN a 4 + 1
    omega
  · rw [eL0]; omega
  · intro p hp
    show (mX b 8 (nI (cL a 0)) x).2.1 p.1 = _
    by_cases a1 : p = (8, 4, 1)
    · subst a1
      show (mX b 8 (nI (cL a 0)) x).2.1 8 = (kSilo a x).2.1 4 1
      rw [m8, ks, e8]; simp
    · by_cases a2 : p = (9, 4, 4)
      · subst a2
        show (mX b 8 (nI (cL a 0)) x).2.1 9 = (kSilo a x).2.1 4 4
        rw [mo 9 (by decide), ks, ← e9]; simp [upd_z ze.1]
      · by_cases a3 : p = (12, 4, 5)
        · subst a3
          show (mX b 8 (nI (cL a 0)) x).2.1 12 = (kSilo a x).2.1 4 5
          rw [mo 12 (by decide), ks, ← e12]; simp [upd_z ze.2.1]
        · obtain ⟨g1, g2⟩ := (show ∀ p ∈ sL, p ≠ (8, 4, 1) → p ≠ (9, 4, 4) → p ≠ (12, 4, 5) → p.2.1 ≠ 4 ∧ p.1 ≠ 8 by decide) p hp a1 a2 a3
          rw [mo _ g2, ko g1]; exact e p hp
  · unfold sSc cI
    rw [ko (by decide), ko (by decide), ko (by decide), ko (by decide)]
    exact sc
  · rw [show (mS (mX b 8 (nI (cL a 0)) x) 7 (nI (cL a 0 + 1))).2.1 6 = b.2.1 6 from mo 6 (by decide)]; exact ow
  · show sGr ((mX b 8 (nI (cL a 0)) x).2.1 10) ((mX b 8 (nI (cL a 0)) x).2.1 11) _ _ _
    rw [mo 10 (by decide), mo 11 (by decide), ks, ks, ks]
    intro s hs9
    simp only [if_pos, if_neg (show ¬ (4 : Nat) = 3 by decide), if_neg (show ¬ (4 : Nat) = 2 by decide), if_neg (show ¬ (4 : Nat) = 1 by decide), if_neg (show ¬ (4 : Nat) = 0 by decide), if_neg (show ¬ (2 : Nat) = 3 by decide), upd] at hs9 ⊢
    by_cases hsn : s = cL a 0
    · rw [if_pos hsn] at hs9; exact absurd hs9 (by decide)
    · rw [if_neg hsn] at hs9
      rw [if_neg hsn, if_neg hsn]
      exact gr s hs9
  · rw [eL0, ks, ko (by decide), ko (by decide), ko (by decide)]
    refine ⟨fun i hi => ?_, no.2⟩
    show (upd (a.2.1 4 0) (cL a 0) (nI (cL a 0))) i = nI i
    unfold upd
    by_cases hin : i = cL a 0
    · rw [if_pos hin, hin]
    · rw [if_neg hin]; exact no.1 i (by omega)
  · show sDl (cL a 2) ((mX b 8 (nI (cL a 0)) x).2.1 23) ((mX b 8 (nI (cL a 0)) x).2.1 24) _ _
    rw [mo 23 (by decide), mo 24 (by decide), eD, eS]; exact dl
  · show sDs (cL a 1) ((mX b 8 (nI (cL a 0)) x).2.1 19) _
    rw [mo 19 (by decide), eS]; exact ds
  · show sHd (cL a 2) ((mX b 8 (nI (cL a 0)) x).2.1 22) _
    rw [mo 22 (by decide)]
    intro q hq
    show _ = (kSilo a x).2.1 5 2 (kT (kSilo a x) q)
    rw [eT, ko (by decide)]; exact hd q hq
  · show sPl (cL a 2) _ _ _ ((mX b 8 (nI (cL a 0)) x).2.1 26) ((mX b 8 (nI (cL a 0)) x).2.1 27)
    rw [mo 26 (by decide), mo 27 (by decide), ko (by decide), ko (by decide), ko (by decide)]; exact pl
  · show sCo (cL a 2) ((mX b 8 (nI (cL a 0)) x).2.1 28) _
    rw [mo 28 (by decide)]
    intro q hq
    show _ = sOI ((kSilo a x).2.2.1 3 7 q)
    rw [r3]; exact co q hq
  · show sOw (kSilo a x) ((mX b 8 (nI (cL a 0)) x).2.1 30) ((mX b 8 (nI (cL a 0)) x).2.1 31) ((mX b 8 (nI (cL a 0)) x).2.1 32) _
    rw [mo 30 (by decide), mo 31 (by decide), mo 32 (by decide)]
    exact tw.to2 rfl rfl (funext fun k => ko (by decide)) r5 r3
  · show sHas (cL a 2) ((mX b 8 (nI (cL a 0)) x).2.1 21)
    rw [mo 21 (by decide)]; exact hs
  · show sSum (cL a 0 + 1) (cL a 2) ((mX b 8 (nI (cL a 0)) x).2.1 9) ((mX b 8 (nI (cL a 0)) x).2.1 21) ((mX b 8 (nI (cL a 0)) x).2.1 23)
    rw [mo 9 (by decide), mo 21 (by decide), mo 23 (by decide)]
    intro s hs9
    by_cases hsn : s = cL a 0
    · subst hsn
      rw [hz9, sI_0 (fun i hi => if_neg (fun z => ?_))]
      · exact i32_0
      · have hiN : i < cN a 3 := by rw [← ci.2.1.1]; exact hi
        have hk : kS a (kD a i) < cN a 4 := (ci.1.1.2.1 _ (ci.1.1.1 i hiN).2.1).2
        rw [show b.2.1 23 i = nI (kS a (kD a i)) from (dl i hi).2] at z
        have := (nI_eq (by omega) (by omega)).mp z
        omega
    · exact sm s (by omega)
  · show sPe (cL a 2) ((mX b 8 (nI (cL a 0)) x).2.1 21) ((mX b 8 (nI (cL a 0)) x).2.1 25)
    rw [mo 21 (by decide), mo 25 (by decide)]; exact pe
  · show sDe (cL a 1) ((mX b 8 (nI (cL a 0)) x).2.1 15) ((mX b 8 (nI (cL a 0)) x).2.1 16)
    rw [mo 15 (by decide), mo 16 (by decide)]; exact de
  · show sZ (cL a 0 + 1) ((mX b 8 (nI (cL a 0)) x).2.1 9) ∧ sZ (cL a 0 + 1) ((mX b 8 (nI (cL a 0)) x).2.1 12) ∧ sZ (cL a 3) ((mX b 8 (nI (cL a 0)) x).2.1 41) ∧ sZ (cL a 3) ((mX b 8 (nI (cL a 0)) x).2.1 42) ∧ sZ (cL a 3) ((mX b 8 (nI (cL a 0)) x).2.1 43)
    rw [mo 9 (by decide), mo 12 (by decide), mo 41 (by decide), mo 42 (by decide), mo 43 (by decide)]
    exact ⟨ze.1.up (Nat.le_succ _), ze.2.1.up (Nat.le_succ _), ze.2.2⟩
  · show sCn B (cL a 2) (b.1 29) ((mX b 8 (nI (cL a 0)) x).2.1 25) ((mX b 8 (nI (cL a 0)) x).2.1 30) ((kSilo a x).2.1 6 10 0)
    rw [mo 25 (by decide), mo 30 (by decide), ko (by decide)]; exact cn
  · show sRm (cL a 0 + 1) ((mX b 8 (nI (cL a 0)) x).2.1 8)
    rw [m8]
    intro s hs9
    show 1 ≤ (if s = cL a 0 then x else b.2.1 8 s).toInt ∧ (if s = cL a 0 then x else b.2.1 8 s).toInt ≤ 1000000
    by_cases hsn : s = cL a 0
    · rw [if_pos hsn]; exact hx
    · rw [if_neg hsn]; exact rm s (by omega)
theorem p_silo {B : Nat} {a : CS} {b : MS} (h : SC sL B a b) (x : Int32) :
    (mIn x 1 1000000 = false ∧ oT b (mSilo b x) 1) ∨ (mIn x 1 1000000 = true ∧ ((¬ cL a 0 < 6 ∧ oT b (mSilo b x) 2) ∨ (cL a 0 < 6 ∧ oS B (kSilo a x) (mSilo b x) (nI (cL a 0))))) := by
  obtain ⟨ci, e, sc, ct, -⟩ := id h
  have h06 := ci.2.2.1.2
  have g7 : gS b 7 = nI (cL a 0) := ct.1
  unfold mSilo
  by_cases h1 : mIn x 1 1000000 = true
  · refine Or.inr ⟨h1, ?_⟩
    rw [if_pos h1]
    have e6 : gS b 7 = 6 ↔ cL a 0 = 6 := by
      rw [g7, show (6 : Int32) = nI 6 by decide]
      exact nI_eq (by omega) (by omega)
    by_cases h2 : cL a 0 < 6
    · rw [if_pos (fun z => by have := e6.mp z; omega)]
      have g7' : gS (mX (mS b 0 0) 8 (gS (mS b 0 0) 7) x) 7 = nI (cL a 0) := g7
      have hx := mIn_int.mp h1
      have s := (h.thr 0).silo h2 (x := x) hx
      have eX : mS (mX (mS b 0 0) 8 (gS (mS b 0 0) 7) x) 7 (gS (mX (mS b 0 0) 8 (gS (mS b 0 0) 7) x) 7 + 1) = mS (mX (mS b 0 0) 8 (nI (cL a 0)) x) 7 (nI (cL a 0 + 1)) := by
        rw [g7', show gS (mS b 0 0) 7 = nI (cL a 0) from g7, show nI (cL a 0) + 1 = nI (cL a 0 + 1) from nI_1 _]
      refine Or.inr ⟨h2, ?_, ?_, ?_⟩
      · show gS (mX (mS b 0 0) 8 (gS (mS b 0 0) 7) x) 7 + 1 - 1 = nI (cL a 0)
        rw [i_a1, g7']
      · rfl
      · simp only
        rw [eX]; exact s
    · rw [if_neg (fun z => z (e6.mpr (by omega)))]; exact Or.inl ⟨h2, rfl⟩
  · rw [if_neg h1]; exact Or.inl ⟨bne_true h1, rfl⟩
