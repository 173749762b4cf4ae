theorem tb_struct {a : CS} {r : Nat} (dl x : Int32) : kD (kTb a r dl x) = kD a ∧ kS (kTb a r dl x) = kS a ∧ (∀ j, cL (kTb a r dl x) j = cL a j) ∧ kT (kTb a r dl x) = kT a := by
  obtain ⟨h1, h2, h3⟩ := kTb_same a r dl x
  have eR : ∀ j k i, cR (kTb a r dl x) j k i = cR a j k i := fun j k i => by show (kTb a r dl x).2.2.1 j k i = _; rw [h2]
  exact ⟨by funext q; unfold kD; rw [eR], by funext q; unfold kS; rw [eR], fun j => congrFun h3 j, by funext q; unfold kT; rw [eR]⟩
theorem take1_sim {B d : Nat} : ∀ (k i : Nat) (a : CS) (b : MS) (left : Int32), i + k ≤ cL a 2 → SC sL B a b → d < cL a 1 → 0 ≤ left.toInt → (0 < left.toInt → ∀ r, r < i → kD a r = d → cI a 3 3 r = 0) →
    SC sL B (kTB1 d i k a left).1 (mTake1 (nI d) i k b left).1 ∧ (kTB1 d i k a left).2 = (mTake1 (nI d) i k b left).2 ∧ 0 ≤ (kTB1 d i k a left).2.toInt ∧ (0 < (kTB1 d i k a left).2.toInt → ∀ r, r < i + k → kD (kTB1 d i k a left).1 r = d → cI (kTB1 d i k a left).1 3 3 r = 0) ∧
    (∀ q, q ≠ 21 → q ≠ 9 → q ≠ 25 → q ≠ 42 → q ≠ 43 → (mTake1 (nI d) i k b left).1.2.1 q = b.2.1 q) ∧ (mTake1 (nI d) i k b left).1.1 = b.1 ∧ (kTB1 d i k a left).1.1 = a.1 ∧ (kTB1 d i k a left).1.2.2.1 = a.2.2.1 ∧ (kTB1 d i k a left).1.2.2.2.2.2 = a.2.2.2.2.2
  | 0, i, a, b, left, _, h, _, hl, ho => ⟨h, rfl, hl, ho, fun _ _ _ _ _ _ => rfl, rfl, rfl, rfl, rfl⟩
  | k + 1, i, a, b, left, hk, h, hd9, hl, ho => by
    have hi : i < cL a 2 := by omega
    obtain ⟨ci, e, sc, ct, ac, ow, gr, no, dl, -⟩ := id h
    have h80 := ci.2.1.2
    have h40 := ci.2.2.2.1
    have hiN : i < cN a 3 := by rw [← ci.2.1.1]; exact hi
    have hdN := (ci.1.1.1 i hiN).2.1
    have g24 : gA b 24 (nI i) = nI d ↔ kD a i = d := by
      rw [gA_nI _ _ (by omega), (dl i hi).1]
      exact nI_eq (by omega) (by omega)
    by_cases hz : left ≤ 0
    · have l0 : left = 0 := by rw [i32_le, i32_0] at hz; rw [i32_eq0]; omega
      have e1 : kTB1 d i (k + 1) a left = (a, left) := by unfold kTB1; rw [if_pos hz]
      rw [e1, l0, mTake1_0 h (nI d) (k + 1) i hk]
      exact ⟨h, rfl, Int.le_of_eq i32_0.symm, fun z => by rw [i32_0] at z; omega, fun _ _ _ _ _ _ => rfl, rfl, rfl, rfl, rfl⟩
    · have hp : 0 < left.toInt := by rw [i32_le, i32_0] at hz; omega
      by_cases hd : kD a i = d
      · have e1 : kTB1 d i (k + 1) a left = kTB1 d (i + 1) k (kTb a i (cI a 2 1 d) left) (left - kMin (cI a 3 3 i) left) := by
          conv => lhs; unfold kTB1
          rw [if_neg hz, if_pos hd]
        obtain ⟨t1, t2, t3, t4, t5⟩ := h.tb hi hd9 hl
        have e2 : mTake1 (nI d) i (k + 1) b left = mTake1 (nI d) (i + 1) k (mTakeFor b (nI d) (nI i) left) (left - kMin (cI a 3 3 i) left) := by
          conv => lhs; unfold mTake1
          rw [if_neg (fun z => z (g24.mpr hd)), t2]
        obtain ⟨u1, u2, u3, u4⟩ := tb_struct (a := a) (r := i) (cI a 2 1 d) left
        obtain ⟨w1, w2, w3⟩ := kTb_same a i (cI a 2 1 d) left
        have e21 : b.2.1 21 = a.2.1 3 3 := e (21, 3, 3) (by decide)
        have hb : 0 ≤ (cI a 3 3 i).toInt := by
          obtain ⟨-, -, -, -, -, -, -, -, -, -, -, -, -, -, -, hs, -⟩ := id h
          have := (hs i hi).1
          rw [e21] at this
          exact this
        obtain ⟨k1, k2, k3, k4⟩ := kMin_int hb hl
        have hsb : (left - kMin (cI a 3 3 i) left).toInt = left.toInt - (kMin (cI a 3 3 i) left).toInt := i32_sub (by have := i32_bd left; omega) (by have := i32_bd left; omega)
        obtain ⟨-, e', -⟩ := id t1
        have e21' : (mTakeFor b (nI d) (nI i) left).2.1 21 = (kTb a i (cI a 2 1 d) left).2.1 3 3 := e' (21, 3, 3) (by decide)
        have row : ∀ r, cI (kTb a i (cI a 2 1 d) left) 3 3 r = if r = i then cI a 3 3 i - kMin (cI a 3 3 i) left else cI a 3 3 r := fun r => by
          show (kTb a i (cI a 2 1 d) left).2.1 3 3 r = _
          rw [← e21', t5, e21]
          rfl
        obtain ⟨i1, i2, i3, i4, i5, i6, i7, i8, i9⟩ := take1_sim k (i + 1) (kTb a i (cI a 2 1 d) left) (mTakeFor b (nI d) (nI i) left) (left - kMin (cI a 3 3 i) left) (by rw [u3]; omega) t1 (by rw [u3]; exact hd9) (by omega) (fun z r hr hdr => by
          rw [u1] at hdr
          rw [row]
          by_cases hri : r = i
          · rw [if_pos hri]
            rw [i32_eq0, i32_sub (by have := i32_bd (cI a 3 3 i); omega) (by have := i32_bd (cI a 3 3 i); omega)]
            omega
          · rw [if_neg hri]
            exact ho hp r (by omega) hdr)
        rw [e1, e2]
        refine ⟨i1, i2, i3, fun z r hr => i4 z r (by omega), fun q a1 a2 a3 a4 a5 => by rw [i5 q a1 a2 a3 a4 a5, t3 q a1 a2 a3 a4 a5], by rw [i6, t4], by rw [i7, w1], by rw [i8, w2], by rw [i9, w3]⟩
      · have e1 : kTB1 d i (k + 1) a left = kTB1 d (i + 1) k a left := by
          conv => lhs; unfold kTB1
          rw [if_neg hz, if_neg hd]
        have e2 : mTake1 (nI d) i (k + 1) b left = mTake1 (nI d) (i + 1) k b left := by
          conv => lhs; unfold mTake1
          rw [if_pos (fun z => hd (g24.mp z))]
        rw [e1, e2]
        obtain ⟨i1, i2, i3, i4, i5⟩ := take1_sim k (i + 1) a b left (by omega) h hd9 hl (fun z r hr hdr => by
          by_cases hri : r = i
          · rw [hri] at hdr; exact absurd hdr hd
          · exact ho z r (by omega) hdr)
        exact ⟨i1, i2, i3, fun z r hr => i4 z r (by omega), i5⟩
theorem take2_sim {B d : Nat} {who : Int32} : ∀ (k i : Nat) (a : CS) (b : MS) (left : Int32), i + k ≤ cL a 2 → SC sL B a b → d < cL a 1 → cI a 2 1 d = who → 0 ≤ left.toInt → (0 < left.toInt → ∀ r, r < cL a 2 → kD a r = d → cI a 3 3 r = 0) →
    SC sL B (kTB2 d i k a left).1 (mTake2 (nI d) who i k b left).1 ∧ (kTB2 d i k a left).2 = (mTake2 (nI d) who i k b left).2 ∧
    (∀ q, q ≠ 21 → q ≠ 9 → q ≠ 25 → q ≠ 42 → q ≠ 43 → (mTake2 (nI d) who i k b left).1.2.1 q = b.2.1 q) ∧ (mTake2 (nI d) who i k b left).1.1 = b.1 ∧ (kTB2 d i k a left).1.1 = a.1 ∧ (kTB2 d i k a left).1.2.2.1 = a.2.2.1 ∧ (kTB2 d i k a left).1.2.2.2.2.2 = a.2.2.2.2.2
  | 0, i, a, b, left, _, h, _, _, _, _ => ⟨h, rfl, fun _ _ _ _ _ _ => rfl, rfl, rfl, rfl, rfl⟩
  | k + 1, i, a, b, left, hk, h, hd9, hw, hl, ho => by
    have hi : i < cL a 2 := by omega
    obtain ⟨ci, e, sc, ct, ac, ow, gr, no, dl, ds, hd', -⟩ := id h
    have h80 := ci.2.1.2
    have h40 := ci.2.2.2.1
    have h64 := ci.2.2.1
    have hiN : i < cN a 3 := by rw [← ci.2.1.1]; exact hi
    have hdN := (ci.1.1.1 i hiN).2.1
    have hsi : kS a (kD a i) < cN a 4 := (ci.1.1.2.1 _ hdN).2
    have hsd : kS a d < cN a 4 := (ci.1.1.2.1 d (by omega)).2
    have g24 : gA b 24 (nI i) = nI d ↔ kD a i = d := by
      rw [gA_nI _ _ (by omega), (dl i hi).1]
      exact nI_eq (by omega) (by omega)
    have g22 : gA b 22 (nI i) = cI a 5 2 (kT a i) := by rw [gA_nI _ _ (by omega)]; exact hd' i hi
    have g23 : gA b 23 (nI i) = gA b 19 (nI d) ↔ kS a (kD a i) = kS a d := by
      rw [gA_nI _ _ (by omega), gA_nI _ _ (by omega), show b.2.1 23 i = nI (kS a (kD a i)) from (dl i hi).2, ds d hd9]
      exact nI_eq (by omega) (by omega)
    have rec0 := fun (e1 : kTB2 d i (k + 1) a left = kTB2 d (i + 1) k a left) (e2 : mTake2 (nI d) who i (k + 1) b left = mTake2 (nI d) who (i + 1) k b left) => by
      have := take2_sim (who := who) k (i + 1) a b left (by omega) h hd9 hw hl ho
      rw [← e1, ← e2] at this
      exact this
    by_cases hz : left ≤ 0
    · have l0 : left = 0 := by rw [i32_le, i32_0] at hz; rw [i32_eq0]; omega
      have e1 : kTB2 d i (k + 1) a left = (a, left) := by unfold kTB2; rw [if_pos hz]
      rw [e1, l0, mTake2_0 h (nI d) who (k + 1) i hk]
      exact ⟨h, rfl, fun _ _ _ _ _ _ => rfl, rfl, rfl, rfl, rfl⟩
    · have hp : 0 < left.toInt := by rw [i32_le, i32_0] at hz; omega
      have eu : kTB2 d i (k + 1) a left = if kS a (kD a i) = kS a d then (if cI a 5 2 (kT a i) = cI a 2 1 d then kTB2 d (i + 1) k (kTb a i (cI a 2 1 d) left) (left - kMin (cI a 3 3 i) left) else kTB2 d (i + 1) k a left) else kTB2 d (i + 1) k a left := by
        conv => lhs; unfold kTB2
        rw [if_neg hz]
      by_cases hd : kD a i = d
      · have e2 : mTake2 (nI d) who i (k + 1) b left = mTake2 (nI d) who (i + 1) k b left := by
          conv => lhs; unfold mTake2
          rw [if_pos (g24.mpr hd)]
        refine rec0 ?_ e2
        rw [eu, hd, if_pos rfl]
        by_cases hh : cI a 5 2 (kT a i) = cI a 2 1 d
        · obtain ⟨z1, z2⟩ := kTb_dead h hi (ho hp i hi hd) (dl := cI a 2 1 d) hl
          rw [if_pos hh, z1, z2, Int32.sub_zero]
        · rw [if_neg hh]
      · have m1 : mTake2 (nI d) who i (k + 1) b left = if ¬ gA b 22 (nI i) = who then mTake2 (nI d) who (i + 1) k b left else if ¬ gA b 23 (nI i) = gA b 19 (nI d) then mTake2 (nI d) who (i + 1) k b left else mTake2 (nI d) who (i + 1) k (mTakeFor b (nI d) (nI i) left) (left - mTakeN b (nI i) left) := by
          conv => lhs; unfold mTake2
          rw [if_neg (fun z => hd (g24.mp z))]
        by_cases hh : cI a 5 2 (kT a i) = cI a 2 1 d
        · by_cases hs : kS a (kD a i) = kS a d
          · obtain ⟨t1, t2, t3, t4, t5⟩ := h.tb hi hd9 hl
            obtain ⟨u1, u2, u3, u4⟩ := tb_struct (a := a) (r := i) (cI a 2 1 d) left
            obtain ⟨w1, w2, w3⟩ := kTb_same a i (cI a 2 1 d) left
            have e21 : b.2.1 21 = a.2.1 3 3 := e (21, 3, 3) (by decide)
            have hb : 0 ≤ (cI a 3 3 i).toInt := by
              obtain ⟨-, -, -, -, -, -, -, -, -, -, -, -, -, -, -, hs', -⟩ := id h
              have := (hs' i hi).1
              rw [e21] at this
              exact this
            obtain ⟨k1, k2, k3, k4⟩ := kMin_int hb hl
            have hsb : (left - kMin (cI a 3 3 i) left).toInt = left.toInt - (kMin (cI a 3 3 i) left).toInt := i32_sub (by have := i32_bd left; omega) (by have := i32_bd left; omega)
            obtain ⟨-, e', -⟩ := id t1
            have e21' : (mTakeFor b (nI d) (nI i) left).2.1 21 = (kTb a i (cI a 2 1 d) left).2.1 3 3 := e' (21, 3, 3) (by decide)
            have e14' : (mTakeFor b (nI d) (nI i) left).2.1 14 = (kTb a i (cI a 2 1 d) left).2.1 2 1 := e' (14, 2, 1) (by decide)
            have e14 : b.2.1 14 = a.2.1 2 1 := e (14, 2, 1) (by decide)
            have row : ∀ r, cI (kTb a i (cI a 2 1 d) left) 3 3 r = if r = i then cI a 3 3 i - kMin (cI a 3 3 i) left else cI a 3 3 r := fun r => by
              show (kTb a i (cI a 2 1 d) left).2.1 3 3 r = _
              rw [← e21', t5, e21]
              rfl
            obtain ⟨i1, i2, i5, i6, i7, i8, i9⟩ := take2_sim (who := who) k (i + 1) (kTb a i (cI a 2 1 d) left) (mTakeFor b (nI d) (nI i) left) (left - kMin (cI a 3 3 i) left) (by rw [u3]; omega) t1 (by rw [u3]; exact hd9) (by
              show (kTb a i (cI a 2 1 d) left).2.1 2 1 d = who
              rw [← e14', t3 14 (by decide) (by decide) (by decide) (by decide) (by decide), e14]
              exact hw) (by omega) (fun z r hr hdr => by
              rw [u1] at hdr
              rw [u3] at hr
              rw [row, if_neg (fun w => hd (by rw [← w]; exact hdr))]
              exact ho hp r hr hdr)
            rw [eu, if_pos hs, if_pos hh, m1, if_neg (fun z => z (by rw [g22, hh, hw])), if_neg (fun z => z (g23.mpr hs)), t2]
            refine ⟨i1, i2, fun q a1 a2 a3 a4 a5 => by rw [i5 q a1 a2 a3 a4 a5, t3 q a1 a2 a3 a4 a5], by rw [i6, t4], by rw [i7, w1], by rw [i8, w2], by rw [i9, w3]⟩
          · refine rec0 (by rw [eu, if_neg hs]) (by rw [m1, if_neg (fun z => z (by rw [g22, hh, hw])), if_pos (fun z => hs (g23.mp z))])
        · refine rec0 ?_ (by rw [m1, if_pos (fun z => hh (by rw [← g22, z, hw]))])
          rw [eu, if_neg hh]
          exact ite_self _
theorem mX_id (b : MS) (k : Nat) (i : Int32) : mX b k i (gA b k i) = b := by
  refine MS_ext (by rw [mX_1]) (fun q => ?_) (by rw [mX_22])
  by_cases hq : q = k
  · subst hq
    show u2 b.2.1 q i.toNatClampNeg (b.2.1 q i.toNatClampNeg) q = _
    rw [u2_same, upd_self]
  · exact mX_ne b hq _ _
theorem takeBack_sim {B d : Nat} {a : CS} {b : MS} (h : SC sL B a b) (hd9 : d < cL a 1) {x : Int32} (hx : 0 ≤ x.toInt) :
    SC sL B (kTakeBack a d x) (mX (mTake2 (nI d) (cI a 2 1 d) 0 (cL a 2) (mTake1 (nI d) 0 (cL a 2) b x).1 (mTake1 (nI d) 0 (cL a 2) b x).2).1 6 (cI a 2 1 d) (gA (mTake2 (nI d) (cI a 2 1 d) 0 (cL a 2) (mTake1 (nI d) 0 (cL a 2) b x).1 (mTake1 (nI d) 0 (cL a 2) b x).2).1 6 (cI a 2 1 d) + (mTake2 (nI d) (cI a 2 1 d) 0 (cL a 2) (mTake1 (nI d) 0 (cL a 2) b x).1 (mTake1 (nI d) 0 (cL a 2) b x).2).2)) ∧
    (∀ q, q ≠ 21 → q ≠ 9 → q ≠ 25 → q ≠ 42 → q ≠ 43 → q ≠ 6 → (mX (mTake2 (nI d) (cI a 2 1 d) 0 (cL a 2) (mTake1 (nI d) 0 (cL a 2) b x).1 (mTake1 (nI d) 0 (cL a 2) b x).2).1 6 (cI a 2 1 d) (gA (mTake2 (nI d) (cI a 2 1 d) 0 (cL a 2) (mTake1 (nI d) 0 (cL a 2) b x).1 (mTake1 (nI d) 0 (cL a 2) b x).2).1 6 (cI a 2 1 d) + (mTake2 (nI d) (cI a 2 1 d) 0 (cL a 2) (mTake1 (nI d) 0 (cL a 2) b x).1 (mTake1 (nI d) 0 (cL a 2) b x).2).2)).2.1 q = b.2.1 q) ∧ (mX (mTake2 (nI d) (cI a 2 1 d) 0 (cL a 2) (mTake1 (nI d) 0 (cL a 2) b x).1 (mTake1 (nI d) 0 (cL a 2) b x).2).1 6 (cI a 2 1 d) (gA (mTake2 (nI d) (cI a 2 1 d) 0 (cL a 2) (mTake1 (nI d) 0 (cL a 2) b x).1 (mTake1 (nI d) 0 (cL a 2) b x).2).1 6 (cI a 2 1 d) + (mTake2 (nI d) (cI a 2 1 d) 0 (cL a 2) (mTake1 (nI d) 0 (cL a 2) b x).1 (mTake1 (nI d) 0 (cL a 2) b x).2).2)).1 = b.1 := by
  obtain ⟨i1, i2, i3, i4, i5, i6, i7, i8, i9⟩ := take1_sim (B := B) (d := d) (cL a 2) 0 a b x (by omega) h hd9 hx (fun _ r hr => absurd hr (Nat.not_lt_zero r))
  obtain ⟨ci, e, -, -, -, -, -, -, -, -, -, -, -, -, wf, -⟩ := id h
  have e14 : b.2.1 14 = a.2.1 2 1 := e (14, 2, 1) (by decide)
  generalize ht1 : kTB1 d 0 (cL a 2) a x = t1 at *
  generalize hm1 : mTake1 (nI d) 0 (cL a 2) b x = m1 at *
  obtain ⟨ta, tl⟩ := t1
  obtain ⟨ma, ml⟩ := m1
  simp only at i1 i2 i3 i4 i5 i6 i7 i8 i9
  subst i2
  have eL : ∀ j, cL ta j = cL a j := fun j => congrFun i9 j
  obtain ⟨-, e', -⟩ := id i1
  have e14' : ma.2.1 14 = ta.2.1 2 1 := e' (14, 2, 1) (by decide)
  have hw : cI ta 2 1 d = cI a 2 1 d := by
    show ta.2.1 2 1 d = a.2.1 2 1 d
    rw [← e14', i5 14 (by decide) (by decide) (by decide) (by decide) (by decide), e14]
  have eD : kD ta = kD a := by funext q; unfold kD cR; rw [i8]
  obtain ⟨j1, j2, j3, j4, j5, j6, j7⟩ := take2_sim (B := B) (d := d) (who := cI a 2 1 d) (cL a 2) 0 ta ma tl (by rw [eL]; omega) i1 (by rw [eL]; exact hd9) hw i3 (fun z r hr hdr => i4 z r (by rw [eL] at hr; omega) hdr)
  have eK : kTakeBack a d x = kOweT (kTB2 d 0 (cL a 2) ta tl).1 (cI (kTB2 d 0 (cL a 2) ta tl).1 2 1 d) (kTB2 d 0 (cL a 2) ta tl).2 := by
    unfold kTakeBack
    simp only
    rw [ht1]
  generalize ht2 : kTB2 d 0 (cL a 2) ta tl = t2 at *
  generalize hm2 : mTake2 (nI d) (cI a 2 1 d) 0 (cL a 2) ma tl = m2 at *
  obtain ⟨ta2, tl2⟩ := t2
  obtain ⟨ma2, ml2⟩ := m2
  simp only at j1 j2 j3 j4 j5 j6 j7
  subst j2
  obtain ⟨-, e2', -, -, -, -, -, -, -, -, -, -, -, -, wf2, -⟩ := id j1
  have e14'' : ma2.2.1 14 = ta2.2.1 2 1 := e2' (14, 2, 1) (by decide)
  have hw2 : cI ta2 2 1 d = cI a 2 1 d := by
    show ta2.2.1 2 1 d = a.2.1 2 1 d
    rw [← e14'', j3 14 (by decide) (by decide) (by decide) (by decide) (by decide), i5 14 (by decide) (by decide) (by decide) (by decide) (by decide), e14]
  rw [eK]
  simp only
  rw [hw2]
  refine ⟨j1.owe sL_ok (by rw [← show b.2.1 14 d = cI a 2 1 d by rw [e14]]; exact wf 14 d) _, fun q a1 a2 a3 a4 a5 a6 => by rw [mX_ne _ a6, j3 q a1 a2 a3 a4 a5, i5 q a1 a2 a3 a4 a5], by rw [mX_1, j4, i6]⟩
/-! dry weights -/
theorem mIn_int {v a b : Int32} : mIn v a b = true ↔ a.toInt ≤ v.toInt ∧ v.toInt ≤ b.toInt := by
  unfold mIn
  rw [Bool.and_eq_true, decide_eq_true_eq, decide_eq_true_eq, i32_le, i32_le]
theorem dry_eq {kg mo : Int32} (h1 : 100 ≤ kg.toInt) (h2 : kg.toInt ≤ 40000) (h3 : 50 ≤ mo.toInt) (h4 : mo.toInt ≤ 300) : kDry kg mo = mDry kg mo ∧ 0 < (mDry kg mo).toInt ∧ (mDry kg mo).toInt ≤ 40000 := by
  unfold kDry mDry
  by_cases h : mo ≤ 140
  · rw [if_pos h, if_pos h]
    exact ⟨rfl, by omega, h2⟩
  · rw [if_neg h, if_neg h]
    rw [i32_le, show (140 : Int32).toInt = 140 by decide] at h
    have e1 : (1000 - mo).toInt = 1000 - mo.toInt := by
      rw [i32_sub (by rw [show (1000 : Int32).toInt = 1000 by decide]; omega) (by rw [show (1000 : Int32).toInt = 1000 by decide]; omega), show (1000 : Int32).toInt = 1000 by decide]
    have p1 : kg.toInt * (1000 - mo.toInt) ≤ kg.toInt * 859 := Int.mul_le_mul_of_nonneg_left (by omega) (by omega)
    have p2 : kg.toInt * 700 ≤ kg.toInt * (1000 - mo.toInt) := Int.mul_le_mul_of_nonneg_left (by omega) (by omega)
    have m64 : (kg.toInt64 * (1000 - mo).toInt64).toInt = kg.toInt * (1000 - mo.toInt) := by
      rw [Int64.toInt_mul, Int32.toInt_toInt64, Int32.toInt_toInt64, e1, Int.bmod_eq_of_le (by omega) (by omega)]
    have e860 : (860 : Int64) = (860 : Int32).toInt64 := by decide
    have d64 : (kg.toInt64 * (1000 - mo).toInt64 / 860).toInt = kg.toInt * (1000 - mo.toInt) / 860 := by
      rw [e860, i64_div (by rw [m64]; omega) (by decide), m64]
      rfl
    have r64 : ((kg.toInt64 * (1000 - mo).toInt64 / 860).toInt32).toInt = kg.toInt * (1000 - mo.toInt) / 860 := by
      rw [i64_to32 (by rw [d64]; omega) (by rw [d64]; omega), d64]
    have m32 : (kg * (1000 - mo)).toInt = kg.toInt * (1000 - mo.toInt) := by
      rw [Int32.toInt_mul, e1, Int.bmod_eq_of_le (by omega) (by omega)]
    have r32 : (kg * (1000 - mo) / 860).toInt = kg.toInt * (1000 - mo.toInt) / 860 := by
      rw [Int32.toInt_div, m32, show (860 : Int32).toInt = 860 by decide, Int.tdiv_eq_ediv_of_nonneg (by omega), Int.bmod_eq_of_le (by omega) (by omega)]
    refine ⟨Int32.toInt_inj.mp (by rw [r32, r64]), by rw [r64]; omega, by rw [r64]; omega⟩
