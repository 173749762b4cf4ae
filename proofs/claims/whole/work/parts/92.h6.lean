/-! weights told anew, days, in the machine -/
theorem kReweigh_le (a : CS) (d : Nat) (mo : Int32) : ∀ t, cN a t ≤ cN (kReweigh a d mo) t := by
  have tb1 : ∀ (d k i : Nat) (a : CS) (left : Int32), (kTB1 d i k a left).1.1 = a.1 := by
    intro d k
    induction k with
    | zero => intro i a left; rfl
    | succ k ih =>
      intro i a left
      show (if left ≤ 0 then (a, left) else if kD a i = d then kTB1 d (i + 1) k (kTb a i (cI a 2 1 d) left) (left - kMin (cI a 3 3 i) left) else kTB1 d (i + 1) k a left).1.1 = a.1
      split
      · rfl
      · split
        · rw [ih]; exact (kTb_same a i _ left).1
        · rw [ih]
  have tb2 : ∀ (d k i : Nat) (a : CS) (left : Int32), (kTB2 d i k a left).1.1 = a.1 := by
    intro d k
    induction k with
    | zero => intro i a left; rfl
    | succ k ih =>
      intro i a left
      show (if left ≤ 0 then (a, left) else if kS a (kD a i) = kS a d then (if cI a 5 2 (kT a i) = cI a 2 1 d then kTB2 d (i + 1) k (kTb a i (cI a 2 1 d) left) (left - kMin (cI a 3 3 i) left) else kTB2 d (i + 1) k a left) else kTB2 d (i + 1) k a left).1.1 = a.1
      split
      · rfl
      · split
        · split
          · rw [ih]; exact (kTb_same a i _ left).1
          · rw [ih]
        · rw [ih]
  have tk : ∀ (a : CS) (d : Nat) (x : Int32), (kTakeBack a d x).1 = a.1 := fun a d x => by
    unfold kTakeBack
    simp only
    rw [(kOweT_same _ _ _).1, tb2, tb1]
  have tk' : ∀ (a : CS) (d : Nat) (x : Int32) (t : Nat), cN (kTakeBack a d x) t = cN a t := fun a d x t => by
    unfold cN
    rw [tk]
  have ow' : ∀ (a : CS) (i x : Int32) (t : Nat), cN (kOweT a i x) t = cN a t := fun a i x t => by
    unfold cN
    rw [(kOweT_same _ _ _).1]
  have e0 : ∀ t, cN (cSI a 2 6 d (cI a 2 6 d + kDiff a d mo)) t = cN a t := fun _ => rfl
  intro t
  unfold kReweigh
  simp only
  split
  · split
    · split
      · exact Nat.le_of_eq (e0 t).symm
      · rw [tk', e0]
        exact Nat.le_refl _
    · rw [← e0 t]
      exact (kMake_gr (a := cSI (cSI a 2 6 d (cI a 2 6 d + kDiff a d mo)) 4 4 _ _) _ _ _).1 t
  · rw [ow', e0]
    exact Nat.le_refl _
set_option maxHeartbeats 1000000 in
theorem o_reweigh {l : Launch} {D : va_G} {ty : Nat → ClassId} {tE o mo : Nat} {Ac Aw Am : Nat → Prop} {ad : Nat → Nat} {el : Nat → Nat → Nat} {a : CS} {b : MS} {T D0 : Nat} (ev : EV l Ac Aw o) (j : SJ T D0 a b) (tn : TN a) (hT : T < 600) (hD : D0 ≤ 90000) (p1 p2 : Int32) : LO relI l D ty tE o Ac Aw Am mo ad el a b T D0 yL_reweigh wsL_reweigh yX6_reweigh wsX6_reweigh rmX6_reweigh [.int p1, .int p2] [.ref o] := by
  obtain ⟨hsub, ho, hno, hfr, hl⟩ := ev
  obtain ⟨wf, cnt, c59⟩ := j.mf (by omega)
  have bd := j.bd
  obtain ⟨ci, e, sc, ct, ac, ow, gr, no, dl, ds, hd, pl, co, tw, -, hs, -⟩ := id j.2.2
  have h6 : cOb a 6 0 := Or.inr ⟨rfl, rfl⟩
  have h80 := ci.2.1.2
  have h06 := ci.2.2.1.2
  have h40 := ci.2.2.2.1.2
  have h30 := ci.2.2.2.2.2
  have e3 := ci.2.1.1
  have e4 := ci.2.2.1.1
  have e2 := ci.2.2.2.1.1
  have e1 := ci.2.2.2.2.1
  have b0 : cL a 0 < 2 ^ 31 := by omega
  have b1 : cL a 1 < 2 ^ 31 := by omega
  have b2 : cL a 2 < 2 ^ 31 := by omega
  have b3 : cL a 3 < 2 ^ 31 := by omega
  have ok := ci.1
  have hix := (j.2.2.ix p1).2.1
  by_cases g1 : vp_in p1 (cL a 1)
  case neg =>
    have g1' : mIn p1 0 (gS b 13 - 1) = false := bne_true (fun z => g1 (hix.mp z))
    have g2 : mReweigh b p1 p2 = (0, mS b 0 1) := by unfold mReweigh; rw [if_neg (by rw [g1']; decide)]
    exact LO.thr j tn (k := 1) (fun f => x_reweigh_B hsub ho hno hfr p1 p2 (t_reweigh1 l D ty Ac hl tE el a h6 b1 p1 p2 g1) ⟨rfl, rfl, Nat.le_of_ble_eq_true rfl, Nat.le_of_ble_eq_true rfl⟩ (fun {s} hK => k6_recv hK h6)) (by have cm := c_mreweigh l D ty Am mo ad b p1 p2 wf cnt c59 (fun z => by rw [g1'] at z; cases z); rw [show mReweigh b p1 p2 = (0, mS b 0 1) from g2] at cm; exact cm) (fun _ => ⟨_, rfl, fun z => absurd z (by decide)⟩)
  obtain ⟨d, hq, rfl⟩ := vp_in_of g1 (by omega)
  have h2 : cOb a 2 d := Or.inl ⟨by decide, by omega⟩
  have hix := hix.mpr g1
  by_cases g3 : mIn p2 50 300 = true
  case neg =>
    have g2 : mReweigh b (nI d) p2 = (0, mS b 0 2) := by unfold mReweigh; rw [if_pos hix, if_neg g3]
    exact LO.thr j tn (k := 2) (fun f => x_reweigh_A hsub ho hno hfr (nI d) p2 (t_reweigh2 l D ty Ac hl tE el a h6 b1 hq h2 p2 (bne_true g3)) ⟨rfl, rfl, Nat.le_of_ble_eq_true rfl, Nat.le_of_ble_eq_true rfl⟩ (fun {s} hK => k6_recv hK h6)) (by have cm := c_mreweigh l D ty Am mo ad b (nI d) p2 wf cnt c59 (fun _ z => absurd z g3); rw [show mReweigh b (nI d) p2 = (0, mS b 0 2) from g2] at cm; exact cm) (fun _ => ⟨_, rfl, fun z => absurd z (by decide)⟩)
  obtain ⟨⟨d1, d2⟩, d3, d4⟩ := reweigh_sim j.2.2 (by omega) hq g3
  have hsub9 : mIn (nI d) 0 (gS b 13 - 1) = true → mIn p2 50 300 = true → mDry (gA b 15 (nI d)) p2 ≤ gA b 16 (nI d) → mDry (gA b 15 (nI d)) p2 - gA b 16 (nI d) ≤ 0 := fun _ _ z => by
    rw [gA_nI _ _ (by omega), gA_nI _ _ (by omega)] at z ⊢
    rw [i32_le] at z
    rw [← d1, i32_le, d2, i32_0]
    omega
  by_cases g4 : 0 < kDiff a d p2 ∧ kLike a d = true ∧ 80 ≤ cL a 2
  ·
    exact LO.thr j tn (k := 3) (fun f => x_reweigh_S hsub ho hno hfr (nI d) p2 (t_reweigh3 l D ty Ac hl tE el a h6 b1 hq h2 p2 g3 ok (by omega) b2 g4) ⟨rfl, rfl, Nat.le_of_ble_eq_true rfl, Nat.le_of_ble_eq_true rfl⟩ (fun {s} hK => k6_recv hK h6)) (by have cm := c_mreweigh l D ty Am mo ad b (nI d) p2 wf cnt c59 hsub9; rw [show mReweigh b (nI d) p2 = (0, mS b 0 3) from (d4 g4)] at cm; exact cm) (fun _ => ⟨_, rfl, fun z => absurd z (by decide)⟩)
  · have g5 := d3 g4
    exact LO.ok (g := fun f => vp_updL f 0 (kDiff a d p2).toInt64) (fun f => w_reweigh hsub ho hno hfr (nI d) p2 (k_reweigh l D ty Ac tE el a h6 b1 hq h2 p2 g3 ok (by omega) b2 h80 e3 g4) ⟨rfl, rfl, Nat.le_of_ble_eq_true rfl, Nat.le_of_ble_eq_true rfl⟩ (fun {s} hK => k6_recv hK h6) (fun H H1 h hq => hX_kept h (fun q hA _ => hq q (fun z => hno (z ▸ hA))))) (fun _ h => h) (by have cm := c_mreweigh l D ty Am mo ad b (nI d) p2 wf cnt c59 hsub9; rw [show (mReweigh b (nI d) p2).1 = kDiff a d p2 from g5.1] at cm; exact cm) (pc_add (kReweigh_le a d p2) (by decide) (by decide)) g5.2.2 (fun _ => ⟨_, rfl, fun _ => rfl⟩) (j.step (kp_reweigh j.1 d p2) (Nat.le_add_right _ _) (g5.2.1.mono (by omega))) (kt_reweigh a d p2 tn)
set_option maxHeartbeats 1000000 in
theorem o_pass {l : Launch} {D : va_G} {ty : Nat → ClassId} {tE o mo : Nat} {Ac Aw Am : Nat → Prop} {ad : Nat → Nat} {el : Nat → Nat → Nat} {a : CS} {b : MS} {T D0 : Nat} (ev : EV l Ac Aw o) (j : SJ T D0 a b) (tn : TN a) (hT : T < 600) (hD : D0 ≤ 90000) (p1 : Int32) : LO relI l D ty tE o Ac Aw Am mo ad el a b T D0 yL_pass wsL_pass yX6_pass wsX6_pass rmX6_pass [.int p1] [.ref o] := by
  obtain ⟨hsub, ho, hno, hfr, hl⟩ := ev
  obtain ⟨wf, cnt, c59⟩ := j.mf (by omega)
  have bd := j.bd
  obtain ⟨ci, e, sc, ct, ac, ow, gr, no, dl, ds, hd, pl, co, tw, -, hs, -⟩ := id j.2.2
  have h6 : cOb a 6 0 := Or.inr ⟨rfl, rfl⟩
  have h80 := ci.2.1.2
  have h06 := ci.2.2.1.2
  have h40 := ci.2.2.2.1.2
  have h30 := ci.2.2.2.2.2
  have e3 := ci.2.1.1
  have e4 := ci.2.2.1.1
  have e2 := ci.2.2.2.1.1
  have e1 := ci.2.2.2.2.1
  have b0 : cL a 0 < 2 ^ 31 := by omega
  have b1 : cL a 1 < 2 ^ 31 := by omega
  have b2 : cL a 2 < 2 ^ 31 := by omega
  have b3 : cL a 3 < 2 ^ 31 := by omega
  have ok := ci.1
  rcases p_pass j (by omega) (by omega) p1 with g1 | ⟨n9, rfl, h9, hv, hsh, hok, hr, hj, h1, h0⟩
  ·
    exact LO.thr j tn (k := 1) (fun f => x_pass_A hsub ho hno hfr p1 (t_pass l D ty Ac hl tE el a p1 g1) ⟨rfl, rfl, Nat.le_of_ble_eq_true rfl, Nat.le_of_ble_eq_true rfl⟩ (fun {s} hK => k6_recv hK h6)) (c_mpassF l D ty Am mo ad b p1 g1) (fun _ => ⟨_, rfl, fun z => absurd z (by decide)⟩)
  · have cm := c_mpassT l D ty Am mo ad b (nS := cL a 0) (nC := cL a 3) (n9 := n9) (nR := fun d => cL (kDays a d) 2) h06 h30 hr h9 hv hok
    rw [h1] at cm
    have kp := k_pass l D ty Ac tE el a ci h9 hv hsh
    have hpc := (kDays_inv ci n9).2.cost
    exact LO.ok (g := fun f => vp_updL f 0 (cI (kDays a n9) 6 9 0).toInt64) (fun f => w_pass hsub ho hno hfr (nI n9) kp ⟨rfl, rfl, Nat.le_of_ble_eq_true rfl, Nat.le_of_ble_eq_true rfl⟩ (fun {s} hK => k6_recv hK h6) (fun H H1 h hq => hX_kept h (fun q hA _ => hq q (fun z => hno (z ▸ hA))))) (fun _ h => h) cm ⟨by omega, by omega⟩ h0 (fun _ => ⟨_, rfl, fun _ => rfl⟩) hj (kt_days a n9 tn)
