/-! what is asked, in the machine -/
set_option maxHeartbeats 1000000 in
theorem o_receipt {l : Launch} {D : va_G} {ty : Nat → ClassId} {tE o mo : Nat} {Ac Aw Am : Nat → Prop} {ad : Nat → Nat} {el : Nat → Nat → Nat} {a : CS} {b : MS} {T D0 : Nat} (ev : EV l Ac Aw o) (j : SJ T D0 a b) (tn : TN a) (hT : T < 600) (hD : D0 ≤ 90000) (p1 p2 : Int32) : LO relI l D ty tE o Ac Aw Am mo ad el a b T D0 yL_receipt wsL_receipt yX6_receipt wsX6_receipt rmX6_receipt [.int p1, .int p2] [.ref o] := by
  obtain ⟨hsub, ho, hno, hfr, hl⟩ := ev
  obtain ⟨wf, cnt, c59⟩ := j.mf (by omega)
  have bd := j.bd
  obtain ⟨ci, e, sc, ct, ac, ow, gr, no, dl, ds, hd, pl, co, tw, -, hs, -⟩ := id j.2.2
  have h6 : cOb a 6 0 := Or.inr ⟨rfl, rfl⟩
  have h80 := ci.2.1.2
  have h06 := ci.2.2.1.2
  have h40 := ci.2.2.2.1.2
  have h30 := ci.2.2.2.2.2
  have e3 := ci.2.1.1
  have e4 := ci.2.2.1.1
  have e2 := ci.2.2.2.1.1
  have e1 := ci.2.2.2.2.1
  have b0 : cL a 0 < 2 ^ 31 := by omega
  have b1 : cL a 1 < 2 ^ 31 := by omega
  have b2 : cL a 2 < 2 ^ 31 := by omega
  have b3 : cL a 3 < 2 ^ 31 := by omega
  have ok := ci.1
  have hix := (j.2.2.ix p1).2.2.1
  by_cases g1 : vp_in p1 (cL a 2)
  case neg =>
    have g2 : mReceipt b p1 p2 = (0, mS b 0 1) := by unfold mReceipt; rw [if_neg (fun z => g1 (hix.mp z))]
    exact LO.thr j tn (k := 1) (fun f => x_receipt_B hsub ho hno hfr p1 p2 (t_receipt1 l D ty Ac hl tE el a h6 b2 p1 p2 g1) ⟨rfl, rfl, Nat.le_of_ble_eq_true rfl, Nat.le_of_ble_eq_true rfl⟩ (fun {s} hK => k6_recv hK h6)) (by have cm := c_mreceipt l D ty Am mo ad b p1 p2 wf cnt c59; rw [show mReceipt b p1 p2 = (0, mS b 0 1) from g2] at cm; exact cm) (fun _ => ⟨_, rfl, fun z => absurd z (by decide)⟩)
  obtain ⟨q, hq, rfl⟩ := vp_in_of g1 (by omega)
  have hix := hix.mpr g1
  have r0 := j.2.2.rcp hq
  have h3 : cOb a 3 q := Or.inl ⟨by decide, by omega⟩
  have hw3 := ok.1.1 q (by omega)
  have h2 : cOb a 2 (kD a q) := Or.inl ⟨by decide, hw3.2.1⟩
  have h5 : cOb a 5 (kT a q) := Or.inl ⟨by decide, hw3.2.2.2⟩
  have hw2 := ok.1.2.1 _ hw3.2.1
  have h4 : cOb a 4 (kS a (kD a q)) := Or.inl ⟨by decide, hw2.2⟩
  by_cases g3 : mIn p2 0 7 = true
  case neg =>
    have g2 : mReceipt b (nI q) p2 = (0, mS b 0 2) := by unfold mReceipt; rw [if_pos hix, if_neg g3]
    have g4 := mIn_bad (bne_true g3)
    rw [show (7 : Int32).toInt = 7 by decide] at g4
    exact LO.thr j tn (k := 2) (fun f => x_receipt_A hsub ho hno hfr (nI q) p2 (t_receipt2 l D ty Ac hl tE el a h6 b2 hq h3 p2 g4) ⟨rfl, rfl, Nat.le_of_ble_eq_true rfl, Nat.le_of_ble_eq_true rfl⟩ (fun {s} hK => k6_recv hK h6)) (by have cm := c_mreceipt l D ty Am mo ad b (nI q) p2 wf cnt c59; rw [show mReceipt b (nI q) p2 = (0, mS b 0 2) from g2] at cm; exact cm) (fun _ => ⟨_, rfl, fun z => absurd z (by decide)⟩)
  have hm : ∀ w, mIn w 0 7 = true → mReceipt b (nI q) w = ((if w = 0 then gA b 21 (nI q) else if w = 1 then gA b 22 (nI q) else if w = 2 then gA b 23 (nI q) else if w = 3 then gA b 24 (nI q) else if w = 4 then gA b 25 (nI q) else if w = 5 then (if ¬ gA b 25 (nI q) = -1 then gA b 26 (nI q) else -1) else if w = 6 then (if ¬ gA b 25 (nI q) = -1 then gA b 27 (nI q) else -1) else gA b 28 (nI q)), mS b 0 0) := fun w hw => by unfold mReceipt; rw [if_pos hix, if_pos hw]; rfl
  have hpl : (if ¬ gA b 25 (nI q) = -1 then gA b 26 (nI q) else -1) = cI a 3 5 q ∧ (if ¬ gA b 25 (nI q) = -1 then gA b 27 (nI q) else -1) = cI a 3 6 q := by
    have hp := pl q hq
    rw [r0.2.1, gA_nI b 26 (by omega), gA_nI b 27 (by omega)]
    by_cases z : cI a 3 4 q = -1
    · rw [if_neg (fun y => y z), if_neg (fun y => y z)]
      exact ⟨(hp.2 z).1.symm, (hp.2 z).2.symm⟩
    · rw [if_pos z, if_pos z]
      exact hp.1 z
  rcases mIn_7 g3 with rfl | rfl | rfl | rfl | rfl | rfl | rfl | rfl
  ·
    exact LO.ok (g := fun f => vp_updL f 0 (cI a 3 3 q).toInt64) (fun f => w_receipt hsub ho hno hfr (nI q) 0 (k_receipt0 l D ty Ac tE el a h6 b2 hq h3) ⟨rfl, rfl, Nat.le_of_ble_eq_true rfl, Nat.le_of_ble_eq_true rfl⟩ (fun {s} hK => k6_recv hK h6) (fun H H1 h hq => hC_kept h (fun q hA _ => hq q (fun z => hno (z ▸ hA))))) hX_of (by have cm := c_mreceipt l D ty Am mo ad b (nI q) 0 wf cnt c59; rw [show mReceipt b (nI q) 0 = (cI a 3 3 q, mS b 0 0) from (by rw [hm 0 g3, if_pos rfl]; rw [r0.1])] at cm; exact cm) (pc_add (fun _ => Nat.le_refl _) (by decide) (by decide)) rfl (fun _ => ⟨_, rfl, fun _ => rfl⟩) (j.same (Nat.le_add_right _ _) 0) tn
  ·
    exact LO.ok (g := fun f => vp_updL f 0 (cI a 5 2 (kT a q)).toInt64) (fun f => w_receipt hsub ho hno hfr (nI q) 1 (k_receipt1 l D ty Ac tE el a h6 b2 hq h3 hw3.2.2.1 h5) ⟨rfl, rfl, Nat.le_of_ble_eq_true rfl, Nat.le_of_ble_eq_true rfl⟩ (fun {s} hK => k6_recv hK h6) (fun H H1 h hq => hC_kept h (fun q hA _ => hq q (fun z => hno (z ▸ hA))))) hX_of (by have cm := c_mreceipt l D ty Am mo ad b (nI q) 1 wf cnt c59; rw [show mReceipt b (nI q) 1 = (cI a 5 2 (kT a q), mS b 0 0) from (by rw [hm 1 g3, if_neg (by decide), if_pos rfl]; rw [r0.2.2.1])] at cm; exact cm) (pc_add (fun _ => Nat.le_refl _) (by decide) (by decide)) rfl (fun _ => ⟨_, rfl, fun _ => rfl⟩) (j.same (Nat.le_add_right _ _) 0) tn
  ·
    exact LO.ok (g := fun f => vp_updL f 0 (nI (kS a (kD a q))).toInt64) (fun f => w_receipt hsub ho hno hfr (nI q) 2 (by have k := k_receipt2 l D ty Ac tE el a h6 b2 hq h3 hw3.1 h2 hw2.1 h4; rw [show cI a 4 0 (kS a (kD a q)) = nI (kS a (kD a q)) from no.1 _ (by omega)] at k; exact k) ⟨rfl, rfl, Nat.le_of_ble_eq_true rfl, Nat.le_of_ble_eq_true rfl⟩ (fun {s} hK => k6_recv hK h6) (fun H H1 h hq => hC_kept h (fun q hA _ => hq q (fun z => hno (z ▸ hA))))) hX_of (by have cm := c_mreceipt l D ty Am mo ad b (nI q) 2 wf cnt c59; rw [show mReceipt b (nI q) 2 = (nI (kS a (kD a q)), mS b 0 0) from (by rw [hm 2 g3, if_neg (by decide), if_neg (by decide), if_pos rfl]; rw [r0.2.2.2.1])] at cm; exact cm) (pc_add (fun _ => Nat.le_refl _) (by decide) (by decide)) rfl (fun _ => ⟨_, rfl, fun _ => rfl⟩) (j.same (Nat.le_add_right _ _) 0) tn
  ·
    exact LO.ok (g := fun f => vp_updL f 0 (nI (kD a q)).toInt64) (fun f => w_receipt hsub ho hno hfr (nI q) 3 (by have k := k_receipt3 l D ty Ac tE el a h6 b2 hq h3 hw3.1 h2; rw [show cI a 2 0 (kD a q) = nI (kD a q) from no.2.1 _ (by omega)] at k; exact k) ⟨rfl, rfl, Nat.le_of_ble_eq_true rfl, Nat.le_of_ble_eq_true rfl⟩ (fun {s} hK => k6_recv hK h6) (fun H H1 h hq => hC_kept h (fun q hA _ => hq q (fun z => hno (z ▸ hA))))) hX_of (by have cm := c_mreceipt l D ty Am mo ad b (nI q) 3 wf cnt c59; rw [show mReceipt b (nI q) 3 = (nI (kD a q), mS b 0 0) from (by rw [hm 3 g3, if_neg (by decide), if_neg (by decide), if_neg (by decide), if_pos rfl]; rw [r0.2.2.2.2.1])] at cm; exact cm) (pc_add (fun _ => Nat.le_refl _) (by decide) (by decide)) rfl (fun _ => ⟨_, rfl, fun _ => rfl⟩) (j.same (Nat.le_add_right _ _) 0) tn
  ·
    exact LO.ok (g := fun f => vp_updL f 0 (cI a 3 4 q).toInt64) (fun f => w_receipt hsub ho hno hfr (nI q) 4 (k_receipt4 l D ty Ac tE el a h6 b2 hq h3) ⟨rfl, rfl, Nat.le_of_ble_eq_true rfl, Nat.le_of_ble_eq_true rfl⟩ (fun {s} hK => k6_recv hK h6) (fun H H1 h hq => hC_kept h (fun q hA _ => hq q (fun z => hno (z ▸ hA))))) hX_of (by have cm := c_mreceipt l D ty Am mo ad b (nI q) 4 wf cnt c59; rw [show mReceipt b (nI q) 4 = (cI a 3 4 q, mS b 0 0) from (by rw [hm 4 g3, if_neg (by decide), if_neg (by decide), if_neg (by decide), if_neg (by decide), if_pos rfl]; rw [r0.2.1])] at cm; exact cm) (pc_add (fun _ => Nat.le_refl _) (by decide) (by decide)) rfl (fun _ => ⟨_, rfl, fun _ => rfl⟩) (j.same (Nat.le_add_right _ _) 0) tn
  ·
    exact LO.ok (g := fun f => vp_updL f 0 (cI a 3 5 q).toInt64) (fun f => w_receipt hsub ho hno hfr (nI q) 5 (k_receipt5 l D ty Ac tE el a h6 b2 hq h3) ⟨rfl, rfl, Nat.le_of_ble_eq_true rfl, Nat.le_of_ble_eq_true rfl⟩ (fun {s} hK => k6_recv hK h6) (fun H H1 h hq => hC_kept h (fun q hA _ => hq q (fun z => hno (z ▸ hA))))) hX_of (by have cm := c_mreceipt l D ty Am mo ad b (nI q) 5 wf cnt c59; rw [show mReceipt b (nI q) 5 = (cI a 3 5 q, mS b 0 0) from (by rw [hm 5 g3, if_neg (by decide), if_neg (by decide), if_neg (by decide), if_neg (by decide), if_neg (by decide), if_pos rfl]; rw [hpl.1])] at cm; exact cm) (pc_add (fun _ => Nat.le_refl _) (by decide) (by decide)) rfl (fun _ => ⟨_, rfl, fun _ => rfl⟩) (j.same (Nat.le_add_right _ _) 0) tn
  ·
    exact LO.ok (g := fun f => vp_updL f 0 (cI a 3 6 q).toInt64) (fun f => w_receipt hsub ho hno hfr (nI q) 6 (k_receipt6 l D ty Ac tE el a h6 b2 hq h3) ⟨rfl, rfl, Nat.le_of_ble_eq_true rfl, Nat.le_of_ble_eq_true rfl⟩ (fun {s} hK => k6_recv hK h6) (fun H H1 h hq => hC_kept h (fun q hA _ => hq q (fun z => hno (z ▸ hA))))) hX_of (by have cm := c_mreceipt l D ty Am mo ad b (nI q) 6 wf cnt c59; rw [show mReceipt b (nI q) 6 = (cI a 3 6 q, mS b 0 0) from (by rw [hm 6 g3, if_neg (by decide), if_neg (by decide), if_neg (by decide), if_neg (by decide), if_neg (by decide), if_neg (by decide), if_pos rfl]; rw [hpl.2])] at cm; exact cm) (pc_add (fun _ => Nat.le_refl _) (by decide) (by decide)) rfl (fun _ => ⟨_, rfl, fun _ => rfl⟩) (j.same (Nat.le_add_right _ _) 0) tn
  · cases hc7 : cR a 3 7 q with
    | none =>
      exact LO.ok (g := fun f => vp_updL f 0 ((-1)).toInt64) (fun f => w_receipt hsub ho hno hfr (nI q) 7 (k_receipt7n l D ty Ac tE el a h6 b2 hq h3 hc7) ⟨rfl, rfl, Nat.le_of_ble_eq_true rfl, Nat.le_of_ble_eq_true rfl⟩ (fun {s} hK => k6_recv hK h6) (fun H H1 h hq => hC_kept h (fun q hA _ => hq q (fun z => hno (z ▸ hA))))) hX_of (by have cm := c_mreceipt l D ty Am mo ad b (nI q) 7 wf cnt c59; rw [show mReceipt b (nI q) 7 = ((-1), mS b 0 0) from (by rw [hm 7 g3, if_neg (by decide), if_neg (by decide), if_neg (by decide), if_neg (by decide), if_neg (by decide), if_neg (by decide), if_neg (by decide)]; rw [r0.2.2.2.2.2.1, hc7]; rfl)] at cm; exact cm) (pc_add (fun _ => Nat.le_refl _) (by decide) (by decide)) rfl (fun _ => ⟨_, rfl, fun _ => rfl⟩) (j.same (Nat.le_add_right _ _) 0) tn
    | some c9 =>
      have hc9 : c9 < cL a 3 := (j.1.2.2 q c9 hc7).1
      exact LO.ok (g := fun f => vp_updL f 0 (nI c9).toInt64) (fun f => w_receipt hsub ho hno hfr (nI q) 7 (by have k := k_receipt7s l D ty Ac tE el a h6 b2 hq h3 hc7 (Or.inl ⟨by decide, by omega⟩); rw [show cI a 1 0 c9 = nI c9 from no.2.2.2 _ hc9] at k; exact k) ⟨rfl, rfl, Nat.le_of_ble_eq_true rfl, Nat.le_of_ble_eq_true rfl⟩ (fun {s} hK => k6_recv hK h6) (fun H H1 h hq => hC_kept h (fun q hA _ => hq q (fun z => hno (z ▸ hA))))) hX_of (by have cm := c_mreceipt l D ty Am mo ad b (nI q) 7 wf cnt c59; rw [show mReceipt b (nI q) 7 = (nI c9, mS b 0 0) from (by rw [hm 7 g3, if_neg (by decide), if_neg (by decide), if_neg (by decide), if_neg (by decide), if_neg (by decide), if_neg (by decide), if_neg (by decide)]; rw [r0.2.2.2.2.2.1, hc7]; rfl)] at cm; exact cm) (pc_add (fun _ => Nat.le_refl _) (by decide) (by decide)) rfl (fun _ => ⟨_, rfl, fun _ => rfl⟩) (j.same (Nat.le_add_right _ _) 0) tn
set_option maxHeartbeats 1000000 in
theorem o_delivery {l : Launch} {D : va_G} {ty : Nat → ClassId} {tE o mo : Nat} {Ac Aw Am : Nat → Prop} {ad : Nat → Nat} {el : Nat → Nat → Nat} {a : CS} {b : MS} {T D0 : Nat} (ev : EV l Ac Aw o) (j : SJ T D0 a b) (tn : TN a) (hT : T < 600) (hD : D0 ≤ 90000) (p1 p2 : Int32) : LO relI l D ty tE o Ac Aw Am mo ad el a b T D0 yL_delivery wsL_delivery yX6_delivery wsX6_delivery rmX6_delivery [.int p1, .int p2] [.ref o] := by
  obtain ⟨hsub, ho, hno, hfr, hl⟩ := ev
  obtain ⟨wf, cnt, c59⟩ := j.mf (by omega)
  have bd := j.bd
  obtain ⟨ci, e, sc, ct, ac, ow, gr, no, dl, ds, hd, pl, co, tw, -, hs, -⟩ := id j.2.2
  have h6 : cOb a 6 0 := Or.inr ⟨rfl, rfl⟩
  have h80 := ci.2.1.2
  have h06 := ci.2.2.1.2
  have h40 := ci.2.2.2.1.2
  have h30 := ci.2.2.2.2.2
  have e3 := ci.2.1.1
  have e4 := ci.2.2.1.1
  have e2 := ci.2.2.2.1.1
  have e1 := ci.2.2.2.2.1
  have b0 : cL a 0 < 2 ^ 31 := by omega
  have b1 : cL a 1 < 2 ^ 31 := by omega
  have b2 : cL a 2 < 2 ^ 31 := by omega
  have b3 : cL a 3 < 2 ^ 31 := by omega
  have ok := ci.1
  have hix := (j.2.2.ix p1).2.1
  by_cases g1 : vp_in p1 (cL a 1)
  case neg =>
    have g2 : mDelivery b p1 p2 = (0, mS b 0 1) := by unfold mDelivery; rw [if_neg (fun z => g1 (hix.mp z))]
    exact LO.thr j tn (k := 1) (fun f => x_delivery_B hsub ho hno hfr p1 p2 (t_delivery1 l D ty Ac hl tE el a h6 b1 p1 p2 g1) ⟨rfl, rfl, Nat.le_of_ble_eq_true rfl, Nat.le_of_ble_eq_true rfl⟩ (fun {s} hK => k6_recv hK h6)) (by have cm := c_mdelivery l D ty Am mo ad b p1 p2 wf cnt c59; rw [show mDelivery b p1 p2 = (0, mS b 0 1) from g2] at cm; exact cm) (fun _ => ⟨_, rfl, fun z => absurd z (by decide)⟩)
  obtain ⟨q, hq, rfl⟩ := vp_in_of g1 (by omega)
  have hix := hix.mpr g1
  have h2 : cOb a 2 q := Or.inl ⟨by decide, by omega⟩
  have hw2 := ok.1.2.1 q (by omega)
  by_cases g3 : mIn p2 0 3 = true
  case neg =>
    have g2 : mDelivery b (nI q) p2 = (0, mS b 0 2) := by unfold mDelivery; rw [if_pos hix, if_neg g3]
    have g4 := mIn_bad (bne_true g3)
    rw [show (3 : Int32).toInt = 3 by decide] at g4
    exact LO.thr j tn (k := 2) (fun f => x_delivery_A hsub ho hno hfr (nI q) p2 (t_delivery2 l D ty Ac hl tE el a h6 b1 hq h2 p2 g4) ⟨rfl, rfl, Nat.le_of_ble_eq_true rfl, Nat.le_of_ble_eq_true rfl⟩ (fun {s} hK => k6_recv hK h6)) (by have cm := c_mdelivery l D ty Am mo ad b (nI q) p2 wf cnt c59; rw [show mDelivery b (nI q) p2 = (0, mS b 0 2) from g2] at cm; exact cm) (fun _ => ⟨_, rfl, fun z => absurd z (by decide)⟩)
  have hm : ∀ w, mIn w 0 3 = true → mDelivery b (nI q) w = ((if w = 0 then gA b 16 (nI q) else if ¬ w = 1 then (if ¬ w = 2 then gA b 14 (nI q) else gA b 19 (nI q)) else gA b 18 (nI q)), mS b 0 0) := fun w hw => by unfold mDelivery; rw [if_pos hix, if_pos hw]
  rcases mIn_3 g3 with rfl | rfl | rfl | rfl
  ·
    exact LO.ok (g := fun f => vp_updL f 0 (cI a 2 6 q).toInt64) (fun f => w_delivery hsub ho hno hfr (nI q) 0 (k_delivery0 l D ty Ac tE el a h6 b1 hq h2) ⟨rfl, rfl, Nat.le_of_ble_eq_true rfl, Nat.le_of_ble_eq_true rfl⟩ (fun {s} hK => k6_recv hK h6) (fun H H1 h hq => hC_kept h (fun q hA _ => hq q (fun z => hno (z ▸ hA))))) hX_of (by have cm := c_mdelivery l D ty Am mo ad b (nI q) 0 wf cnt c59; rw [show mDelivery b (nI q) 0 = (cI a 2 6 q, mS b 0 0) from (by rw [hm 0 g3, if_pos rfl, gA_nI _ _ (by omega), show b.2.1 16 = a.2.1 2 6 from e (16, 2, 6) (by decide)])] at cm; exact cm) (pc_add (fun _ => Nat.le_refl _) (by decide) (by decide)) rfl (fun _ => ⟨_, rfl, fun _ => rfl⟩) (j.same (Nat.le_add_right _ _) 0) tn
  ·
    exact LO.ok (g := fun f => vp_updL f 0 (cI a 2 3 q).toInt64) (fun f => w_delivery hsub ho hno hfr (nI q) 1 (k_delivery1 l D ty Ac tE el a h6 b1 hq h2) ⟨rfl, rfl, Nat.le_of_ble_eq_true rfl, Nat.le_of_ble_eq_true rfl⟩ (fun {s} hK => k6_recv hK h6) (fun H H1 h hq => hC_kept h (fun q hA _ => hq q (fun z => hno (z ▸ hA))))) hX_of (by have cm := c_mdelivery l D ty Am mo ad b (nI q) 1 wf cnt c59; rw [show mDelivery b (nI q) 1 = (cI a 2 3 q, mS b 0 0) from (by rw [hm 1 g3, if_neg (by decide), if_neg (fun z => z rfl), gA_nI _ _ (by omega), show b.2.1 18 = a.2.1 2 3 from e (18, 2, 3) (by decide)])] at cm; exact cm) (pc_add (fun _ => Nat.le_refl _) (by decide) (by decide)) rfl (fun _ => ⟨_, rfl, fun _ => rfl⟩) (j.same (Nat.le_add_right _ _) 0) tn
  ·
    exact LO.ok (g := fun f => vp_updL f 0 (nI (kS a q)).toInt64) (fun f => w_delivery hsub ho hno hfr (nI q) 2 (by have k := k_delivery2 l D ty Ac tE el a h6 b1 hq h2 hw2.1 (Or.inl ⟨by decide, hw2.2⟩); rw [show cI a 4 0 (kS a q) = nI (kS a q) from no.1 _ (by omega)] at k; exact k) ⟨rfl, rfl, Nat.le_of_ble_eq_true rfl, Nat.le_of_ble_eq_true rfl⟩ (fun {s} hK => k6_recv hK h6) (fun H H1 h hq => hC_kept h (fun q hA _ => hq q (fun z => hno (z ▸ hA))))) hX_of (by have cm := c_mdelivery l D ty Am mo ad b (nI q) 2 wf cnt c59; rw [show mDelivery b (nI q) 2 = (nI (kS a q), mS b 0 0) from (by rw [hm 2 g3, if_neg (by decide), if_pos (by decide), if_neg (fun z => z rfl), gA_nI _ _ (by omega), show b.2.1 19 q = nI (kS a q) from ds q hq])] at cm; exact cm) (pc_add (fun _ => Nat.le_refl _) (by decide) (by decide)) rfl (fun _ => ⟨_, rfl, fun _ => rfl⟩) (j.same (Nat.le_add_right _ _) 0) tn
  ·
    exact LO.ok (g := fun f => vp_updL f 0 (cI a 2 1 q).toInt64) (fun f => w_delivery hsub ho hno hfr (nI q) 3 (k_delivery3 l D ty Ac tE el a h6 b1 hq h2) ⟨rfl, rfl, Nat.le_of_ble_eq_true rfl, Nat.le_of_ble_eq_true rfl⟩ (fun {s} hK => k6_recv hK h6) (fun H H1 h hq => hC_kept h (fun q hA _ => hq q (fun z => hno (z ▸ hA))))) hX_of (by have cm := c_mdelivery l D ty Am mo ad b (nI q) 3 wf cnt c59; rw [show mDelivery b (nI q) 3 = (cI a 2 1 q, mS b 0 0) from (by rw [hm 3 g3, if_neg (by decide), if_pos (by decide), if_pos (by decide), gA_nI _ _ (by omega), show b.2.1 14 = a.2.1 2 1 from e (14, 2, 1) (by decide)])] at cm; exact cm) (pc_add (fun _ => Nat.le_refl _) (by decide) (by decide)) rfl (fun _ => ⟨_, rfl, fun _ => rfl⟩) (j.same (Nat.le_add_right _ _) 0) tn
set_option maxHeartbeats 1000000 in
theorem o_ofContract {l : Launch} {D : va_G} {ty : Nat → ClassId} {tE o mo : Nat} {Ac Aw Am : Nat → Prop} {ad : Nat → Nat} {el : Nat → Nat → Nat} {a : CS} {b : MS} {T D0 : Nat} (ev : EV l Ac Aw o) (j : SJ T D0 a b) (tn : TN a) (hT : T < 600) (hD : D0 ≤ 90000) (p1 p2 : Int32) : LO relI l D ty tE o Ac Aw Am mo ad el a b T D0 yL_ofContract wsL_ofContract yX6_ofContract wsX6_ofContract rmX6_ofContract [.int p1, .int p2] [.ref o] := by
  obtain ⟨hsub, ho, hno, hfr, hl⟩ := ev
  obtain ⟨wf, cnt, c59⟩ := j.mf (by omega)
  have bd := j.bd
  obtain ⟨ci, e, sc, ct, ac, ow, gr, no, dl, ds, hd, pl, co, tw, -, hs, -⟩ := id j.2.2
  have h6 : cOb a 6 0 := Or.inr ⟨rfl, rfl⟩
  have h80 := ci.2.1.2
  have h06 := ci.2.2.1.2
  have h40 := ci.2.2.2.1.2
  have h30 := ci.2.2.2.2.2
  have e3 := ci.2.1.1
  have e4 := ci.2.2.1.1
  have e2 := ci.2.2.2.1.1
  have e1 := ci.2.2.2.2.1
  have b0 : cL a 0 < 2 ^ 31 := by omega
  have b1 : cL a 1 < 2 ^ 31 := by omega
  have b2 : cL a 2 < 2 ^ 31 := by omega
  have b3 : cL a 3 < 2 ^ 31 := by omega
  have ok := ci.1
  have hix := (j.2.2.ix p1).2.2.2
  by_cases g1 : vp_in p1 (cL a 3)
  case neg =>
    have g2 : mOfContract b p1 p2 = (0, mS b 0 1) := by unfold mOfContract; rw [if_neg (fun z => g1 (hix.mp z))]
    exact LO.thr j tn (k := 1) (fun f => x_ofContract_B hsub ho hno hfr p1 p2 (t_ofContract1 l D ty Ac hl tE el a h6 b3 p1 p2 g1) ⟨rfl, rfl, Nat.le_of_ble_eq_true rfl, Nat.le_of_ble_eq_true rfl⟩ (fun {s} hK => k6_recv hK h6)) (by have cm := c_mofContract l D ty Am mo ad b p1 p2 wf cnt c59; rw [show mOfContract b p1 p2 = (0, mS b 0 1) from g2] at cm; exact cm) (fun _ => ⟨_, rfl, fun z => absurd z (by decide)⟩)
  obtain ⟨q, hq, rfl⟩ := vp_in_of g1 (by omega)
  have hix := hix.mpr g1
  have h1 : cOb a 1 q := Or.inl ⟨by decide, by omega⟩
  by_cases g3 : mIn p2 0 3 = true
  case neg =>
    have g2 : mOfContract b (nI q) p2 = (0, mS b 0 2) := by unfold mOfContract; rw [if_pos hix, if_neg g3]
    have g4 := mIn_bad (bne_true g3)
    rw [show (3 : Int32).toInt = 3 by decide] at g4
    exact LO.thr j tn (k := 2) (fun f => x_ofContract_A hsub ho hno hfr (nI q) p2 (t_ofContract2 l D ty Ac hl tE el a h6 b3 hq h1 p2 g4) ⟨rfl, rfl, Nat.le_of_ble_eq_true rfl, Nat.le_of_ble_eq_true rfl⟩ (fun {s} hK => k6_recv hK h6)) (by have cm := c_mofContract l D ty Am mo ad b (nI q) p2 wf cnt c59; rw [show mOfContract b (nI q) p2 = (0, mS b 0 2) from g2] at cm; exact cm) (fun _ => ⟨_, rfl, fun z => absurd z (by decide)⟩)
  have hm : ∀ w, mIn w 0 3 = true → mOfContract b (nI q) w = ((if w = 0 then gA b 39 (nI q) else if ¬ w = 1 then (if ¬ w = 2 then gA b 43 (nI q) else gA b 42 (nI q)) else (if gA b 41 (nI q) = 0 then 0 else 1)), mS b 0 0) := fun w hw => by unfold mOfContract; rw [if_pos hix, if_pos hw]; rfl
  rcases mIn_3 g3 with rfl | rfl | rfl | rfl
  ·
    exact LO.ok (g := fun f => vp_updL f 0 (cI a 1 6 q).toInt64) (fun f => w_ofContract hsub ho hno hfr (nI q) 0 (k_ofContract0 l D ty Ac tE el a h6 b3 hq h1) ⟨rfl, rfl, Nat.le_of_ble_eq_true rfl, Nat.le_of_ble_eq_true rfl⟩ (fun {s} hK => k6_recv hK h6) (fun H H1 h hq => hC_kept h (fun q hA _ => hq q (fun z => hno (z ▸ hA))))) hX_of (by have cm := c_mofContract l D ty Am mo ad b (nI q) 0 wf cnt c59; rw [show mOfContract b (nI q) 0 = (cI a 1 6 q, mS b 0 0) from (by rw [hm 0 g3, if_pos rfl, gA_nI _ _ (by omega), show b.2.1 39 = a.2.1 1 6 from e (39, 1, 6) (by decide)])] at cm; exact cm) (pc_add (fun _ => Nat.le_refl _) (by decide) (by decide)) rfl (fun _ => ⟨_, rfl, fun _ => rfl⟩) (j.same (Nat.le_add_right _ _) 0) tn
  ·
    exact LO.ok (g := fun f => vp_updL f 0 ((if cI a 1 8 q = 0 then (0 : Int32) else 1)).toInt64) (fun f => w_ofContract hsub ho hno hfr (nI q) 1 (k_ofContract1 l D ty Ac tE el a h6 b3 hq h1) ⟨rfl, rfl, Nat.le_of_ble_eq_true rfl, Nat.le_of_ble_eq_true rfl⟩ (fun {s} hK => k6_recv hK h6) (fun H H1 h hq => hC_kept h (fun q hA _ => hq q (fun z => hno (z ▸ hA))))) hX_of (by have cm := c_mofContract l D ty Am mo ad b (nI q) 1 wf cnt c59; rw [show mOfContract b (nI q) 1 = ((if cI a 1 8 q = 0 then (0 : Int32) else 1), mS b 0 0) from (by rw [hm 1 g3, if_neg (by decide), if_neg (fun z => z rfl), gA_nI _ _ (by omega), show b.2.1 41 = a.2.1 1 8 from e (41, 1, 8) (by decide)])] at cm; exact cm) (pc_add (fun _ => Nat.le_refl _) (by decide) (by decide)) rfl (fun _ => ⟨_, rfl, fun _ => rfl⟩) (j.same (Nat.le_add_right _ _) 0) tn
  ·
    exact LO.ok (g := fun f => vp_updL f 0 (cI a 1 9 q).toInt64) (fun f => w_ofContract hsub ho hno hfr (nI q) 2 (k_ofContract2 l D ty Ac tE el a h6 b3 hq h1) ⟨rfl, rfl, Nat.le_of_ble_eq_true rfl, Nat.le_of_ble_eq_true rfl⟩ (fun {s} hK => k6_recv hK h6) (fun H H1 h hq => hC_kept h (fun q hA _ => hq q (fun z => hno (z ▸ hA))))) hX_of (by have cm := c_mofContract l D ty Am mo ad b (nI q) 2 wf cnt c59; rw [show mOfContract b (nI q) 2 = (cI a 1 9 q, mS b 0 0) from (by rw [hm 2 g3, if_neg (by decide), if_pos (by decide), if_neg (fun z => z rfl), gA_nI _ _ (by omega), show b.2.1 42 = a.2.1 1 9 from e (42, 1, 9) (by decide)])] at cm; exact cm) (pc_add (fun _ => Nat.le_refl _) (by decide) (by decide)) rfl (fun _ => ⟨_, rfl, fun _ => rfl⟩) (j.same (Nat.le_add_right _ _) 0) tn
  ·
    exact LO.ok (g := fun f => vp_updL f 0 (cI a 1 10 q).toInt64) (fun f => w_ofContract hsub ho hno hfr (nI q) 3 (k_ofContract3 l D ty Ac tE el a h6 b3 hq h1) ⟨rfl, rfl, Nat.le_of_ble_eq_true rfl, Nat.le_of_ble_eq_true rfl⟩ (fun {s} hK => k6_recv hK h6) (fun H H1 h hq => hC_kept h (fun q hA _ => hq q (fun z => hno (z ▸ hA))))) hX_of (by have cm := c_mofContract l D ty Am mo ad b (nI q) 3 wf cnt c59; rw [show mOfContract b (nI q) 3 = (cI a 1 10 q, mS b 0 0) from (by rw [hm 3 g3, if_neg (by decide), if_pos (by decide), if_pos (by decide), gA_nI _ _ (by omega), show b.2.1 43 = a.2.1 1 10 from e (43, 1, 10) (by decide)])] at cm; exact cm) (pc_add (fun _ => Nat.le_refl _) (by decide) (by decide)) rfl (fun _ => ⟨_, rfl, fun _ => rfl⟩) (j.same (Nat.le_add_right _ _) 0) tn
set_option maxHeartbeats 1000000 in
theorem o_ofSilo {l : Launch} {D : va_G} {ty : Nat → ClassId} {tE o mo : Nat} {Ac Aw Am : Nat → Prop} {ad : Nat → Nat} {el : Nat → Nat → Nat} {a : CS} {b : MS} {T D0 : Nat} (ev : EV l Ac Aw o) (j : SJ T D0 a b) (tn : TN a) (hT : T < 600) (hD : D0 ≤ 90000) (p1 p2 : Int32) : LO relI l D ty tE o Ac Aw Am mo ad el a b T D0 yL_ofSilo wsL_ofSilo yX6_ofSilo wsX6_ofSilo rmX6_ofSilo [.int p1, .int p2] [.ref o] := by
  obtain ⟨hsub, ho, hno, hfr, hl⟩ := ev
  obtain ⟨wf, cnt, c59⟩ := j.mf (by omega)
  have bd := j.bd
  obtain ⟨ci, e, sc, ct, ac, ow, gr, no, dl, ds, hd, pl, co, tw, -, hs, -⟩ := id j.2.2
  have h6 : cOb a 6 0 := Or.inr ⟨rfl, rfl⟩
  have h80 := ci.2.1.2
  have h06 := ci.2.2.1.2
  have h40 := ci.2.2.2.1.2
  have h30 := ci.2.2.2.2.2
  have e3 := ci.2.1.1
  have e4 := ci.2.2.1.1
  have e2 := ci.2.2.2.1.1
  have e1 := ci.2.2.2.2.1
  have b0 : cL a 0 < 2 ^ 31 := by omega
  have b1 : cL a 1 < 2 ^ 31 := by omega
  have b2 : cL a 2 < 2 ^ 31 := by omega
  have b3 : cL a 3 < 2 ^ 31 := by omega
  have ok := ci.1
  have hix := (j.2.2.ix p1).1
  by_cases g1 : vp_in p1 (cL a 0)
  case neg =>
    have g2 : mOfSilo b p1 p2 = (0, mS b 0 1) := by unfold mOfSilo; rw [if_neg (fun z => g1 (hix.mp z))]
    exact LO.thr j tn (k := 1) (fun f => x_ofSilo_B hsub ho hno hfr p1 p2 (t_ofSilo1 l D ty Ac hl tE el a h6 b0 p1 p2 g1) ⟨rfl, rfl, Nat.le_of_ble_eq_true rfl, Nat.le_of_ble_eq_true rfl⟩ (fun {s} hK => k6_recv hK h6)) (by have cm := c_mofSilo l D ty Am mo ad b p1 p2 wf cnt c59; rw [show mOfSilo b p1 p2 = (0, mS b 0 1) from g2] at cm; exact cm) (fun _ => ⟨_, rfl, fun z => absurd z (by decide)⟩)
  obtain ⟨q, hq, rfl⟩ := vp_in_of g1 (by omega)
  have hix := hix.mpr g1
  have h4 : cOb a 4 q := Or.inl ⟨by decide, by omega⟩
  by_cases g3 : mIn p2 0 3 = true
  case neg =>
    have g2 : mOfSilo b (nI q) p2 = (0, mS b 0 2) := by unfold mOfSilo; rw [if_pos hix, if_neg g3]
    have g4 := mIn_bad (bne_true g3)
    rw [show (3 : Int32).toInt = 3 by decide] at g4
    exact LO.thr j tn (k := 2) (fun f => x_ofSilo_A hsub ho hno hfr (nI q) p2 (t_ofSilo2 l D ty Ac hl tE el a h6 b0 hq h4 p2 g4) ⟨rfl, rfl, Nat.le_of_ble_eq_true rfl, Nat.le_of_ble_eq_true rfl⟩ (fun {s} hK => k6_recv hK h6)) (by have cm := c_mofSilo l D ty Am mo ad b (nI q) p2 wf cnt c59; rw [show mOfSilo b (nI q) p2 = (0, mS b 0 2) from g2] at cm; exact cm) (fun _ => ⟨_, rfl, fun z => absurd z (by decide)⟩)
  have hm : ∀ w, mIn w 0 3 = true → mOfSilo b (nI q) w = ((if w = 0 then gA b 9 (nI q) else if ¬ w = 3 then (if gA b 9 (nI q) = 0 then -1 else if ¬ w = 1 then gA b 11 (nI q) else gA b 10 (nI q)) else gA b 12 (nI q)), mS b 0 0) := fun w hw => by unfold mOfSilo; rw [if_pos hix, if_pos hw]; rfl
  have s9 : gA b 9 (nI q) = cI a 4 4 q := by rw [gA_nI _ _ (by omega), show b.2.1 9 = a.2.1 4 4 from e (9, 4, 4) (by decide)]
  have hz : ∀ (x y : Int32), (0 < cI a 4 4 q → x = y) → (if cI a 4 4 q ≤ 0 then (-1 : Int32) else y) = (if cI a 4 4 q = 0 then -1 else x) := fun x y hxy => by
    have hb := (j.2.2.sn.2).bd hs h80 hq
    rw [← show gA b 9 (nI q) = b.2.1 9 q from gA_nI _ _ (by omega), s9] at hb
    by_cases z : cI a 4 4 q = 0
    · rw [if_pos z, if_pos (by rw [z]; decide)]
    · have z2 : ¬ cI a 4 4 q ≤ 0 := fun y => z (by rw [i32_le, i32_0] at y; rw [i32_eq0]; omega)
      rw [if_neg z, if_neg z2, hxy (Int32.not_le.mp z2)]
  rcases mIn_3 g3 with rfl | rfl | rfl | rfl
  ·
    exact LO.ok (g := fun f => vp_updL f 0 (cI a 4 4 q).toInt64) (fun f => w_ofSilo hsub ho hno hfr (nI q) 0 (k_ofSilo0 l D ty Ac tE el a h6 b0 hq h4) ⟨rfl, rfl, Nat.le_of_ble_eq_true rfl, Nat.le_of_ble_eq_true rfl⟩ (fun {s} hK => k6_recv hK h6) (fun H H1 h hq => hC_kept h (fun q hA _ => hq q (fun z => hno (z ▸ hA))))) hX_of (by have cm := c_mofSilo l D ty Am mo ad b (nI q) 0 wf cnt c59; rw [show mOfSilo b (nI q) 0 = (cI a 4 4 q, mS b 0 0) from (by rw [hm 0 g3, if_pos rfl, s9])] at cm; exact cm) (pc_add (fun _ => Nat.le_refl _) (by decide) (by decide)) rfl (fun _ => ⟨_, rfl, fun _ => rfl⟩) (j.same (Nat.le_add_right _ _) 0) tn
  ·
    exact LO.ok (g := fun f => vp_updL f 0 ((if cI a 4 4 q ≤ 0 then (-1 : Int32) else cI a 4 2 q)).toInt64) (fun f => w_ofSilo hsub ho hno hfr (nI q) 1 (k_ofSilo1 l D ty Ac tE el a h6 b0 hq h4) ⟨rfl, rfl, Nat.le_of_ble_eq_true rfl, Nat.le_of_ble_eq_true rfl⟩ (fun {s} hK => k6_recv hK h6) (fun H H1 h hq => hC_kept h (fun q hA _ => hq q (fun z => hno (z ▸ hA))))) hX_of (by have cm := c_mofSilo l D ty Am mo ad b (nI q) 1 wf cnt c59; rw [show mOfSilo b (nI q) 1 = ((if cI a 4 4 q ≤ 0 then (-1 : Int32) else cI a 4 2 q), mS b 0 0) from (by rw [hm 1 g3, if_neg (by decide), if_pos (by decide), s9, if_neg (show ¬ ¬ (1 : Int32) = 1 from fun z => z rfl)]; rw [hz _ _ (fun z => (gr q z).1), gA_nI _ _ (by omega)])] at cm; exact cm) (pc_add (fun _ => Nat.le_refl _) (by decide) (by decide)) rfl (fun _ => ⟨_, rfl, fun _ => rfl⟩) (j.same (Nat.le_add_right _ _) 0) tn
  ·
    exact LO.ok (g := fun f => vp_updL f 0 ((if cI a 4 4 q ≤ 0 then (-1 : Int32) else cI a 4 3 q)).toInt64) (fun f => w_ofSilo hsub ho hno hfr (nI q) 2 (k_ofSilo2 l D ty Ac tE el a h6 b0 hq h4) ⟨rfl, rfl, Nat.le_of_ble_eq_true rfl, Nat.le_of_ble_eq_true rfl⟩ (fun {s} hK => k6_recv hK h6) (fun H H1 h hq => hC_kept h (fun q hA _ => hq q (fun z => hno (z ▸ hA))))) hX_of (by have cm := c_mofSilo l D ty Am mo ad b (nI q) 2 wf cnt c59; rw [show mOfSilo b (nI q) 2 = ((if cI a 4 4 q ≤ 0 then (-1 : Int32) else cI a 4 3 q), mS b 0 0) from (by rw [hm 2 g3, if_neg (by decide), if_pos (by decide), s9, if_pos (show ¬ (2 : Int32) = 1 by decide)]; rw [hz _ _ (fun z => (gr q z).2), gA_nI _ _ (by omega)])] at cm; exact cm) (pc_add (fun _ => Nat.le_refl _) (by decide) (by decide)) rfl (fun _ => ⟨_, rfl, fun _ => rfl⟩) (j.same (Nat.le_add_right _ _) 0) tn
  ·
    exact LO.ok (g := fun f => vp_updL f 0 (cI a 4 5 q).toInt64) (fun f => w_ofSilo hsub ho hno hfr (nI q) 3 (k_ofSilo3 l D ty Ac tE el a h6 b0 hq h4) ⟨rfl, rfl, Nat.le_of_ble_eq_true rfl, Nat.le_of_ble_eq_true rfl⟩ (fun {s} hK => k6_recv hK h6) (fun H H1 h hq => hC_kept h (fun q hA _ => hq q (fun z => hno (z ▸ hA))))) hX_of (by have cm := c_mofSilo l D ty Am mo ad b (nI q) 3 wf cnt c59; rw [show mOfSilo b (nI q) 3 = (cI a 4 5 q, mS b 0 0) from (by rw [hm 3 g3, if_neg (by decide), if_neg (fun z => z rfl), gA_nI _ _ (by omega), show b.2.1 12 = a.2.1 4 5 from e (12, 4, 5) (by decide)])] at cm; exact cm) (pc_add (fun _ => Nat.le_refl _) (by decide) (by decide)) rfl (fun _ => ⟨_, rfl, fun _ => rfl⟩) (j.same (Nat.le_add_right _ _) 0) tn
set_option maxHeartbeats 1000000 in
theorem o_contentAnew {l : Launch} {D : va_G} {ty : Nat → ClassId} {tE o mo : Nat} {Ac Aw Am : Nat → Prop} {ad : Nat → Nat} {el : Nat → Nat → Nat} {a : CS} {b : MS} {T D0 : Nat} (ev : EV l Ac Aw o) (j : SJ T D0 a b) (tn : TN a) (hT : T < 600) (hD : D0 ≤ 90000) (p1 : Int32) : LO relI l D ty tE o Ac Aw Am mo ad el a b T D0 yL_contentAnew wsL_contentAnew yX6_contentAnew wsX6_contentAnew rmX6_contentAnew [.int p1] [.ref o] := by
  obtain ⟨hsub, ho, hno, hfr, hl⟩ := ev
  obtain ⟨wf, cnt, c59⟩ := j.mf (by omega)
  have bd := j.bd
  obtain ⟨ci, e, sc, ct, ac, ow, gr, no, dl, ds, hd, pl, co, tw, -, hs, -⟩ := id j.2.2
  have h6 : cOb a 6 0 := Or.inr ⟨rfl, rfl⟩
  have h80 := ci.2.1.2
  have h06 := ci.2.2.1.2
  have h40 := ci.2.2.2.1.2
  have h30 := ci.2.2.2.2.2
  have e3 := ci.2.1.1
  have e4 := ci.2.2.1.1
  have e2 := ci.2.2.2.1.1
  have e1 := ci.2.2.2.2.1
  have b0 : cL a 0 < 2 ^ 31 := by omega
  have b1 : cL a 1 < 2 ^ 31 := by omega
  have b2 : cL a 2 < 2 ^ 31 := by omega
  have b3 : cL a 3 < 2 ^ 31 := by omega
  have ok := ci.1
  have hix := (j.2.2.ix p1).1
  by_cases g1 : vp_in p1 (cL a 0)
  case neg =>
    have g2 : mContentAnew b p1 = (0, mS b 0 1) := by unfold mContentAnew; rw [if_neg (fun z => g1 (hix.mp z))]
    exact LO.thr j tn (k := 1) (fun f => x_contentAnew_B hsub ho hno hfr p1 (t_contentAnew l D ty Ac hl tE el a h6 b0 p1 g1) ⟨rfl, rfl, Nat.le_of_ble_eq_true rfl, Nat.le_of_ble_eq_true rfl⟩ (fun {s} hK => k6_recv hK h6)) (by have cm := c_mcontentAnew l D ty Am mo ad b p1 wf cnt c59; rw [show mContentAnew b p1 = (0, mS b 0 1) from g2] at cm; exact cm) (fun _ => ⟨_, rfl, fun z => absurd z (by decide)⟩)
  obtain ⟨q, hq, rfl⟩ := vp_in_of g1 (by omega)
  have hix := hix.mpr g1
  have h4 : cOb a 4 q := Or.inl ⟨by decide, by omega⟩
  have hm : mContentAnew b (nI q) = (kContentAnew a q, mS b 0 0) := by
    unfold mContentAnew kContentAnew
    rw [if_pos hix, mSumF_last, show gS b 20 = nI (cL a 2) from ct.2.2.1, nI_clamp (by omega)]
    refine Prod.ext (mLastF_congr _ _ _ (fun r w _ hr => ?_)) rfl
    have r0 := j.2.2.rcp (q := r) (by omega)
    have hk : kS a (kD a r) < cN a 4 := (ok.1.2.1 _ (ok.1.1 r (by omega)).2.1).2
    show w + (if ¬ gA b 23 (nI r) = nI q then 0 else gA b 21 (nI r)) = if kLiveIn a q r = true then w + cI a 3 3 r else w
    rw [r0.1, r0.2.2.2.1]
    unfold kLiveIn
    by_cases z : kS a (kD a r) = q
    · rw [z, if_neg (fun y => y rfl), decide_eq_true (rfl : q = q), Bool.and_true]
      by_cases z2 : 0 < cI a 3 3 r
      · rw [if_pos (decide_eq_true z2)]
      · rw [if_neg (by rw [decide_eq_false z2]; decide)]
        have z3 : cI a 3 3 r = 0 := by
          rw [i32_lt, i32_0] at z2
          rw [i32_eq0]
          have := r0.2.2.2.2.2.2
          omega
        rw [z3, Int32.add_zero]
    · rw [if_pos (fun y => z ((nI_eq (by omega) (by omega)).mp y)), decide_eq_false z, Bool.and_false, if_neg (by decide), Int32.add_zero]
  exact LO.ok (g := fun f => vp_updL f 0 (kContentAnew a q).toInt64) (fun f => w_contentAnew hsub ho hno hfr (nI q) (k_contentAnew l D ty Ac tE el a h6 ok.1 b2 b0 hq h4) ⟨rfl, rfl, Nat.le_of_ble_eq_true rfl, Nat.le_of_ble_eq_true rfl⟩ (fun {s} hK => k6_recv hK h6) (fun H H1 h hq => hC_kept h (fun q hA _ => hq q (fun z => hno (z ▸ hA))))) hX_of (by have cm := c_mcontentAnew l D ty Am mo ad b (nI q) wf cnt c59; rw [show mContentAnew b (nI q) = (kContentAnew a q, mS b 0 0) from hm] at cm; exact cm) (pc_add (fun _ => Nat.le_refl _) (by decide) (by decide)) rfl (fun _ => ⟨_, rfl, fun _ => rfl⟩) (j.same (Nat.le_add_right _ _) 0) tn
set_option maxHeartbeats 1000000 in
theorem o_account {l : Launch} {D : va_G} {ty : Nat → ClassId} {tE o mo : Nat} {Ac Aw Am : Nat → Prop} {ad : Nat → Nat} {el : Nat → Nat → Nat} {a : CS} {b : MS} {T D0 : Nat} (ev : EV l Ac Aw o) (j : SJ T D0 a b) (tn : TN a) (hT : T < 600) (hD : D0 ≤ 90000) (p1 : Int32) : LO relL l D ty tE o Ac Aw Am mo ad el a b T D0 yL_account wsL_account yX6_account wsX6_account rmX6_account [.int p1] [.ref o] := by
  obtain ⟨hsub, ho, hno, hfr, hl⟩ := ev
  obtain ⟨wf, cnt, c59⟩ := j.mf (by omega)
  have bd := j.bd
  obtain ⟨ci, e, sc, ct, ac, ow, gr, no, dl, ds, hd, pl, co, tw, -, hs, -⟩ := id j.2.2
  have h6 : cOb a 6 0 := Or.inr ⟨rfl, rfl⟩
  have h80 := ci.2.1.2
  have h06 := ci.2.2.1.2
  have h40 := ci.2.2.2.1.2
  have h30 := ci.2.2.2.2.2
  have e3 := ci.2.1.1
  have e4 := ci.2.2.1.1
  have e2 := ci.2.2.2.1.1
  have e1 := ci.2.2.2.2.1
  have b0 : cL a 0 < 2 ^ 31 := by omega
  have b1 : cL a 1 < 2 ^ 31 := by omega
  have b2 : cL a 2 < 2 ^ 31 := by omega
  have b3 : cL a 3 < 2 ^ 31 := by omega
  have ok := ci.1
  by_cases g1 : vp_in p1 6
  case neg =>
    have g2 : mAccount b p1 = (0, mS b 0 1) := by unfold mAccount; rw [if_neg (fun z => g1 (mIn_v6.mp z))]
    exact LO.thr j tn (k := 1) (fun f => x_account_B hsub ho hno hfr p1 (t_account l D ty Ac hl tE el a h6 p1 g1) ⟨rfl, rfl, Nat.le_of_ble_eq_true rfl, Nat.le_of_ble_eq_true rfl⟩ (fun {s} hK => k6_recv hK h6)) (by have cm := c_maccount l D ty Am mo ad b p1 wf cnt c59; rw [show mAccount b p1 = (0, mS b 0 1) from g2] at cm; exact cm) (fun _ => ⟨_, rfl, fun z => absurd z (by decide)⟩)
  have hm : mAccount b p1 = ((cA a p1.toNatClampNeg), mS b 0 0) := by
    unfold mAccount
    rw [if_pos (mIn_v6.mpr g1)]
    refine Prod.ext ?_ rfl
    show b.2.2 p1.toNatClampNeg = a.2.2.2.1 p1.toNatClampNeg
    rw [ac]
  exact LO.ok (g := fun f => vp_updL f 0 (cA a p1.toNatClampNeg)) (fun f => w_account hsub ho hno hfr p1 (k_account l D ty Ac tE el a h6 p1 g1) ⟨rfl, rfl, Nat.le_of_ble_eq_true rfl, Nat.le_of_ble_eq_true rfl⟩ (fun {s} hK => k6_recv hK h6) (fun H H1 h hq => hC_kept h (fun q hA _ => hq q (fun z => hno (z ▸ hA))))) hX_of (by have cm := c_maccount l D ty Am mo ad b p1 wf cnt c59; rw [show mAccount b p1 = ((cA a p1.toNatClampNeg), mS b 0 0) from hm] at cm; exact cm) (pc_add (fun _ => Nat.le_refl _) (by decide) (by decide)) rfl (fun _ => ⟨_, rfl, fun _ => rfl⟩) (j.same (Nat.le_add_right _ _) 0) tn
set_option maxHeartbeats 1000000 in
theorem o_owes {l : Launch} {D : va_G} {ty : Nat → ClassId} {tE o mo : Nat} {Ac Aw Am : Nat → Prop} {ad : Nat → Nat} {el : Nat → Nat → Nat} {a : CS} {b : MS} {T D0 : Nat} (ev : EV l Ac Aw o) (j : SJ T D0 a b) (tn : TN a) (hT : T < 600) (hD : D0 ≤ 90000) (p1 : Int32) : LO relI l D ty tE o Ac Aw Am mo ad el a b T D0 yL_owes wsL_owes yX6_owes wsX6_owes rmX6_owes [.int p1] [.ref o] := by
  obtain ⟨hsub, ho, hno, hfr, hl⟩ := ev
  obtain ⟨wf, cnt, c59⟩ := j.mf (by omega)
  have bd := j.bd
  obtain ⟨ci, e, sc, ct, ac, ow, gr, no, dl, ds, hd, pl, co, tw, -, hs, -⟩ := id j.2.2
  have h6 : cOb a 6 0 := Or.inr ⟨rfl, rfl⟩
  have h80 := ci.2.1.2
  have h06 := ci.2.2.1.2
  have h40 := ci.2.2.2.1.2
  have h30 := ci.2.2.2.2.2
  have e3 := ci.2.1.1
  have e4 := ci.2.2.1.1
  have e2 := ci.2.2.2.1.1
  have e1 := ci.2.2.2.2.1
  have b0 : cL a 0 < 2 ^ 31 := by omega
  have b1 : cL a 1 < 2 ^ 31 := by omega
  have b2 : cL a 2 < 2 ^ 31 := by omega
  have b3 : cL a 3 < 2 ^ 31 := by omega
  have ok := ci.1
  by_cases g1 : vp_in p1 6
  case neg =>
    have g2 : mOwes b p1 = (0, mS b 0 1) := by unfold mOwes; rw [if_neg (fun z => g1 (mIn_v6.mp z))]
    exact LO.thr j tn (k := 1) (fun f => x_owes_B hsub ho hno hfr p1 (t_owes l D ty Ac hl tE el a h6 p1 g1) ⟨rfl, rfl, Nat.le_of_ble_eq_true rfl, Nat.le_of_ble_eq_true rfl⟩ (fun {s} hK => k6_recv hK h6)) (by have cm := c_mowes l D ty Am mo ad b p1 wf cnt c59; rw [show mOwes b p1 = (0, mS b 0 1) from g2] at cm; exact cm) (fun _ => ⟨_, rfl, fun z => absurd z (by decide)⟩)
  have hm : mOwes b p1 = (cO a p1.toNatClampNeg, mS b 0 0) := by
    unfold mOwes
    rw [if_pos (mIn_v6.mpr g1)]
    refine Prod.ext ?_ rfl
    show b.2.1 6 p1.toNatClampNeg = a.2.2.2.2.1 p1.toNatClampNeg
    rw [ow]
  exact LO.ok (g := fun f => vp_updL f 0 (cO a p1.toNatClampNeg).toInt64) (fun f => w_owes hsub ho hno hfr p1 (k_owes l D ty Ac tE el a h6 p1 g1) ⟨rfl, rfl, Nat.le_of_ble_eq_true rfl, Nat.le_of_ble_eq_true rfl⟩ (fun {s} hK => k6_recv hK h6) (fun H H1 h hq => hC_kept h (fun q hA _ => hq q (fun z => hno (z ▸ hA))))) hX_of (by have cm := c_mowes l D ty Am mo ad b p1 wf cnt c59; rw [show mOwes b p1 = (cO a p1.toNatClampNeg, mS b 0 0) from hm] at cm; exact cm) (pc_add (fun _ => Nat.le_refl _) (by decide) (by decide)) rfl (fun _ => ⟨_, rfl, fun _ => rfl⟩) (j.same (Nat.le_add_right _ _) 0) tn
set_option maxHeartbeats 1000000 in
theorem o_holds {l : Launch} {D : va_G} {ty : Nat → ClassId} {tE o mo : Nat} {Ac Aw Am : Nat → Prop} {ad : Nat → Nat} {el : Nat → Nat → Nat} {a : CS} {b : MS} {T D0 : Nat} (ev : EV l Ac Aw o) (j : SJ T D0 a b) (tn : TN a) (hT : T < 600) (hD : D0 ≤ 90000) (p1 p2 p3 : Int32) : LO relI l D ty tE o Ac Aw Am mo ad el a b T D0 yL_holds wsL_holds yX6_holds wsX6_holds rmX6_holds [.int p1, .int p2, .int p3] [.ref o] := by
  obtain ⟨hsub, ho, hno, hfr, hl⟩ := ev
  obtain ⟨wf, cnt, c59⟩ := j.mf (by omega)
  have bd := j.bd
  obtain ⟨ci, e, sc, ct, ac, ow, gr, no, dl, ds, hd, pl, co, tw, -, hs, -⟩ := id j.2.2
  have h6 : cOb a 6 0 := Or.inr ⟨rfl, rfl⟩
  have h80 := ci.2.1.2
  have h06 := ci.2.2.1.2
  have h40 := ci.2.2.2.1.2
  have h30 := ci.2.2.2.2.2
  have e3 := ci.2.1.1
  have e4 := ci.2.2.1.1
  have e2 := ci.2.2.2.1.1
  have e1 := ci.2.2.2.2.1
  have b0 : cL a 0 < 2 ^ 31 := by omega
  have b1 : cL a 1 < 2 ^ 31 := by omega
  have b2 : cL a 2 < 2 ^ 31 := by omega
  have b3 : cL a 3 < 2 ^ 31 := by omega
  have ok := ci.1
  by_cases g1 : vp_in p1 6
  case neg =>
    have g2 : mHolds b p1 p2 p3 = (0, mS b 0 1) := by unfold mHolds; rw [if_neg (fun z => g1 (mIn_v6.mp z))]
    exact LO.thr j tn (k := 1) (fun f => x_holds_B hsub ho hno hfr p1 p2 p3 (t_holds1 l D ty Ac hl tE el a h6 p1 p2 p3 g1) ⟨rfl, rfl, Nat.le_of_ble_eq_true rfl, Nat.le_of_ble_eq_true rfl⟩ (fun {s} hK => k6_recv hK h6)) (by have cm := c_mholds l D ty Am mo ad b p1 p2 p3 wf cnt c59; rw [show mHolds b p1 p2 p3 = (0, mS b 0 1) from g2] at cm; exact cm) (fun _ => ⟨_, rfl, fun z => absurd z (by decide)⟩)
  by_cases g3 : mIn p2 0 2 = true
  case neg =>
    have g2 : mHolds b p1 p2 p3 = (0, mS b 0 2) := by unfold mHolds; rw [if_pos (mIn_v6.mpr g1), if_neg g3]
    exact LO.thr j tn (k := 2) (fun f => x_holds_A hsub ho hno hfr p1 p2 p3 (t_holds20 l D ty Ac hl tE el a h6 p1 p2 p3 g1 (bne_true g3)) ⟨rfl, rfl, Nat.le_of_ble_eq_true rfl, Nat.le_of_ble_eq_true rfl⟩ (fun {s} hK => k6_recv hK h6)) (by have cm := c_mholds l D ty Am mo ad b p1 p2 p3 wf cnt c59; rw [show mHolds b p1 p2 p3 = (0, mS b 0 2) from g2] at cm; exact cm) (fun _ => ⟨_, rfl, fun z => absurd z (by decide)⟩)
  by_cases g4 : mIn p3 0 2 = true
  case neg =>
    have g2 : mHolds b p1 p2 p3 = (0, mS b 0 2) := by unfold mHolds; rw [if_pos (mIn_v6.mpr g1), if_pos g3, if_neg g4]
    exact LO.thr j tn (k := 2) (fun f => x_holds_A hsub ho hno hfr p1 p2 p3 (t_holds21 l D ty Ac hl tE el a h6 p1 p2 p3 g1 g3 (bne_true g4)) ⟨rfl, rfl, Nat.le_of_ble_eq_true rfl, Nat.le_of_ble_eq_true rfl⟩ (fun {s} hK => k6_recv hK h6)) (by have cm := c_mholds l D ty Am mo ad b p1 p2 p3 wf cnt c59; rw [show mHolds b p1 p2 p3 = (0, mS b 0 2) from g2] at cm; exact cm) (fun _ => ⟨_, rfl, fun z => absurd z (by decide)⟩)
  have hm : mHolds b p1 p2 p3 = (kHolds a p1 p2 p3, mS b 0 0) := by
    unfold mHolds kHolds
    rw [if_pos (mIn_v6.mpr g1), if_pos g3, if_pos g4, mSumF_last, show gS b 20 = nI (cL a 2) from ct.2.2.1, nI_clamp (by omega)]
    refine Prod.ext (mLastF_congr _ _ _ (fun r w _ hr => ?_)) rfl
    have r0 := j.2.2.rcp (q := r) (by omega)
    have hk : kS a (kD a r) < cN a 4 := (ok.1.2.1 _ (ok.1.1 r (by omega)).2.1).2
    have hio := j.2.2.isOf (by decide) (s := kS a (kD a r)) (by omega) p2 p3
    show w + (if ¬ gA b 22 (nI r) = p1 then 0 else if mIsOf b (gA b 23 (nI r)) p2 p3 = true then gA b 21 (nI r) else 0) = if kLiveOf a p1 p2 p3 r = true then w + cI a 3 3 r else w
    rw [r0.1, r0.2.2.1, r0.2.2.2.1, hio]
    unfold kLiveOf
    by_cases z : cI a 5 2 (kT a r) = p1
    · rw [if_neg (fun y => y z), decide_eq_true z, Bool.true_and]
      cases kIsOf a (kS a (kD a r)) p2 p3 with
      | false => rw [if_neg (by decide), Bool.and_false, if_neg (by decide), Int32.add_zero]
      | true =>
        rw [if_pos rfl, Bool.and_true]
        by_cases z2 : 0 < cI a 3 3 r
        · rw [if_pos (decide_eq_true z2)]
        · rw [if_neg (by rw [decide_eq_false z2]; decide)]
          have z3 : cI a 3 3 r = 0 := by
            rw [i32_lt, i32_0] at z2
            rw [i32_eq0]
            have := r0.2.2.2.2.2.2
            omega
          rw [z3, Int32.add_zero]
    · rw [if_pos z, decide_eq_false z, Bool.false_and, Bool.and_false, if_neg (by decide), Int32.add_zero]
  exact LO.ok (g := fun f => vp_updL f 0 (kHolds a p1 p2 p3).toInt64) (fun f => w_holds hsub ho hno hfr p1 p2 p3 (k_holds l D ty Ac tE el a h6 ok.1 b2 p1 p2 p3 g1 g3 g4) ⟨rfl, rfl, Nat.le_of_ble_eq_true rfl, Nat.le_of_ble_eq_true rfl⟩ (fun {s} hK => k6_recv hK h6) (fun H H1 h hq => hC_kept h (fun q hA _ => hq q (fun z => hno (z ▸ hA))))) hX_of (by have cm := c_mholds l D ty Am mo ad b p1 p2 p3 wf cnt c59; rw [show mHolds b p1 p2 p3 = (kHolds a p1 p2 p3, mS b 0 0) from hm] at cm; exact cm) (pc_add (fun _ => Nat.le_refl _) (by decide) (by decide)) rfl (fun _ => ⟨_, rfl, fun _ => rfl⟩) (j.same (Nat.le_add_right _ _) 0) tn
set_option maxHeartbeats 1000000 in
theorem o_ownerOn {l : Launch} {D : va_G} {ty : Nat → ClassId} {tE o mo : Nat} {Ac Aw Am : Nat → Prop} {ad : Nat → Nat} {el : Nat → Nat → Nat} {a : CS} {b : MS} {T D0 : Nat} (ev : EV l Ac Aw o) (j : SJ T D0 a b) (tn : TN a) (hT : T < 600) (hD : D0 ≤ 90000) (p1 p2 : Int32) : LO relI l D ty tE o Ac Aw Am mo ad el a b T D0 yL_ownerOn wsL_ownerOn yX6_ownerOn wsX6_ownerOn rmX6_ownerOn [.int p1, .int p2] [.ref o] := by
  obtain ⟨hsub, ho, hno, hfr, hl⟩ := ev
  obtain ⟨wf, cnt, c59⟩ := j.mf (by omega)
  have bd := j.bd
  obtain ⟨ci, e, sc, ct, ac, ow, gr, no, dl, ds, hd, pl, co, tw, -, hs, -⟩ := id j.2.2
  have h6 : cOb a 6 0 := Or.inr ⟨rfl, rfl⟩
  have h80 := ci.2.1.2
  have h06 := ci.2.2.1.2
  have h40 := ci.2.2.2.1.2
  have h30 := ci.2.2.2.2.2
  have e3 := ci.2.1.1
  have e4 := ci.2.2.1.1
  have e2 := ci.2.2.2.1.1
  have e1 := ci.2.2.2.2.1
  have b0 : cL a 0 < 2 ^ 31 := by omega
  have b1 : cL a 1 < 2 ^ 31 := by omega
  have b2 : cL a 2 < 2 ^ 31 := by omega
  have b3 : cL a 3 < 2 ^ 31 := by omega
  have ok := ci.1
  have hix := (j.2.2.ix p1).2.2.1
  by_cases g1 : vp_in p1 (cL a 2)
  case neg =>
    have g2 : mOwnerOn b p1 p2 = (0, mS b 0 1) := by unfold mOwnerOn; rw [if_neg (fun z => g1 (hix.mp z))]
    exact LO.thr j tn (k := 1) (fun f => x_ownerOn_B hsub ho hno hfr p1 p2 (t_ownerOn1 l D ty Ac hl tE el a h6 b2 p1 p2 g1) ⟨rfl, rfl, Nat.le_of_ble_eq_true rfl, Nat.le_of_ble_eq_true rfl⟩ (fun {s} hK => k6_recv hK h6)) (by have cm := c_mownerOn l D ty Am mo ad b p1 p2 wf cnt c59; rw [show mOwnerOn b p1 p2 = (0, mS b 0 1) from g2] at cm; exact cm) (fun _ => ⟨_, rfl, fun z => absurd z (by decide)⟩)
  obtain ⟨q, hq, rfl⟩ := vp_in_of g1 (by omega)
  have hix := hix.mpr g1
  have h3 : cOb a 3 q := Or.inl ⟨by decide, by omega⟩
  have hw3 := ok.1.1 q (by omega)
  have h2 : cOb a 2 (kD a q) := Or.inl ⟨by decide, hw3.2.1⟩
  have h5 : cOb a 5 (kT a q) := Or.inl ⟨by decide, hw3.2.2.2⟩
  have hw2 := ok.1.2.1 _ hw3.2.1
  have h4 : cOb a 4 (kS a (kD a q)) := Or.inl ⟨by decide, hw2.2⟩
  have g1s : gS b 1 = cI a 6 9 0 := sc.1
  by_cases g3 : mIn p2 0 (cI a 6 9 0) = true
  case neg =>
    have g2 : mOwnerOn b (nI q) p2 = (0, mS b 0 2) := by unfold mOwnerOn; rw [if_pos hix, g1s, if_neg g3]
    exact LO.thr j tn (k := 2) (fun f => x_ownerOn_A hsub ho hno hfr (nI q) p2 (t_ownerOn2 l D ty Ac hl tE el a h6 b2 hq h3 p2 (bne_true g3)) ⟨rfl, rfl, Nat.le_of_ble_eq_true rfl, Nat.le_of_ble_eq_true rfl⟩ (fun {s} hK => k6_recv hK h6)) (by have cm := c_mownerOn l D ty Am mo ad b (nI q) p2 wf cnt c59; rw [show mOwnerOn b (nI q) p2 = (0, mS b 0 2) from g2] at cm; exact cm) (fun _ => ⟨_, rfl, fun z => absurd z (by decide)⟩)
  have hm : mOwnerOn b (nI q) p2 = (kOwn a p2 (kT a q), mS b 0 0) := by
    unfold mOwnerOn
    rw [if_pos hix, g1s, if_pos g3, tw.2.2 q (by omega) p2]
    unfold mOwn
    refine Prod.ext ?_ rfl
    show mLastF _ 0 (gS b 29).toNatClampNeg (-1) = mLastF _ 0 (b.1 29).toNatClampNeg (-1)
    have h59 : (gS b 29).toNatClampNeg < 5900 := by
      have := vin_toInt c59
      have h9 : (gS b 29).toNatClampNeg = (gS b 29).toInt.toNat := rfl
      omega
    refine mLastF_congr _ _ _ (fun i w _ hi => ?_)
    unfold mOwnF
    show (if ¬ gA b 30 (nI i) = nI q then w else if p2 < gA b 31 (nI i) then w else gA b 32 (nI i)) = _
    rw [gA_nI _ _ (by omega), gA_nI _ _ (by omega), gA_nI _ _ (by omega)]
  exact LO.ok (g := fun f => vp_updL f 0 (kOwn a p2 (kT a q)).toInt64) (fun f => w_ownerOn hsub ho hno hfr (nI q) p2 (k_ownerOn l D ty Ac tE el a h6 b2 hq h3 p2 g3 hw3.2.2.1 hw3.2.2.2 tw.1) ⟨rfl, rfl, Nat.le_of_ble_eq_true rfl, Nat.le_of_ble_eq_true rfl⟩ (fun {s} hK => k6_recv hK h6) (fun H H1 h hq => hC_kept h (fun q hA _ => hq q (fun z => hno (z ▸ hA))))) hX_of (by have cm := c_mownerOn l D ty Am mo ad b (nI q) p2 wf cnt c59; rw [show mOwnerOn b (nI q) p2 = (kOwn a p2 (kT a q), mS b 0 0) from hm] at cm; exact cm) (pc_add (fun _ => Nat.le_refl _) (by decide) (by decide)) rfl (fun _ => ⟨_, rfl, fun _ => rfl⟩) (j.same (Nat.le_add_right _ _) 0) tn
