/-! each call, on both sides and in the machine -/
set_option maxHeartbeats 1000000 in
theorem o_silo {l : Launch} {D : va_G} {ty : Nat → ClassId} {tE o mo : Nat} {Ac Aw Am : Nat → Prop} {ad : Nat → Nat} {el : Nat → Nat → Nat} {a : CS} {b : MS} {T D0 : Nat} (ev : EV l Ac Aw o) (j : SJ T D0 a b) (tn : TN a) (hT : T < 600) (hD : D0 ≤ 90000) (p1 : Int32) : LO relI l D ty tE o Ac Aw Am mo ad el a b T D0 yL_silo wsL_silo yX6_silo wsX6_silo rmX6_silo [.int p1] [.ref o] := by
  obtain ⟨hsub, ho, hno, hfr, hl⟩ := ev
  obtain ⟨wf, cnt, c59⟩ := j.mf (by omega)
  have bd := j.bd
  obtain ⟨ci, e, sc, ct, ac, ow, gr, no, dl, ds, hd, pl, co, tw, -, hs, -⟩ := id j.2.2
  have h6 : cOb a 6 0 := Or.inr ⟨rfl, rfl⟩
  have h80 := ci.2.1.2
  have h06 := ci.2.2.1.2
  have h40 := ci.2.2.2.1.2
  have h30 := ci.2.2.2.2.2
  have e3 := ci.2.1.1
  have e4 := ci.2.2.1.1
  have e2 := ci.2.2.2.1.1
  have e1 := ci.2.2.2.2.1
  have b0 : cL a 0 < 2 ^ 31 := by omega
  have b1 : cL a 1 < 2 ^ 31 := by omega
  have b2 : cL a 2 < 2 ^ 31 := by omega
  have b3 : cL a 3 < 2 ^ 31 := by omega
  have ok := ci.1
  rcases p_silo j.2.2 p1 with ⟨h1, h2⟩ | ⟨h1, ⟨h2, h3⟩ | ⟨h2, h3⟩⟩
  ·
    exact LO.thr j tn (k := 1) (fun f => x_silo_A hsub ho hno hfr p1 (t_silo1 l D ty Ac hl tE el a p1 h1) ⟨rfl, rfl, Nat.le_of_ble_eq_true rfl, Nat.le_of_ble_eq_true rfl⟩ (fun {s} hK => k6_recv hK h6)) (by have cm := c_msilo l D ty Am mo ad b p1 wf cnt c59; rw [show mSilo b p1 = (0, mS b 0 1) from h2] at cm; exact cm) (fun _ => ⟨_, rfl, fun z => absurd z (by decide)⟩)
  ·
    exact LO.thr j tn (k := 2) (fun f => x_silo_S hsub ho hno hfr p1 (t_silo2 l D ty Ac hl tE el a p1 h1 (by omega) (by omega)) ⟨rfl, rfl, Nat.le_of_ble_eq_true rfl, Nat.le_of_ble_eq_true rfl⟩ (fun {s} hK => k6_recv hK h6)) (by have cm := c_msilo l D ty Am mo ad b p1 wf cnt c59; rw [show mSilo b p1 = (0, mS b 0 2) from h3] at cm; exact cm) (fun _ => ⟨_, rfl, fun z => absurd z (by decide)⟩)
  ·
    exact LO.ok (g := fun f => vp_updL f 0 (nI (cL a 0)).toInt64) (fun f => w_silo hsub ho hno hfr p1 (k_silo l D ty Ac tE el a ok.2 p1 h1 h2 e4) ⟨rfl, rfl, Nat.le_of_ble_eq_true rfl, Nat.le_of_ble_eq_true rfl⟩ (fun {s} hK => k6_recv hK h6) (fun H H1 h hq => hX_kept h (fun q hA _ => hq q (fun z => hno (z ▸ hA))))) (fun _ h => h) (by have cm := c_msilo l D ty Am mo ad b p1 wf cnt c59; rw [show (mSilo b p1).1 = nI (cL a 0) from h3.1] at cm; exact cm) (pc_add (fun t => cNew_le 4 t) (by decide) (by decide)) h3.2.1 (fun _ => ⟨_, rfl, fun _ => rfl⟩) (j.step (kp_silo a p1) (Nat.le_add_right _ _) (h3.2.2.mono (by omega))) (kt_silo a p1 tn)
set_option maxHeartbeats 1000000 in
theorem o_terms {l : Launch} {D : va_G} {ty : Nat → ClassId} {tE o mo : Nat} {Ac Aw Am : Nat → Prop} {ad : Nat → Nat} {el : Nat → Nat → Nat} {a : CS} {b : MS} {T D0 : Nat} (ev : EV l Ac Aw o) (j : SJ T D0 a b) (tn : TN a) (hT : T < 600) (hD : D0 ≤ 90000) (p1 p2 p3 : Int32) : LO relV l D ty tE o Ac Aw Am mo ad el a b T D0 yL_terms wsL_terms yX6_terms wsX6_terms rmX6_terms [.int p1, .int p2, .int p3] [] := by
  obtain ⟨hsub, ho, hno, hfr, hl⟩ := ev
  obtain ⟨wf, cnt, c59⟩ := j.mf (by omega)
  have bd := j.bd
  obtain ⟨ci, e, sc, ct, ac, ow, gr, no, dl, ds, hd, pl, co, tw, -, hs, -⟩ := id j.2.2
  have h6 : cOb a 6 0 := Or.inr ⟨rfl, rfl⟩
  have h80 := ci.2.1.2
  have h06 := ci.2.2.1.2
  have h40 := ci.2.2.2.1.2
  have h30 := ci.2.2.2.2.2
  have e3 := ci.2.1.1
  have e4 := ci.2.2.1.1
  have e2 := ci.2.2.2.1.1
  have e1 := ci.2.2.2.2.1
  have b0 : cL a 0 < 2 ^ 31 := by omega
  have b1 : cL a 1 < 2 ^ 31 := by omega
  have b2 : cL a 2 < 2 ^ 31 := by omega
  have b3 : cL a 3 < 2 ^ 31 := by omega
  have ok := ci.1
  have cm := c_mterms l D ty Am mo ad b p1 p2 p3 wf cnt c59
  rcases p_terms j.2.2 p1 p2 p3 with ⟨h1 | ⟨h0, h1⟩ | ⟨h0, h9, h1⟩, h2⟩ | ⟨⟨h1, h2, h3⟩, h4, h5⟩
  · rw [h2] at cm
    exact LO.thr j tn (k := 1) (fun f => x_terms_A hsub ho hno hfr p1 p2 p3 (t_terms0 l D ty Ac hl tE el a h6 p1 p2 p3 h1) ⟨rfl, rfl, Nat.le_of_ble_eq_true rfl, Nat.le_of_ble_eq_true rfl⟩ (fun {s} hK => k6_recv hK h6)) cm (fun _ => rfl)
  · rw [h2] at cm
    exact LO.thr j tn (k := 1) (fun f => x_terms_A hsub ho hno hfr p1 p2 p3 (t_terms1 l D ty Ac hl tE el a h6 p1 p2 p3 h0 h1) ⟨rfl, rfl, Nat.le_of_ble_eq_true rfl, Nat.le_of_ble_eq_true rfl⟩ (fun {s} hK => k6_recv hK h6)) cm (fun _ => rfl)
  · rw [h2] at cm
    exact LO.thr j tn (k := 1) (fun f => x_terms_A hsub ho hno hfr p1 p2 p3 (t_terms2 l D ty Ac hl tE el a h6 p1 p2 p3 h0 h9 h1) ⟨rfl, rfl, Nat.le_of_ble_eq_true rfl, Nat.le_of_ble_eq_true rfl⟩ (fun {s} hK => k6_recv hK h6)) cm (fun _ => rfl)
  ·
    exact LO.ok (fun f => w_terms hsub ho hno hfr p1 p2 p3 (k_terms l D ty Ac tE el a h6 p1 p2 p3 h1 h2 h3) ⟨rfl, rfl, Nat.le_of_ble_eq_true rfl, Nat.le_of_ble_eq_true rfl⟩ (fun {s} hK => k6_recv hK h6)) hX_of cm (pc_add (fun _ => Nat.le_refl _) (by decide) (by decide)) h4 (fun _ => rfl) (j.step (kp_terms a p1 p2 p3) (Nat.le_add_right _ _) (h5.mono (by omega))) (kt_terms a p1 p2 p3 tn)
set_option maxHeartbeats 1000000 in
theorem o_deliver {l : Launch} {D : va_G} {ty : Nat → ClassId} {tE o mo : Nat} {Ac Aw Am : Nat → Prop} {ad : Nat → Nat} {el : Nat → Nat → Nat} {a : CS} {b : MS} {T D0 : Nat} (ev : EV l Ac Aw o) (j : SJ T D0 a b) (tn : TN a) (hT : T < 600) (hD : D0 ≤ 90000) (p1 p2 p3 p4 : Int32) : LO relI l D ty tE o Ac Aw Am mo ad el a b T D0 yL_deliver wsL_deliver yX6_deliver wsX6_deliver rmX6_deliver [.int p1, .int p2, .int p3, .int p4] [.ref o] := by
  obtain ⟨hsub, ho, hno, hfr, hl⟩ := ev
  obtain ⟨wf, cnt, c59⟩ := j.mf (by omega)
  have bd := j.bd
  obtain ⟨ci, e, sc, ct, ac, ow, gr, no, dl, ds, hd, pl, co, tw, -, hs, -⟩ := id j.2.2
  have h6 : cOb a 6 0 := Or.inr ⟨rfl, rfl⟩
  have h80 := ci.2.1.2
  have h06 := ci.2.2.1.2
  have h40 := ci.2.2.2.1.2
  have h30 := ci.2.2.2.2.2
  have e3 := ci.2.1.1
  have e4 := ci.2.2.1.1
  have e2 := ci.2.2.2.1.1
  have e1 := ci.2.2.2.2.1
  have b0 : cL a 0 < 2 ^ 31 := by omega
  have b1 : cL a 1 < 2 ^ 31 := by omega
  have b2 : cL a 2 < 2 ^ 31 := by omega
  have b3 : cL a 3 < 2 ^ 31 := by omega
  have ok := ci.1
  rcases p_deliver j.2.2 (by omega) p1 p2 p3 p4 with ⟨h1, h2⟩ | ⟨⟨q1, q2, q3, q4⟩, ⟨h2, h3⟩ | ⟨s9, h2, h3, h4, h5⟩⟩
  · by_cases q1 : mIn p1 0 5 = true
    · by_cases q2 : mIn p2 0 2 = true
      · by_cases q3 : mIn p3 100 40000 = true
        · have q4 : mIn p4 50 300 = false := bne_true (fun z => h1 ⟨q1, q2, q3, z⟩)
          exact LO.thr j tn (k := 1) (fun f => x_deliver_A hsub ho hno hfr p1 p2 p3 p4 (t_deliver13 l D ty Ac hl tE el a h6 p1 p2 p3 p4 q1 q2 q3 q4) ⟨rfl, rfl, Nat.le_of_ble_eq_true rfl, Nat.le_of_ble_eq_true rfl⟩ (fun {s} hK => k6_recv hK h6)) (by have cm := c_mdeliver l D ty Am mo ad b p1 p2 p3 p4 wf cnt c59; rw [show mDeliver b p1 p2 p3 p4 = (0, mS b 0 1) from h2] at cm; exact cm) (fun _ => ⟨_, rfl, fun z => absurd z (by decide)⟩)
        ·
          exact LO.thr j tn (k := 1) (fun f => x_deliver_A hsub ho hno hfr p1 p2 p3 p4 (t_deliver12 l D ty Ac hl tE el a h6 p1 p2 p3 p4 q1 q2 (bne_true q3)) ⟨rfl, rfl, Nat.le_of_ble_eq_true rfl, Nat.le_of_ble_eq_true rfl⟩ (fun {s} hK => k6_recv hK h6)) (by have cm := c_mdeliver l D ty Am mo ad b p1 p2 p3 p4 wf cnt c59; rw [show mDeliver b p1 p2 p3 p4 = (0, mS b 0 1) from h2] at cm; exact cm) (fun _ => ⟨_, rfl, fun z => absurd z (by decide)⟩)
      ·
        exact LO.thr j tn (k := 1) (fun f => x_deliver_A hsub ho hno hfr p1 p2 p3 p4 (t_deliver11 l D ty Ac hl tE el a h6 p1 p2 p3 p4 q1 (bne_true q2)) ⟨rfl, rfl, Nat.le_of_ble_eq_true rfl, Nat.le_of_ble_eq_true rfl⟩ (fun {s} hK => k6_recv hK h6)) (by have cm := c_mdeliver l D ty Am mo ad b p1 p2 p3 p4 wf cnt c59; rw [show mDeliver b p1 p2 p3 p4 = (0, mS b 0 1) from h2] at cm; exact cm) (fun _ => ⟨_, rfl, fun z => absurd z (by decide)⟩)
    ·
      exact LO.thr j tn (k := 1) (fun f => x_deliver_A hsub ho hno hfr p1 p2 p3 p4 (t_deliver10 l D ty Ac hl tE el a h6 p1 p2 p3 p4 (bne_true q1)) ⟨rfl, rfl, Nat.le_of_ble_eq_true rfl, Nat.le_of_ble_eq_true rfl⟩ (fun {s} hK => k6_recv hK h6)) (by have cm := c_mdeliver l D ty Am mo ad b p1 p2 p3 p4 wf cnt c59; rw [show mDeliver b p1 p2 p3 p4 = (0, mS b 0 1) from h2] at cm; exact cm) (fun _ => ⟨_, rfl, fun z => absurd z (by decide)⟩)
  · cases hsf : kSiloFor a p2 (mGrade p4) (kDry p3 p4) with
    | none =>
      exact LO.thr j tn (k := 2) (fun f => x_deliver_S hsub ho hno hfr p1 p2 p3 p4 (t_deliver2N l D ty Ac hl tE el a h6 p1 p2 p3 p4 q1 q2 q3 q4 ok b1 b2 b0 hsf) ⟨rfl, rfl, Nat.le_of_ble_eq_true rfl, Nat.le_of_ble_eq_true rfl⟩ (fun {s} hK => k6_recv hK h6)) (by have cm := c_mdeliver l D ty Am mo ad b p1 p2 p3 p4 wf cnt c59; rw [show mDeliver b p1 p2 p3 p4 = (0, mS b 0 2) from h3] at cm; exact cm) (fun _ => ⟨_, rfl, fun z => absurd z (by decide)⟩)
    | some s9 =>
      have h7 : 40 ≤ cL a 1 ∨ 80 ≤ cL a 2 := by
        rcases h2 with z | z | z
        · exact Or.inl z
        · exact Or.inr z
        · rw [hsf] at z; cases z
      exact LO.thr j tn (k := 2) (fun f => x_deliver_S hsub ho hno hfr p1 p2 p3 p4 (t_deliver2S l D ty Ac hl tE el a h6 p1 p2 p3 p4 q1 q2 q3 q4 ok b1 b2 b0 hsf h7) ⟨rfl, rfl, Nat.le_of_ble_eq_true rfl, Nat.le_of_ble_eq_true rfl⟩ (fun {s} hK => k6_recv hK h6)) (by have cm := c_mdeliver l D ty Am mo ad b p1 p2 p3 p4 wf cnt c59; rw [show mDeliver b p1 p2 p3 p4 = (0, mS b 0 2) from h3] at cm; exact cm) (fun _ => ⟨_, rfl, fun z => absurd z (by decide)⟩)
  ·
    exact LO.ok (g := fun f => vp_updL f 0 (nI (cL a 2)).toInt64) (fun f => w_deliver hsub ho hno hfr p1 p2 p3 p4 (k_deliver l D ty Ac tE el a h6 p1 p2 p3 p4 q1 q2 q3 q4 ok b2 b0 h2 h3 h4 e2 e3) ⟨rfl, rfl, Nat.le_of_ble_eq_true rfl, Nat.le_of_ble_eq_true rfl⟩ (fun {s} hK => k6_recv hK h6) (fun H H1 h hq => hX_kept h (fun q hA _ => hq q (fun z => hno (z ▸ hA))))) (fun _ h => h) (by have cm := c_mdeliver l D ty Am mo ad b p1 p2 p3 p4 wf cnt c59; rw [show (mDeliver b p1 p2 p3 p4).1 = nI (cL a 2) from h5.1] at cm; exact cm) (pc_add (fun t => Nat.le_trans (cNew_le 2 t) ((kMake_gr (a := cSI (kDeliver1 a p1 p2 p3 (mGrade p4) (kDry p3 p4) s9) 4 4 _ _) _ _ _).1 t)) (by decide) (by decide)) h5.2.1 (fun _ => ⟨_, rfl, fun _ => rfl⟩) (j.step ((kp_deliver1 a p1 p2 p3 (mGrade p4) (kDry p3 p4) s9).putIn _ _) (Nat.le_add_right _ _) (h5.2.2.mono (by omega))) (((kt_deliver1 a p1 p2 p3 (mGrade p4) (kDry p3 p4) s9).putIn _ _) tn)
set_option maxHeartbeats 1000000 in
theorem o_split {l : Launch} {D : va_G} {ty : Nat → ClassId} {tE o mo : Nat} {Ac Aw Am : Nat → Prop} {ad : Nat → Nat} {el : Nat → Nat → Nat} {a : CS} {b : MS} {T D0 : Nat} (ev : EV l Ac Aw o) (j : SJ T D0 a b) (tn : TN a) (hT : T < 600) (hD : D0 ≤ 90000) (p1 p2 : Int32) : LO relI l D ty tE o Ac Aw Am mo ad el a b T D0 yL_split wsL_split yX6_split wsX6_split rmX6_split [.int p1, .int p2] [.ref o] := by
  obtain ⟨hsub, ho, hno, hfr, hl⟩ := ev
  obtain ⟨wf, cnt, c59⟩ := j.mf (by omega)
  have bd := j.bd
  obtain ⟨ci, e, sc, ct, ac, ow, gr, no, dl, ds, hd, pl, co, tw, -, hs, -⟩ := id j.2.2
  have h6 : cOb a 6 0 := Or.inr ⟨rfl, rfl⟩
  have h80 := ci.2.1.2
  have h06 := ci.2.2.1.2
  have h40 := ci.2.2.2.1.2
  have h30 := ci.2.2.2.2.2
  have e3 := ci.2.1.1
  have e4 := ci.2.2.1.1
  have e2 := ci.2.2.2.1.1
  have e1 := ci.2.2.2.2.1
  have b0 : cL a 0 < 2 ^ 31 := by omega
  have b1 : cL a 1 < 2 ^ 31 := by omega
  have b2 : cL a 2 < 2 ^ 31 := by omega
  have b3 : cL a 3 < 2 ^ 31 := by omega
  have ok := ci.1
  rcases p_split j.2.2 (by omega) p1 p2 with ⟨g1, g2⟩ | ⟨q, hq, rfl, g⟩
  ·
    exact LO.thr j tn (k := 1) (fun f => x_split_B hsub ho hno hfr p1 p2 (t_split1 l D ty Ac hl tE el a h6 b2 p1 p2 g1) ⟨rfl, rfl, Nat.le_of_ble_eq_true rfl, Nat.le_of_ble_eq_true rfl⟩ (fun {s} hK => k6_recv hK h6)) (by have cm := c_msplit l D ty Am mo ad b p1 p2 wf cnt c59; rw [show mSplit b p1 p2 = (0, mS b 0 1) from g2] at cm; exact cm) (fun _ => ⟨_, rfl, fun z => absurd z (by decide)⟩)
  ·
    have h3 : cOb a 3 q := Or.inl ⟨by decide, by omega⟩
    have hw3 := ok.1.1 q (by omega)
    have h2 : cOb a 2 (kD a q) := Or.inl ⟨by decide, hw3.2.1⟩
    have h5 : cOb a 5 (kT a q) := Or.inl ⟨by decide, hw3.2.2.2⟩
    have hw2 := ok.1.2.1 _ hw3.2.1
    have h4 : cOb a 4 (kS a (kD a q)) := Or.inl ⟨by decide, hw2.2⟩
    rcases g with ⟨g1, g2⟩ | ⟨g1, ⟨g2, g3⟩ | ⟨g2, g3⟩⟩
    ·
      exact LO.thr j tn (k := 2) (fun f => x_split_A hsub ho hno hfr (nI q) p2 (t_split2 l D ty Ac hl tE el a h6 b2 hq h3 p2 g1) ⟨rfl, rfl, Nat.le_of_ble_eq_true rfl, Nat.le_of_ble_eq_true rfl⟩ (fun {s} hK => k6_recv hK h6)) (by have cm := c_msplit l D ty Am mo ad b (nI q) p2 wf cnt c59; rw [show mSplit b (nI q) p2 = (0, mS b 0 2) from g2] at cm; exact cm) (fun _ => ⟨_, rfl, fun z => absurd z (by decide)⟩)
    ·
      exact LO.thr j tn (k := 3) (fun f => x_split_S hsub ho hno hfr (nI q) p2 (t_split3 l D ty Ac hl tE el a h6 b2 hq h3 p2 g1 g2) ⟨rfl, rfl, Nat.le_of_ble_eq_true rfl, Nat.le_of_ble_eq_true rfl⟩ (fun {s} hK => k6_recv hK h6)) (by have cm := c_msplit l D ty Am mo ad b (nI q) p2 wf cnt c59; rw [show mSplit b (nI q) p2 = (0, mS b 0 3) from g3] at cm; exact cm) (fun _ => ⟨_, rfl, fun z => absurd z (by decide)⟩)
    ·
      exact LO.ok (g := fun f => vp_updL f 0 (nI (cL a 2)).toInt64) (fun f => w_split hsub ho hno hfr (nI q) p2 (k_split l D ty Ac tE el a h6 b2 hq h3 p2 g1 ok (by omega) e3 g2) ⟨rfl, rfl, Nat.le_of_ble_eq_true rfl, Nat.le_of_ble_eq_true rfl⟩ (fun {s} hK => k6_recv hK h6) (fun H H1 h hq => hX_kept h (fun q hA _ => hq q (fun z => hno (z ▸ hA))))) (fun _ h => h) (by have cm := c_msplit l D ty Am mo ad b (nI q) p2 wf cnt c59; rw [show (mSplit b (nI q) p2).1 = nI (cL a 2) from g3.1] at cm; exact cm) (pc_add (fun t => (kSplitOff_gr q p2).1 t) (by decide) (by decide)) g3.2.1 (fun _ => ⟨_, rfl, fun _ => rfl⟩) (j.step (cKp.rf.splitOff q p2) (Nat.le_add_right _ _) (g3.2.2.mono (by omega))) ((cKt.rf.splitOff q p2) tn)
set_option maxHeartbeats 1000000 in
theorem o_sell {l : Launch} {D : va_G} {ty : Nat → ClassId} {tE o mo : Nat} {Ac Aw Am : Nat → Prop} {ad : Nat → Nat} {el : Nat → Nat → Nat} {a : CS} {b : MS} {T D0 : Nat} (ev : EV l Ac Aw o) (j : SJ T D0 a b) (tn : TN a) (hT : T < 600) (hD : D0 ≤ 90000) (p1 p2 p3 : Int32) : LO relI l D ty tE o Ac Aw Am mo ad el a b T D0 yL_sell wsL_sell yX6_sell wsX6_sell rmX6_sell [.int p1, .int p2, .int p3] [.ref o] := by
  obtain ⟨hsub, ho, hno, hfr, hl⟩ := ev
  obtain ⟨wf, cnt, c59⟩ := j.mf (by omega)
  have bd := j.bd
  obtain ⟨ci, e, sc, ct, ac, ow, gr, no, dl, ds, hd, pl, co, tw, -, hs, -⟩ := id j.2.2
  have h6 : cOb a 6 0 := Or.inr ⟨rfl, rfl⟩
  have h80 := ci.2.1.2
  have h06 := ci.2.2.1.2
  have h40 := ci.2.2.2.1.2
  have h30 := ci.2.2.2.2.2
  have e3 := ci.2.1.1
  have e4 := ci.2.2.1.1
  have e2 := ci.2.2.2.1.1
  have e1 := ci.2.2.2.2.1
  have b0 : cL a 0 < 2 ^ 31 := by omega
  have b1 : cL a 1 < 2 ^ 31 := by omega
  have b2 : cL a 2 < 2 ^ 31 := by omega
  have b3 : cL a 3 < 2 ^ 31 := by omega
  have ok := ci.1
  rcases p_sell j.2.2 (by omega) p1 p2 p3 with ⟨g1, g2⟩ | ⟨q, hq, rfl, g⟩
  ·
    exact LO.thr j tn (k := 1) (fun f => x_sell_B hsub ho hno hfr p1 p2 p3 (t_sell1 l D ty Ac hl tE el a h6 b2 p1 p2 p3 g1) ⟨rfl, rfl, Nat.le_of_ble_eq_true rfl, Nat.le_of_ble_eq_true rfl⟩ (fun {s} hK => k6_recv hK h6)) (by have cm := c_msell l D ty Am mo ad b p1 p2 p3 wf cnt c59; rw [show mSell b p1 p2 p3 = (0, mS b 0 1) from g2] at cm; exact cm) (fun _ => ⟨_, rfl, fun z => absurd z (by decide)⟩)
  ·
    have h3 : cOb a 3 q := Or.inl ⟨by decide, by omega⟩
    have hw3 := ok.1.1 q (by omega)
    have h2 : cOb a 2 (kD a q) := Or.inl ⟨by decide, hw3.2.1⟩
    have h5 : cOb a 5 (kT a q) := Or.inl ⟨by decide, hw3.2.2.2⟩
    have hw2 := ok.1.2.1 _ hw3.2.1
    have h4 : cOb a 4 (kS a (kD a q)) := Or.inl ⟨by decide, hw2.2⟩
    rcases g with ⟨g1 | ⟨g0, g1⟩, g2⟩ | ⟨⟨g0, g1⟩, ⟨g2, g3⟩ | ⟨g2, g3⟩⟩
    ·
      exact LO.thr j tn (k := 2) (fun f => x_sell_A hsub ho hno hfr (nI q) p2 p3 (t_sell20 l D ty Ac hl tE el a h6 b2 hq h3 p2 p3 g1) ⟨rfl, rfl, Nat.le_of_ble_eq_true rfl, Nat.le_of_ble_eq_true rfl⟩ (fun {s} hK => k6_recv hK h6)) (by have cm := c_msell l D ty Am mo ad b (nI q) p2 p3 wf cnt c59; rw [show mSell b (nI q) p2 p3 = (0, mS b 0 2) from g2] at cm; exact cm) (fun _ => ⟨_, rfl, fun z => absurd z (by decide)⟩)
    ·
      exact LO.thr j tn (k := 2) (fun f => x_sell_A hsub ho hno hfr (nI q) p2 p3 (t_sell21 l D ty Ac hl tE el a h6 b2 hq h3 p2 p3 g0 g1) ⟨rfl, rfl, Nat.le_of_ble_eq_true rfl, Nat.le_of_ble_eq_true rfl⟩ (fun {s} hK => k6_recv hK h6)) (by have cm := c_msell l D ty Am mo ad b (nI q) p2 p3 wf cnt c59; rw [show mSell b (nI q) p2 p3 = (0, mS b 0 2) from g2] at cm; exact cm) (fun _ => ⟨_, rfl, fun z => absurd z (by decide)⟩)
    ·
      exact LO.thr j tn (k := 3) (fun f => x_sell_S hsub ho hno hfr (nI q) p2 p3 (t_sell3 l D ty Ac hl tE el a h6 b2 hq h3 p2 p3 g0 g1 hw3.2.2.1 h5 g2) ⟨rfl, rfl, Nat.le_of_ble_eq_true rfl, Nat.le_of_ble_eq_true rfl⟩ (fun {s} hK => k6_recv hK h6)) (by have cm := c_msell l D ty Am mo ad b (nI q) p2 p3 wf cnt c59; rw [show mSell b (nI q) p2 p3 = (0, mS b 0 3) from g3] at cm; exact cm) (fun _ => ⟨_, rfl, fun z => absurd z (by decide)⟩)
    ·
      exact LO.ok (g := fun f => vp_updL f 0 (cI a 5 2 (kT a q)).toInt64) (fun f => w_sell hsub ho hno hfr (nI q) p2 p3 (k_sell l D ty Ac tE el a h6 b2 hq h3 p2 p3 g0 g1 ok (by omega) g2) ⟨rfl, rfl, Nat.le_of_ble_eq_true rfl, Nat.le_of_ble_eq_true rfl⟩ (fun {s} hK => k6_recv hK h6) (fun H H1 h hq => hX_kept h (fun q hA _ => hq q (fun z => hno (z ▸ hA))))) (fun _ h => h) (by have cm := c_msell l D ty Am mo ad b (nI q) p2 p3 wf cnt c59; rw [show (mSell b (nI q) p2 p3).1 = cI a 5 2 (kT a q) from g3.1] at cm; exact cm) (pc_add (fun t => Nat.le_trans (Nat.le_of_eq (congrFun (kPayT_same a p2 (cI a 5 2 (kT a q)) p3.toInt64).1.symm t)) ((kCh_le (a := kPayT a p2 (cI a 5 2 (kT a q)) p3.toInt64) (r := q) p2).1 t)) (by decide) (by decide)) g3.2.1 (fun _ => ⟨_, rfl, fun _ => rfl⟩) (j.step (kp_sell a q p2 p3) (Nat.le_add_right _ _) g3.2.2) (kt_sell a q p2 p3 tn)
set_option maxHeartbeats 1000000 in
theorem o_pledge {l : Launch} {D : va_G} {ty : Nat → ClassId} {tE o mo : Nat} {Ac Aw Am : Nat → Prop} {ad : Nat → Nat} {el : Nat → Nat → Nat} {a : CS} {b : MS} {T D0 : Nat} (ev : EV l Ac Aw o) (j : SJ T D0 a b) (tn : TN a) (hT : T < 600) (hD : D0 ≤ 90000) (p1 p2 p3 p4 : Int32) : LO relI l D ty tE o Ac Aw Am mo ad el a b T D0 yL_pledge wsL_pledge yX6_pledge wsX6_pledge rmX6_pledge [.int p1, .int p2, .int p3, .int p4] [.ref o] := by
  obtain ⟨hsub, ho, hno, hfr, hl⟩ := ev
  obtain ⟨wf, cnt, c59⟩ := j.mf (by omega)
  have bd := j.bd
  obtain ⟨ci, e, sc, ct, ac, ow, gr, no, dl, ds, hd, pl, co, tw, -, hs, -⟩ := id j.2.2
  have h6 : cOb a 6 0 := Or.inr ⟨rfl, rfl⟩
  have h80 := ci.2.1.2
  have h06 := ci.2.2.1.2
  have h40 := ci.2.2.2.1.2
  have h30 := ci.2.2.2.2.2
  have e3 := ci.2.1.1
  have e4 := ci.2.2.1.1
  have e2 := ci.2.2.2.1.1
  have e1 := ci.2.2.2.2.1
  have b0 : cL a 0 < 2 ^ 31 := by omega
  have b1 : cL a 1 < 2 ^ 31 := by omega
  have b2 : cL a 2 < 2 ^ 31 := by omega
  have b3 : cL a 3 < 2 ^ 31 := by omega
  have ok := ci.1
  rcases p_pledge j.2.2 p1 p2 p3 p4 with ⟨g1, g2⟩ | ⟨q, hq, rfl, g⟩
  ·
    exact LO.thr j tn (k := 1) (fun f => x_pledge_B hsub ho hno hfr p1 p2 p3 p4 (t_pledge1 l D ty Ac hl tE el a h6 b2 p1 p2 p3 p4 g1) ⟨rfl, rfl, Nat.le_of_ble_eq_true rfl, Nat.le_of_ble_eq_true rfl⟩ (fun {s} hK => k6_recv hK h6)) (by have cm := c_mpledge l D ty Am mo ad b p1 p2 p3 p4 wf cnt c59; rw [show mPledge b p1 p2 p3 p4 = (0, mS b 0 1) from g2] at cm; exact cm) (fun _ => ⟨_, rfl, fun z => absurd z (by decide)⟩)
  ·
    have h3 : cOb a 3 q := Or.inl ⟨by decide, by omega⟩
    have hw3 := ok.1.1 q (by omega)
    have h2 : cOb a 2 (kD a q) := Or.inl ⟨by decide, hw3.2.1⟩
    have h5 : cOb a 5 (kT a q) := Or.inl ⟨by decide, hw3.2.2.2⟩
    have hw2 := ok.1.2.1 _ hw3.2.1
    have h4 : cOb a 4 (kS a (kD a q)) := Or.inl ⟨by decide, hw2.2⟩
    rcases g with ⟨g1, g2⟩ | ⟨⟨q1, q2, q3⟩, ⟨g2, g3⟩ | ⟨g2, g3⟩⟩
    · by_cases q1 : mIn p2 0 5 = true
      · by_cases q2 : mIn p3 0 10000000 = true
        · have q3 : mIn p4 0 100 = false := bne_true (fun z => g1 ⟨q1, q2, z⟩)
          exact LO.thr j tn (k := 2) (fun f => x_pledge_A hsub ho hno hfr (nI q) p2 p3 p4 (t_pledge22 l D ty Ac hl tE el a h6 b2 hq h3 p2 p3 p4 q1 q2 q3) ⟨rfl, rfl, Nat.le_of_ble_eq_true rfl, Nat.le_of_ble_eq_true rfl⟩ (fun {s} hK => k6_recv hK h6)) (by have cm := c_mpledge l D ty Am mo ad b (nI q) p2 p3 p4 wf cnt c59; rw [show mPledge b (nI q) p2 p3 p4 = (0, mS b 0 2) from g2] at cm; exact cm) (fun _ => ⟨_, rfl, fun z => absurd z (by decide)⟩)
        ·
          exact LO.thr j tn (k := 2) (fun f => x_pledge_A hsub ho hno hfr (nI q) p2 p3 p4 (t_pledge21 l D ty Ac hl tE el a h6 b2 hq h3 p2 p3 p4 q1 (bne_true q2)) ⟨rfl, rfl, Nat.le_of_ble_eq_true rfl, Nat.le_of_ble_eq_true rfl⟩ (fun {s} hK => k6_recv hK h6)) (by have cm := c_mpledge l D ty Am mo ad b (nI q) p2 p3 p4 wf cnt c59; rw [show mPledge b (nI q) p2 p3 p4 = (0, mS b 0 2) from g2] at cm; exact cm) (fun _ => ⟨_, rfl, fun z => absurd z (by decide)⟩)
      ·
        exact LO.thr j tn (k := 2) (fun f => x_pledge_A hsub ho hno hfr (nI q) p2 p3 p4 (t_pledge20 l D ty Ac hl tE el a h6 b2 hq h3 p2 p3 p4 (bne_true q1)) ⟨rfl, rfl, Nat.le_of_ble_eq_true rfl, Nat.le_of_ble_eq_true rfl⟩ (fun {s} hK => k6_recv hK h6)) (by have cm := c_mpledge l D ty Am mo ad b (nI q) p2 p3 p4 wf cnt c59; rw [show mPledge b (nI q) p2 p3 p4 = (0, mS b 0 2) from g2] at cm; exact cm) (fun _ => ⟨_, rfl, fun z => absurd z (by decide)⟩)
    ·
      exact LO.thr j tn (k := 3) (fun f => x_pledge_S hsub ho hno hfr (nI q) p2 p3 p4 (t_pledge3 l D ty Ac hl tE el a h6 b2 hq h3 p2 p3 p4 q1 q2 q3 hw3.2.2.1 h5 g2) ⟨rfl, rfl, Nat.le_of_ble_eq_true rfl, Nat.le_of_ble_eq_true rfl⟩ (fun {s} hK => k6_recv hK h6)) (by have cm := c_mpledge l D ty Am mo ad b (nI q) p2 p3 p4 wf cnt c59; rw [show mPledge b (nI q) p2 p3 p4 = (0, mS b 0 3) from g3] at cm; exact cm) (fun _ => ⟨_, rfl, fun z => absurd z (by decide)⟩)
    ·
      exact LO.ok (g := fun f => vp_updL f 0 (cI (kPledge a q p2 p3 p4) 3 6 q).toInt64) (fun f => w_pledge hsub ho hno hfr (nI q) p2 p3 p4 (k_pledge l D ty Ac tE el a h6 b2 hq h3 p2 p3 p4 q1 q2 q3 ok (by omega) g2) ⟨rfl, rfl, Nat.le_of_ble_eq_true rfl, Nat.le_of_ble_eq_true rfl⟩ (fun {s} hK => k6_recv hK h6) (fun H H1 h hq => hC_kept h (fun q hA _ => hq q (fun z => hno (z ▸ hA))))) hX_of (by have cm := c_mpledge l D ty Am mo ad b (nI q) p2 p3 p4 wf cnt c59; rw [show (mPledge b (nI q) p2 p3 p4).1 = cI (kPledge a q p2 p3 p4) 3 6 q from g3.1] at cm; exact cm) (pc_add (fun t => Nat.le_of_eq (congrFun (kPayT_same a p2 (cI a 5 2 (kT a q)) p3.toInt64).1.symm t)) (by decide) (by decide)) g3.2.1 (fun _ => ⟨_, rfl, fun _ => rfl⟩) (j.step (kp_pledge a q p2 p3 p4) (Nat.le_add_right _ _) g3.2.2) (kt_pledge a q p2 p3 p4 tn)
set_option maxHeartbeats 1000000 in
theorem o_redeem {l : Launch} {D : va_G} {ty : Nat → ClassId} {tE o mo : Nat} {Ac Aw Am : Nat → Prop} {ad : Nat → Nat} {el : Nat → Nat → Nat} {a : CS} {b : MS} {T D0 : Nat} (ev : EV l Ac Aw o) (j : SJ T D0 a b) (tn : TN a) (hT : T < 600) (hD : D0 ≤ 90000) (p1 : Int32) : LO relI l D ty tE o Ac Aw Am mo ad el a b T D0 yL_redeem wsL_redeem yX6_redeem wsX6_redeem rmX6_redeem [.int p1] [.ref o] := by
  obtain ⟨hsub, ho, hno, hfr, hl⟩ := ev
  obtain ⟨wf, cnt, c59⟩ := j.mf (by omega)
  have bd := j.bd
  obtain ⟨ci, e, sc, ct, ac, ow, gr, no, dl, ds, hd, pl, co, tw, -, hs, -⟩ := id j.2.2
  have h6 : cOb a 6 0 := Or.inr ⟨rfl, rfl⟩
  have h80 := ci.2.1.2
  have h06 := ci.2.2.1.2
  have h40 := ci.2.2.2.1.2
  have h30 := ci.2.2.2.2.2
  have e3 := ci.2.1.1
  have e4 := ci.2.2.1.1
  have e2 := ci.2.2.2.1.1
  have e1 := ci.2.2.2.2.1
  have b0 : cL a 0 < 2 ^ 31 := by omega
  have b1 : cL a 1 < 2 ^ 31 := by omega
  have b2 : cL a 2 < 2 ^ 31 := by omega
  have b3 : cL a 3 < 2 ^ 31 := by omega
  have ok := ci.1
  rcases p_redeem j.2.2 p1 with ⟨g1, g2⟩ | ⟨q, hq, rfl, g⟩
  ·
    exact LO.thr j tn (k := 1) (fun f => x_redeem_B hsub ho hno hfr p1 (t_redeem1 l D ty Ac hl tE el a h6 b2 p1 g1) ⟨rfl, rfl, Nat.le_of_ble_eq_true rfl, Nat.le_of_ble_eq_true rfl⟩ (fun {s} hK => k6_recv hK h6)) (by have cm := c_mredeem l D ty Am mo ad b p1 wf cnt c59; rw [show mRedeem b p1 = (0, mS b 0 1) from g2] at cm; exact cm) (fun _ => ⟨_, rfl, fun z => absurd z (by decide)⟩)
  ·
    have h3 : cOb a 3 q := Or.inl ⟨by decide, by omega⟩
    have hw3 := ok.1.1 q (by omega)
    have h2 : cOb a 2 (kD a q) := Or.inl ⟨by decide, hw3.2.1⟩
    have h5 : cOb a 5 (kT a q) := Or.inl ⟨by decide, hw3.2.2.2⟩
    have hw2 := ok.1.2.1 _ hw3.2.1
    have h4 : cOb a 4 (kS a (kD a q)) := Or.inl ⟨by decide, hw2.2⟩
    rcases g with ⟨g1, g2⟩ | ⟨g1, g2, g3⟩
    ·
      exact LO.thr j tn (k := 2) (fun f => x_redeem_S hsub ho hno hfr (nI q) (t_redeem2 l D ty Ac hl tE el a h6 b2 hq h3 g1) ⟨rfl, rfl, Nat.le_of_ble_eq_true rfl, Nat.le_of_ble_eq_true rfl⟩ (fun {s} hK => k6_recv hK h6)) (by have cm := c_mredeem l D ty Am mo ad b (nI q) wf cnt c59; rw [show mRedeem b (nI q) = (0, mS b 0 2) from g2] at cm; exact cm) (fun _ => ⟨_, rfl, fun z => absurd z (by decide)⟩)
    ·
      exact LO.ok (g := fun f => vp_updL f 0 (cI a 3 5 q).toInt64) (fun f => w_redeem hsub ho hno hfr (nI q) (k_redeem l D ty Ac tE el a h6 b2 hq h3 hw3.2.2.1 h5 g1 (j.2.2.hd6 hq) g2) ⟨rfl, rfl, Nat.le_of_ble_eq_true rfl, Nat.le_of_ble_eq_true rfl⟩ (fun {s} hK => k6_recv hK h6) (fun H H1 h hq => hC_kept h (fun q hA _ => hq q (fun z => hno (z ▸ hA))))) hX_of (by have cm := c_mredeem l D ty Am mo ad b (nI q) wf cnt c59; rw [show (mRedeem b (nI q)).1 = cI a 3 5 q from g3.1] at cm; exact cm) (pc_add (fun _ => Nat.le_refl _) (by decide) (by decide)) g3.2.1 (fun _ => ⟨_, rfl, fun _ => rfl⟩) (j.step (kp_redeem a q (kT a q)) (Nat.le_add_right _ _) (g3.2.2.mono (by omega))) (kt_redeem a q (kT a q) tn)
set_option maxHeartbeats 1000000 in
theorem o_takeOut {l : Launch} {D : va_G} {ty : Nat → ClassId} {tE o mo : Nat} {Ac Aw Am : Nat → Prop} {ad : Nat → Nat} {el : Nat → Nat → Nat} {a : CS} {b : MS} {T D0 : Nat} (ev : EV l Ac Aw o) (j : SJ T D0 a b) (tn : TN a) (hT : T < 600) (hD : D0 ≤ 90000) (p1 : Int32) : LO relI l D ty tE o Ac Aw Am mo ad el a b T D0 yL_takeOut wsL_takeOut yX6_takeOut wsX6_takeOut rmX6_takeOut [.int p1] [.ref o] := by
  obtain ⟨hsub, ho, hno, hfr, hl⟩ := ev
  obtain ⟨wf, cnt, c59⟩ := j.mf (by omega)
  have bd := j.bd
  obtain ⟨ci, e, sc, ct, ac, ow, gr, no, dl, ds, hd, pl, co, tw, -, hs, -⟩ := id j.2.2
  have h6 : cOb a 6 0 := Or.inr ⟨rfl, rfl⟩
  have h80 := ci.2.1.2
  have h06 := ci.2.2.1.2
  have h40 := ci.2.2.2.1.2
  have h30 := ci.2.2.2.2.2
  have e3 := ci.2.1.1
  have e4 := ci.2.2.1.1
  have e2 := ci.2.2.2.1.1
  have e1 := ci.2.2.2.2.1
  have b0 : cL a 0 < 2 ^ 31 := by omega
  have b1 : cL a 1 < 2 ^ 31 := by omega
  have b2 : cL a 2 < 2 ^ 31 := by omega
  have b3 : cL a 3 < 2 ^ 31 := by omega
  have ok := ci.1
  rcases p_takeOut j.2.2 p1 with ⟨g1, g2⟩ | ⟨q, hq, rfl, g⟩
  ·
    exact LO.thr j tn (k := 1) (fun f => x_takeOut_B hsub ho hno hfr p1 (t_takeOut1 l D ty Ac hl tE el a h6 b2 p1 g1) ⟨rfl, rfl, Nat.le_of_ble_eq_true rfl, Nat.le_of_ble_eq_true rfl⟩ (fun {s} hK => k6_recv hK h6)) (by have cm := c_mtakeOut l D ty Am mo ad b p1 wf cnt c59; rw [show mTakeOut b p1 = (0, mS b 0 1) from g2] at cm; exact cm) (fun _ => ⟨_, rfl, fun z => absurd z (by decide)⟩)
  ·
    have h3 : cOb a 3 q := Or.inl ⟨by decide, by omega⟩
    have hw3 := ok.1.1 q (by omega)
    have h2 : cOb a 2 (kD a q) := Or.inl ⟨by decide, hw3.2.1⟩
    have h5 : cOb a 5 (kT a q) := Or.inl ⟨by decide, hw3.2.2.2⟩
    have hw2 := ok.1.2.1 _ hw3.2.1
    have h4 : cOb a 4 (kS a (kD a q)) := Or.inl ⟨by decide, hw2.2⟩
    rcases g with ⟨g1, g2⟩ | ⟨g1, g3⟩
    ·
      exact LO.thr j tn (k := 2) (fun f => x_takeOut_S hsub ho hno hfr (nI q) (t_takeOut2 l D ty Ac hl tE el a h6 b2 hq h3 g1) ⟨rfl, rfl, Nat.le_of_ble_eq_true rfl, Nat.le_of_ble_eq_true rfl⟩ (fun {s} hK => k6_recv hK h6)) (by have cm := c_mtakeOut l D ty Am mo ad b (nI q) wf cnt c59; rw [show mTakeOut b (nI q) = (0, mS b 0 2) from g2] at cm; exact cm) (fun _ => ⟨_, rfl, fun z => absurd z (by decide)⟩)
    ·
      exact LO.ok (g := fun f => vp_updL f 0 (cI a 3 3 q).toInt64) (fun f => w_takeOut hsub ho hno hfr (nI q) (k_takeOut l D ty Ac tE el a h6 b2 hq h3 hw3.1 h2 hw2.1 h4 g1) ⟨rfl, rfl, Nat.le_of_ble_eq_true rfl, Nat.le_of_ble_eq_true rfl⟩ (fun {s} hK => k6_recv hK h6) (fun H H1 h hq => hC_kept h (fun q hA _ => hq q (fun z => hno (z ▸ hA))))) hX_of (by have cm := c_mtakeOut l D ty Am mo ad b (nI q) wf cnt c59; rw [show (mTakeOut b (nI q)).1 = cI a 3 3 q from g3.1] at cm; exact cm) (pc_add (fun t => Nat.le_of_eq (congrFun (kTakeFrom_rest a q (kS a (kD a q)) (cI a 3 3 q)).1.symm t)) (by decide) (by decide)) g3.2.1 (fun _ => ⟨_, rfl, fun _ => rfl⟩) (j.step (cKp.rf.take _ _ _) (Nat.le_add_right _ _) (g3.2.2.mono (by omega))) ((cKt.rf.take _ _ _) tn)
theorem SJ.contract {T D D' : Nat} {a : CS} {b b' : MS} (h : SJ T D a b) (x1 x2 x3 x4 x5 x6 x7 : Int32) (h30 : cL a 3 < 30) (hs : SC sL (T + 80 * nSt (a.2.1 1 8) (cL a 3)) (kContract a x1 x2 x3 x4 x5 x6 x7) b') (hD : D ≤ D') : SJ (T + 1) D' (kContract a x1 x2 x3 x4 x5 x6 x7) b' := by
  have hn1 : cN a 1 = cL a 3 := h.2.2.1.2.2.2.2.1.symm
  obtain ⟨⟨i1, i2, i3⟩, t1, hs0⟩ := h
  have ks := kContract_I a x1 x2 x3 x4 x5 x6 x7
  rw [hn1] at ks
  have eL3 : cL (kContract a x1 x2 x3 x4 x5 x6 x7) 3 = cL a 3 + 1 := rfl
  have k8 : (kContract a x1 x2 x3 x4 x5 x6 x7).2.1 1 8 = upd (a.2.1 1 8) (cL a 3) 0 := by rw [ks, if_pos rfl, if_neg (by decide), if_neg (by decide), if_neg (by decide), if_neg (by decide), if_neg (by decide), if_neg (by decide), if_neg (by decide), if_neg (by decide)]
  have k9 : (kContract a x1 x2 x3 x4 x5 x6 x7).2.1 1 9 = upd (a.2.1 1 9) (cL a 3) 0 := by rw [ks, if_pos rfl, if_neg (by decide), if_neg (by decide), if_neg (by decide), if_neg (by decide), if_neg (by decide), if_neg (by decide), if_neg (by decide), if_neg (by decide)]
  have k6 : (kContract a x1 x2 x3 x4 x5 x6 x7).2.1 1 6 = upd (a.2.1 1 6) (cL a 3) (cI a 6 9 0 + x6) := by rw [ks, if_pos rfl, if_neg (by decide), if_pos rfl]
  have kt : cI (kContract a x1 x2 x3 x4 x5 x6 x7) 6 9 0 = cI a 6 9 0 := by
    show (kContract a x1 x2 x3 x4 x5 x6 x7).2.1 6 9 0 = _
    rw [ks, if_neg (by decide)]
  have r3 : ∀ r, cR (kContract a x1 x2 x3 x4 x5 x6 x7) 3 7 r = cR a 3 7 r := fun r => by
    show (kContract a x1 x2 x3 x4 x5 x6 x7).2.2.1 3 7 r = a.2.2.1 3 7 r
    exact congrFun (congrFun (cNew_R a (show 3 ≠ 1 by decide) : (cNew a 1).2.2.1 3 = a.2.2.1 3) 7) r
  have c8 : ∀ c, cI (kContract a x1 x2 x3 x4 x5 x6 x7) 1 8 c = if c = cL a 3 then 0 else cI a 1 8 c := fun c => by
    show (kContract a x1 x2 x3 x4 x5 x6 x7).2.1 1 8 c = _
    rw [k8]; rfl
  refine ⟨⟨fun c hc hz => ?_, fun c hc hz => ?_, fun r x hr => ?_⟩, ?_, ?_⟩
  · show (kContract a x1 x2 x3 x4 x5 x6 x7).2.1 1 9 c = 0
    rw [k9]
    show (if c = cL a 3 then 0 else a.2.1 1 9 c) = 0
    rw [c8] at hz
    by_cases hcn : c = cL a 3
    · rw [if_pos hcn]
    · rw [if_neg hcn] at hz ⊢
      exact i1 c (by omega) hz
  · rw [c8] at hz
    by_cases hcn : c = cL a 3
    · rw [if_pos hcn] at hz; exact absurd rfl hz
    · rw [if_neg hcn] at hz
      rw [kt]
      show ((kContract a x1 x2 x3 x4 x5 x6 x7).2.1 1 6 c).toInt ≤ _
      rw [k6]
      show (if c = cL a 3 then _ else a.2.1 1 6 c).toInt ≤ _
      rw [if_neg hcn]
      exact i2 c (by omega) hz
  · rw [r3] at hr
    obtain ⟨z1, z2⟩ := i3 r x hr
    rw [c8, if_neg (by omega), eL3]
    exact ⟨by omega, z2⟩
  · rw [kt]
    exact ⟨t1.1, Int.le_trans t1.2 (Int.ofNat_le.mpr hD)⟩
  · refine hs.mono ?_
    rw [eL3, k8]
    show T + 80 * nSt (a.2.1 1 8) (cL a 3) ≤ T + 1 + 80 * (nSt (upd (a.2.1 1 8) (cL a 3) 0) (cL a 3) + _)
    rw [nSt_congr (x := upd (a.2.1 1 8) (cL a 3) 0) (y := a.2.1 1 8) (fun i hi => if_neg (by omega))]
    omega
set_option maxHeartbeats 1000000 in
theorem o_contract {l : Launch} {D : va_G} {ty : Nat → ClassId} {tE o mo : Nat} {Ac Aw Am : Nat → Prop} {ad : Nat → Nat} {el : Nat → Nat → Nat} {a : CS} {b : MS} {T D0 : Nat} (ev : EV l Ac Aw o) (j : SJ T D0 a b) (tn : TN a) (hT : T < 600) (hD : D0 ≤ 90000) (p1 p2 p3 p4 p5 p6 p7 : Int32) : LO relI l D ty tE o Ac Aw Am mo ad el a b T D0 yL_contract wsL_contract yX6_contract wsX6_contract rmX6_contract [.int p1, .int p2, .int p3, .int p4, .int p5, .int p6, .int p7] [.ref o] := by
  obtain ⟨hsub, ho, hno, hfr, hl⟩ := ev
  obtain ⟨wf, cnt, c59⟩ := j.mf (by omega)
  have bd := j.bd
  obtain ⟨ci, e, sc, ct, ac, ow, gr, no, dl, ds, hd, pl, co, tw, -, hs, -⟩ := id j.2.2
  have h6 : cOb a 6 0 := Or.inr ⟨rfl, rfl⟩
  have h80 := ci.2.1.2
  have h06 := ci.2.2.1.2
  have h40 := ci.2.2.2.1.2
  have h30 := ci.2.2.2.2.2
  have e3 := ci.2.1.1
  have e4 := ci.2.2.1.1
  have e2 := ci.2.2.2.1.1
  have e1 := ci.2.2.2.2.1
  have b0 : cL a 0 < 2 ^ 31 := by omega
  have b1 : cL a 1 < 2 ^ 31 := by omega
  have b2 : cL a 2 < 2 ^ 31 := by omega
  have b3 : cL a 3 < 2 ^ 31 := by omega
  have ok := ci.1
  rcases p_contract j.2.2 p1 p2 p3 p4 p5 p6 p7 with ⟨g1, g2⟩ | ⟨⟨q1, q2, q3, q4, q5, q6, q7, q8⟩, ⟨g2, g3⟩ | ⟨g2, g3⟩⟩
  ·
    by_cases q1 : mIn p1 0 5 = true
    case neg =>
      exact LO.thr j tn (k := 1) (fun f => x_contract_A hsub ho hno hfr p1 p2 p3 p4 p5 p6 p7 (t_contract10 l D ty Ac hl tE el a h6 p1 p2 p3 p4 p5 p6 p7 (bne_true q1)) ⟨rfl, rfl, Nat.le_of_ble_eq_true rfl, Nat.le_of_ble_eq_true rfl⟩ (fun {s} hK => k6_recv hK h6)) (by have cm := c_mcontract l D ty Am mo ad b p1 p2 p3 p4 p5 p6 p7 wf cnt c59; rw [show mContract b p1 p2 p3 p4 p5 p6 p7 = (0, mS b 0 1) from g2] at cm; exact cm) (fun _ => ⟨_, rfl, fun z => absurd z (by decide)⟩)
    by_cases q2 : mIn p2 0 5 = true
    case neg =>
      exact LO.thr j tn (k := 1) (fun f => x_contract_A hsub ho hno hfr p1 p2 p3 p4 p5 p6 p7 (t_contract11 l D ty Ac hl tE el a h6 p1 p2 p3 p4 p5 p6 p7 q1 (bne_true q2)) ⟨rfl, rfl, Nat.le_of_ble_eq_true rfl, Nat.le_of_ble_eq_true rfl⟩ (fun {s} hK => k6_recv hK h6)) (by have cm := c_mcontract l D ty Am mo ad b p1 p2 p3 p4 p5 p6 p7 wf cnt c59; rw [show mContract b p1 p2 p3 p4 p5 p6 p7 = (0, mS b 0 1) from g2] at cm; exact cm) (fun _ => ⟨_, rfl, fun z => absurd z (by decide)⟩)
    by_cases q3 : mIn p3 0 2 = true
    case neg =>
      exact LO.thr j tn (k := 1) (fun f => x_contract_A hsub ho hno hfr p1 p2 p3 p4 p5 p6 p7 (t_contract12 l D ty Ac hl tE el a h6 p1 p2 p3 p4 p5 p6 p7 q1 q2 (bne_true q3)) ⟨rfl, rfl, Nat.le_of_ble_eq_true rfl, Nat.le_of_ble_eq_true rfl⟩ (fun {s} hK => k6_recv hK h6)) (by have cm := c_mcontract l D ty Am mo ad b p1 p2 p3 p4 p5 p6 p7 wf cnt c59; rw [show mContract b p1 p2 p3 p4 p5 p6 p7 = (0, mS b 0 1) from g2] at cm; exact cm) (fun _ => ⟨_, rfl, fun z => absurd z (by decide)⟩)
    by_cases q4 : mIn p4 0 2 = true
    case neg =>
      exact LO.thr j tn (k := 1) (fun f => x_contract_A hsub ho hno hfr p1 p2 p3 p4 p5 p6 p7 (t_contract13 l D ty Ac hl tE el a h6 p1 p2 p3 p4 p5 p6 p7 q1 q2 q3 (bne_true q4)) ⟨rfl, rfl, Nat.le_of_ble_eq_true rfl, Nat.le_of_ble_eq_true rfl⟩ (fun {s} hK => k6_recv hK h6)) (by have cm := c_mcontract l D ty Am mo ad b p1 p2 p3 p4 p5 p6 p7 wf cnt c59; rw [show mContract b p1 p2 p3 p4 p5 p6 p7 = (0, mS b 0 1) from g2] at cm; exact cm) (fun _ => ⟨_, rfl, fun z => absurd z (by decide)⟩)
    by_cases q5 : mIn p5 1 100000 = true
    case neg =>
      exact LO.thr j tn (k := 1) (fun f => x_contract_A hsub ho hno hfr p1 p2 p3 p4 p5 p6 p7 (t_contract14 l D ty Ac hl tE el a h6 p1 p2 p3 p4 p5 p6 p7 q1 q2 q3 q4 (bne_true q5)) ⟨rfl, rfl, Nat.le_of_ble_eq_true rfl, Nat.le_of_ble_eq_true rfl⟩ (fun {s} hK => k6_recv hK h6)) (by have cm := c_mcontract l D ty Am mo ad b p1 p2 p3 p4 p5 p6 p7 wf cnt c59; rw [show mContract b p1 p2 p3 p4 p5 p6 p7 = (0, mS b 0 1) from g2] at cm; exact cm) (fun _ => ⟨_, rfl, fun z => absurd z (by decide)⟩)
    by_cases q6 : mIn p6 1 100 = true
    case neg =>
      exact LO.thr j tn (k := 1) (fun f => x_contract_A hsub ho hno hfr p1 p2 p3 p4 p5 p6 p7 (t_contract15 l D ty Ac hl tE el a h6 p1 p2 p3 p4 p5 p6 p7 q1 q2 q3 q4 q5 (bne_true q6)) ⟨rfl, rfl, Nat.le_of_ble_eq_true rfl, Nat.le_of_ble_eq_true rfl⟩ (fun {s} hK => k6_recv hK h6)) (by have cm := c_mcontract l D ty Am mo ad b p1 p2 p3 p4 p5 p6 p7 wf cnt c59; rw [show mContract b p1 p2 p3 p4 p5 p6 p7 = (0, mS b 0 1) from g2] at cm; exact cm) (fun _ => ⟨_, rfl, fun z => absurd z (by decide)⟩)
    by_cases q7 : mIn p7 0 1000 = true
    case neg =>
      exact LO.thr j tn (k := 1) (fun f => x_contract_A hsub ho hno hfr p1 p2 p3 p4 p5 p6 p7 (t_contract16 l D ty Ac hl tE el a h6 p1 p2 p3 p4 p5 p6 p7 q1 q2 q3 q4 q5 q6 (bne_true q7)) ⟨rfl, rfl, Nat.le_of_ble_eq_true rfl, Nat.le_of_ble_eq_true rfl⟩ (fun {s} hK => k6_recv hK h6)) (by have cm := c_mcontract l D ty Am mo ad b p1 p2 p3 p4 p5 p6 p7 wf cnt c59; rw [show mContract b p1 p2 p3 p4 p5 p6 p7 = (0, mS b 0 1) from g2] at cm; exact cm) (fun _ => ⟨_, rfl, fun z => absurd z (by decide)⟩)
    have q8 : p1 = p2 := Decidable.byContradiction (fun z => g1 ⟨q1, q2, q3, q4, q5, q6, q7, z⟩)
    exact LO.thr j tn (k := 1) (fun f => x_contract_A hsub ho hno hfr p1 p2 p3 p4 p5 p6 p7 (t_contract17 l D ty Ac hl tE el a h6 p1 p2 p3 p4 p5 p6 p7 q1 q2 q3 q4 q5 q6 q7 q8) ⟨rfl, rfl, Nat.le_of_ble_eq_true rfl, Nat.le_of_ble_eq_true rfl⟩ (fun {s} hK => k6_recv hK h6)) (by have cm := c_mcontract l D ty Am mo ad b p1 p2 p3 p4 p5 p6 p7 wf cnt c59; rw [show mContract b p1 p2 p3 p4 p5 p6 p7 = (0, mS b 0 1) from g2] at cm; exact cm) (fun _ => ⟨_, rfl, fun z => absurd z (by decide)⟩)
  ·
    exact LO.thr j tn (k := 2) (fun f => x_contract_S hsub ho hno hfr p1 p2 p3 p4 p5 p6 p7 (t_contract2 l D ty Ac hl tE el a h6 p1 p2 p3 p4 p5 p6 p7 q1 q2 q3 q4 q5 q6 q7 q8 (by omega) (by omega)) ⟨rfl, rfl, Nat.le_of_ble_eq_true rfl, Nat.le_of_ble_eq_true rfl⟩ (fun {s} hK => k6_recv hK h6)) (by have cm := c_mcontract l D ty Am mo ad b p1 p2 p3 p4 p5 p6 p7 wf cnt c59; rw [show mContract b p1 p2 p3 p4 p5 p6 p7 = (0, mS b 0 2) from g3] at cm; exact cm) (fun _ => ⟨_, rfl, fun z => absurd z (by decide)⟩)
  ·
    exact LO.ok (g := fun f => vp_updL f 0 (nI (cL a 3)).toInt64) (fun f => w_contract hsub ho hno hfr p1 p2 p3 p4 p5 p6 p7 (k_contract l D ty Ac tE el a h6 ok.2 p1 p2 p3 p4 p5 p6 p7 q1 q2 q3 q4 q5 q6 q7 q8 g2 e1) ⟨rfl, rfl, Nat.le_of_ble_eq_true rfl, Nat.le_of_ble_eq_true rfl⟩ (fun {s} hK => k6_recv hK h6) (fun H H1 h hq => hX_kept h (fun q hA _ => hq q (fun z => hno (z ▸ hA))))) (fun _ h => h) (by have cm := c_mcontract l D ty Am mo ad b p1 p2 p3 p4 p5 p6 p7 wf cnt c59; rw [show (mContract b p1 p2 p3 p4 p5 p6 p7).1 = nI (cL a 3) from g3.1] at cm; exact cm) (pc_add (fun t => cNew_le 1 t) (by decide) (by decide)) g3.2.1 (fun _ => ⟨_, rfl, fun _ => rfl⟩) (j.contract p1 p2 p3 p4 p5 p6 p7 g2 g3.2.2 (Nat.le_add_right _ _)) (kt_contract a p1 p2 p3 p4 p5 p6 p7 tn)
