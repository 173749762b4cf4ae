def kSilosN (b : CS) : Nat → CS
  | 0 => b
  | n + 1 => kShrink (kSilosN b n) n
def kForfN (b : CS) : Nat → CS
  | 0 => b
  | n + 1 => kForfeit (kForfN b n) n
def kConStep (a : CS) (c : Nat) : CS := if cI a 1 6 c = cI a 6 9 0 then (if cI a 1 8 c = 0 then kSettle a c else a) else a
def kConsN (b : CS) : Nat → CS
  | 0 => b
  | n + 1 => kConStep (kConsN b n) n
def kDay0 (a : CS) : CS := cSI a 6 9 0 (cI a 6 9 0 + 1)
def kDay1 (a : CS) : CS := kSilosN (kDay0 a) (cL a 0)
def kDay2 (a : CS) : CS := kForfN (kDay1 a) (cL a 2)
def kDay (a : CS) : CS := kConsN (kDay2 a) (cL a 3)
def kDays (a : CS) : Nat → CS
  | 0 => a
  | n + 1 => kDay (kDays a n)
/-- what the sharing of a loss leaves over is little -/
def kShOk (b : CS) : Prop := ∀ i, i < cL b 0 → ∃ n9, n9 ≤ 80 ∧ (kSh1 i (cI (kSilosN b i) 4 4 i) (kShLoss (kSilosN b i) i) 0 (cL (kSilosN b i) 2) (kSilosN b i) (kShLoss (kSilosN b i) i)).2 = nI n9
theorem kSh1_same (s : Nat) (x y : Int32) : ∀ (k i : Nat) (a : CS) (l : Int32), (kSh1 s x y i k a l).1.1 = a.1 ∧ (kSh1 s x y i k a l).1.2.2.1 = a.2.2.1 ∧ (kSh1 s x y i k a l).1.2.2.2.2.2 = a.2.2.2.2.2
  | 0, i, a, l => ⟨rfl, rfl, rfl⟩
  | k + 1, i, a, l => by
    unfold kSh1
    split
    · obtain ⟨h1, h2, h3⟩ := kSh1_same s x y k (i + 1) (kShStep a x y i) (l - kShareOf a x y i)
      obtain ⟨g1, g2, g3⟩ := kShStep_same a x y i
      exact ⟨h1.trans g1, h2.trans g2, h3.trans g3⟩
    · exact kSh1_same s x y k (i + 1) a l
theorem kShrink_same (a : CS) (s : Nat) : (kShrink a s).1 = a.1 ∧ (kShrink a s).2.2.1 = a.2.2.1 ∧ (kShrink a s).2.2.2.2.2 = a.2.2.2.2.2 := by
  unfold kShrink
  split
  · exact ⟨rfl, rfl, rfl⟩
  · split
    · obtain ⟨h1, h2, h3⟩ := kSh1_same s (cI a 4 4 s) (kShLoss a s) (cL a 2) 0 a (kShLoss a s)
      obtain ⟨g1, g2, g3⟩ := kBear_same s (kSh1 s (cI a 4 4 s) (kShLoss a s) 0 (cL a 2) a (kShLoss a s)).2.toNatClampNeg (kSh1 s (cI a 4 4 s) (kShLoss a s) 0 (cL a 2) a (kShLoss a s)).1
      exact ⟨g1.trans h1, g2.trans h2, g3.trans h3⟩
    · exact ⟨rfl, rfl, rfl⟩
theorem kSilosN_same (b : CS) : ∀ n, (kSilosN b n).1 = b.1 ∧ (kSilosN b n).2.2.1 = b.2.2.1 ∧ (kSilosN b n).2.2.2.2.2 = b.2.2.2.2.2
  | 0 => ⟨rfl, rfl, rfl⟩
  | n + 1 => by
    obtain ⟨h1, h2, h3⟩ := kSilosN_same b n
    obtain ⟨g1, g2, g3⟩ := kShrink_same (kSilosN b n) n
    exact ⟨g1.trans h1, g2.trans h2, g3.trans h3⟩
theorem kDay1_same (a : CS) : (kDay1 a).1 = a.1 ∧ (kDay1 a).2.2.1 = a.2.2.1 ∧ (kDay1 a).2.2.2.2.2 = a.2.2.2.2.2 := kSilosN_same (kDay0 a) (cL a 0)
theorem kForfeit_gr (a : CS) (r : Nat) : cGr a (kForfeit a r) := by
  unfold kForfeit
  split
  · exact cGr.rf
  · split
    · exact cGr.rf
    · exact kCh_gr (a := kEndPledge a r) r (cI a 3 4 r)
theorem kForfeit_inv {a : CS} {r : Nat} (hr : r < cN a 3) (h : cInv a) : cInv (kForfeit a r) := by
  obtain ⟨h1, h2, h3⟩ := kForfeit_le (a := a) (r := r)
  refine h.ofGr (kForfeit_gr a r) (kForfeit_ok hr h.1) ?_ ?_
  · rw [h2 3 (by decide), show cL (kForfeit a r) 2 = cL a 2 from congrFun h3 2]
    exact h.2.1.1
  · rw [show cL (kForfeit a r) 2 = cL a 2 from congrFun h3 2]
    exact h.2.1.2
theorem kForfN_ok {b : CS} (h : cInv b) : ∀ n, n ≤ cN b 3 → cInv (kForfN b n) ∧ cGr b (kForfN b n) ∧ cN (kForfN b n) 3 = cN b 3 ∧ cL (kForfN b n) 2 = cL b 2
  | 0, _ => ⟨h, cGr.rf, rfl, rfl⟩
  | n + 1, hn => by
    obtain ⟨h1, h2, h3, h4⟩ := kForfN_ok h n (by omega)
    obtain ⟨g1, g2, g3⟩ := kForfeit_le (a := kForfN b n) (r := n)
    exact ⟨kForfeit_inv (by omega) h1, h2.tr (kForfeit_gr _ n), (g2 3 (by decide)).trans h3, (congrFun g3 2).trans h4⟩
theorem kConStep_gr (a : CS) (c : Nat) : cGr a (kConStep a c) := by
  unfold kConStep
  split
  · split
    · exact kSettle_gr a c
    · exact cGr.rf
  · exact cGr.rf
theorem kConStep_inv {a : CS} {c : Nat} (hc : c < cN a 1) (h : cInv a) : cInv (kConStep a c) := by
  unfold kConStep
  split
  · split
    · exact kSettle_inv hc h
    · exact h
  · exact h
theorem kConsN_ok {b : CS} (h : cInv b) : ∀ n, n ≤ cN b 1 → cInv (kConsN b n) ∧ cGr b (kConsN b n)
  | 0, _ => ⟨h, cGr.rf⟩
  | n + 1, hn => by
    obtain ⟨h1, h2⟩ := kConsN_ok h n (by omega)
    exact ⟨kConStep_inv (Nat.lt_of_lt_of_le hn (h2.1 1)) h1, h2.tr (kConStep_gr _ n)⟩
theorem kForfN_mono {b : CS} : ∀ {n m : Nat}, n ≤ m → cGr (kForfN b n) (kForfN b m)
  | n, m, h => by
    induction m with
    | zero => cases Nat.le_zero.mp h; exact cGr.rf
    | succ m ih =>
      rcases Nat.lt_or_eq_of_le h with q | q
      · exact (ih (by omega)).tr (kForfeit_gr _ m)
      · subst q; exact cGr.rf
theorem kConsN_mono {b : CS} : ∀ {n m : Nat}, n ≤ m → cGr (kConsN b n) (kConsN b m)
  | n, m, h => by
    induction m with
    | zero => cases Nat.le_zero.mp h; exact cGr.rf
    | succ m ih =>
      rcases Nat.lt_or_eq_of_le h with q | q
      · exact (ih (by omega)).tr (kConStep_gr _ m)
      · subst q; exact cGr.rf
theorem kDay1_inv {a : CS} (h : cInv a) : cInv (kDay1 a) ∧ cGr a (kDay1 a) := ⟨h.of (kDay1_same a).1 (kDay1_same a).2.1 (kDay1_same a).2.2, cGr.of (kDay1_same a).1 (kDay1_same a).2.2⟩
theorem kDay2_inv {a : CS} (h : cInv a) : cInv (kDay2 a) ∧ cGr a (kDay2 a) := by
  obtain ⟨h1, h2⟩ := kDay1_inv h
  obtain ⟨g1, g2, -⟩ := kForfN_ok h1 (cL a 2) (by rw [show cN (kDay1 a) 3 = cN a 3 from congrFun (kDay1_same a).1 3]; exact Nat.le_of_eq h.2.1.1)
  exact ⟨g1, h2.tr g2⟩
theorem kDay_inv {a : CS} (h : cInv a) : cInv (kDay a) ∧ cGr a (kDay a) := by
  obtain ⟨h1, h2⟩ := kDay2_inv h
  obtain ⟨g1, g2⟩ := kConsN_ok h1 (cL a 3) (by have := h2.1 1; have := h.2.2.2.2.1; omega)
  exact ⟨g1, h2.tr g2⟩
theorem kDays_inv {a : CS} (h : cInv a) : ∀ n, cInv (kDays a n) ∧ cGr a (kDays a n)
  | 0 => ⟨h, cGr.rf⟩
  | n + 1 => by
    obtain ⟨h1, h2⟩ := kDays_inv h n
    obtain ⟨g1, g2⟩ := kDay_inv h1
    exact ⟨g1, h2.tr g2⟩
theorem kDays_mono {a : CS} (h : cInv a) : ∀ {n m : Nat}, n ≤ m → cGr (kDays a n) (kDays a m)
  | n, m, hh => by
    induction m with
    | zero => cases Nat.le_zero.mp hh; exact cGr.rf
    | succ m ih =>
      rcases Nat.lt_or_eq_of_le hh with q | q
      · exact (ih (by omega)).tr (kDay_inv (kDays_inv h m).1).2
      · subst q; exact cGr.rf
abbrev rpX5_passOneDay (mc ms : Nat) : Room := { frames := 11, cells := mc, slots := ms, locals := 286 }
set_option maxHeartbeats 1500000 in
set_option maxRecDepth 100000 in
theorem k_passOneDay (l : Launch) (D : va_G) (ty : Nat → ClassId) (A : Nat → Prop) (tE : Nat) (el : Nat → Nat → Nat) (a : CS) (inv : cInv a) (hsh : kShOk (kDay0 a)) : Met l yX5_passOneDay wsX5_passOneDay (rpX5_passOneDay (pc (kDay a) - pc a) (ps (kDay a) - ps a)) (gPc D ty true cstrs tE A [.ref (el 6 0)] (hC D ty A tE el a)) (gQ A (gRet none (hX D ty A tE el a (kDay a)))) (pc (kDay a) - pc a) (ps (kDay a) - ps a) A := by
  refine g_Met (cc := cX5_passOneDay) (maxL := 3) (ret := none) [some (.ref (el 6 0)), none, none] (by decide) rfl (Nat.le_of_ble_eq_true rfl) rfl ?_
  intro p e s m args below meth c S hlk hr hnm hK hE hP0
  have S : CallFix p m c cX5_passOneDay 3 s args wsX5_passOneDay RX5 := S
  have L3 : ∀ (kk i : Nat) (el9 : Nat → Nat → Nat), i + kk = cL a 3 → elX a el el9 → gW p l e (headSpec wsX5_passOneDay (rpX5_passOneDay (pc (kDay a) - pc a) (ps (kDay a) - ps a))).room s m args below meth c A (gR below A args s (pc (kDay a) - pc a) (ps (kDay a) - ps a) (gRet none (hX D ty A tE el a (kDay a)))) 3 (hC D ty A tE el9 (kConsN (kDay2 a) i)) (pc (kConsN (kDay2 a) i) - pc a) (ps (kConsN (kDay2 a) i) - ps a) 80 [some (.ref (el9 6 0)), some (.int (nI i)), none] [] := by
    intro kk
    induction kk with
    | zero =>
      intro i el9 ei hx9
      have ein : i = cL a 3 := by omega
      obtain ⟨inv9, gr9⟩ := kConsN_ok (kDay2_inv inv).1 i (by have := (kDay2_inv inv).2.2.2.2.2.2.1; have := inv.2.2.2.2.1; omega)
      have grA := (kDay2_inv inv).2.tr gr9
      have hpc := grA.cost
      have e3 : cL (kConsN (kDay2 a) i) 3 = cL a 3 := grA.2.2.2.1
      have en1 : cN (kConsN (kDay2 a) i) 1 = cN a 1 := grA.2.2.2.2.2.1
      have h313 := inv.2.2.2.2
      have hm0 := (kConsN_mono (b := kDay2 a) (n := i) (m := cL a 3) (by omega)).cost
      have hm9 : pc (kConsN (kDay2 a) i) ≤ pc (kDay a) ∧ ps (kConsN (kDay2 a) i) ≤ ps (kDay a) := hm0
      refine g_iload_n S dX5_passOneDay_80 rfl ?_
      refine g_aload_n S dX5_passOneDay_81 rfl ?_
      refine k6_get S hK (by exact cOb6) 3 (by decide) (S.2.2.2.2 _ (List.mem_of_getElem? (i := 6) rfl)) rfl dX5_passOneDay_82 ?_
      refine g_cVr S (k_size l D ty A tE el9 (kConsN (kDay2 a) i) (j := 3) (by decide)) (cwV 0 S.2.2.2.2 gX5_passOneDay_Jx4a65c_size_8abf5 rfl rfl rfl (by decide +kernel) ⟨Nat.le_of_ble_eq_true rfl, Nat.le_of_ble_eq_true rfl⟩) hK hE (fun H h => h) (k0_recv hK (j := 3) (by decide)) rfl (Nat.le_of_ble_eq_true rfl) dX5_passOneDay_85 ⟨by show (pc (kConsN (kDay2 a) i) - pc a) + 0 ≤ pc (kDay a) - pc a; omega, by show (ps (kConsN (kDay2 a) i) - ps a) + 0 ≤ ps (kDay a) - ps a; omega⟩ ?_
      refine g_icmp_ge S (tgt := 132) dX5_passOneDay_88 (by decide) (fun c_88 => ?_) (fun c_88 => ?_)
      · exact g_vret S hlk hr (fun H h => ⟨rfl, el9, hx9, by rw [ein] at h; exact h⟩) (by rw [ein]; exact Nat.le_refl _) (by rw [ein]; exact Nat.le_refl _) dX5_passOneDay_132
      · exact absurd (lp_exit (nr := cL (kConsN (kDay2 a) i) 3) rfl (by omega) (by omega)) c_88
    | succ kk ih =>
      intro i el9 ei hx9
      obtain ⟨inv9, gr9⟩ := kConsN_ok (kDay2_inv inv).1 i (by have := (kDay2_inv inv).2.2.2.2.2.2.1; have := inv.2.2.2.2.1; omega)
      have grA := (kDay2_inv inv).2.tr gr9
      have hpc := grA.cost
      have e3 : cL (kConsN (kDay2 a) i) 3 = cL a 3 := grA.2.2.2.1
      have en1 : cN (kConsN (kDay2 a) i) 1 = cN a 1 := grA.2.2.2.2.2.1
      have h313 := inv.2.2.2.2
      have hm0 := (kConsN_mono (b := kDay2 a) (n := i) (m := cL a 3) (by omega)).cost
      have hm9 : pc (kConsN (kDay2 a) i) ≤ pc (kDay a) ∧ ps (kConsN (kDay2 a) i) ≤ ps (kDay a) := hm0
      have hq : i < cL (kConsN (kDay2 a) i) 3 := by omega
      have h1 : cOb (kConsN (kDay2 a) i) 1 i := Or.inl ⟨by decide, by omega⟩
      have hmono : cGr (kConsN (kDay2 a) (i + 1)) (kDay a) := kConsN_mono (by omega)
      have hmp := hmono.cost
      refine g_iload_n S dX5_passOneDay_80 rfl ?_
      refine g_aload_n S dX5_passOneDay_81 rfl ?_
      refine k6_get S hK (by exact cOb6) 3 (by decide) (S.2.2.2.2 _ (List.mem_of_getElem? (i := 6) rfl)) rfl dX5_passOneDay_82 ?_
      refine g_cVr S (k_size l D ty A tE el9 (kConsN (kDay2 a) i) (j := 3) (by decide)) (cwV 0 S.2.2.2.2 gX5_passOneDay_Jx4a65c_size_8abf5 rfl rfl rfl (by decide +kernel) ⟨Nat.le_of_ble_eq_true rfl, Nat.le_of_ble_eq_true rfl⟩) hK hE (fun H h => h) (k0_recv hK (j := 3) (by decide)) rfl (Nat.le_of_ble_eq_true rfl) dX5_passOneDay_85 ⟨by show (pc (kConsN (kDay2 a) i) - pc a) + 0 ≤ pc (kDay a) - pc a; omega, by show (ps (kConsN (kDay2 a) i) - ps a) + 0 ≤ ps (kDay a) - ps a; omega⟩ ?_
      refine g_icmp_ge S (tgt := 132) dX5_passOneDay_88 (by decide) (fun c_88 => ?_) (fun c_88 => ?_)
      · exact absurd c_88 (lp_stay (nr := cL (kConsN (kDay2 a) i) 3) rfl (by omega) (by omega))
      · refine g_aload_n S dX5_passOneDay_91 rfl ?_
        refine k6_get S hK (by exact cOb6) 3 (by decide) (S.2.2.2.2 _ (List.mem_of_getElem? (i := 6) rfl)) rfl dX5_passOneDay_92 ?_
        refine g_iload_n S dX5_passOneDay_95 rfl ?_
        refine g_cVr S (k_get l D ty A tE el9 (kConsN (kDay2 a) i) (j := 3) (by decide) hq (by omega)) (cwV 1 S.2.2.2.2 gX5_passOneDay_Jx4a65c_get_915e3 rfl rfl rfl (by decide +kernel) ⟨Nat.le_of_ble_eq_true rfl, Nat.le_of_ble_eq_true rfl⟩) hK hE (fun H h => h) (k0_recv hK (j := 3) (by decide)) rfl (Nat.le_of_ble_eq_true rfl) dX5_passOneDay_96 ⟨by show (pc (kConsN (kDay2 a) i) - pc a) + 0 ≤ pc (kDay a) - pc a; omega, by show (ps (kConsN (kDay2 a) i) - ps a) + 0 ≤ ps (kDay a) - ps a; omega⟩ ?_
        refine g_cast S hK (q := (RX0, TX0, 11)) (S.2.2.2.2 _ (List.mem_of_getElem? (i := 7) rfl)) (ci := 1) rfl (k1_recv hK h1) dX5_passOneDay_99 ?_
        refine g_astore_n S dX5_passOneDay_102 (by decide) rfl ?_
        refine g_aload_n S dX5_passOneDay_103 rfl ?_
        refine k1_get S hK (by exact h1) 6 (by decide) (S.2.2.2.2 _ (List.mem_of_getElem? (i := 8) rfl)) rfl dX5_passOneDay_104 ?_
        refine g_aload_n S dX5_passOneDay_107 rfl ?_
        refine k6_get S hK (by exact cOb6) 9 (by decide) (S.2.2.2.2 _ (List.mem_of_getElem? (i := 1) rfl)) rfl dX5_passOneDay_108 ?_
        refine g_icmp_ne S (tgt := 126) dX5_passOneDay_111 (by decide) (fun c_111 => ?_) (fun c_111 => ?_)
        · refine g_iinc S (v := nI (i + 1)) dX5_passOneDay_126 rfl (nI_inc i) (by decide) rfl ?_
          refine g_goto S (tgt := 80) dX5_passOneDay_129 (by decide) ?_
          refine g_drop 2 ?_
          have es : kConsN (kDay2 a) (i + 1) = (kConsN (kDay2 a) i) := by show kConStep _ i = _; unfold kConStep; rw [if_neg c_111]
          have ih9 := ih (i + 1) el9 (by omega) hx9
          rw [es] at ih9
          exact ih9
        · refine g_aload_n S dX5_passOneDay_114 rfl ?_
          refine k1_get S hK (by exact h1) 8 (by decide) (S.2.2.2.2 _ (List.mem_of_getElem? (i := 9) rfl)) rfl dX5_passOneDay_115 ?_
          refine g_if_ne S (tgt := 126) dX5_passOneDay_118 (by decide) (fun c_118 => ?_) (fun c_118 => ?_)
          · refine g_iinc S (v := nI (i + 1)) dX5_passOneDay_126 rfl (nI_inc i) (by decide) rfl ?_
            refine g_goto S (tgt := 80) dX5_passOneDay_129 (by decide) ?_
            refine g_drop 2 ?_
            have es : kConsN (kDay2 a) (i + 1) = (kConsN (kDay2 a) i) := by show kConStep _ i = _; unfold kConStep; rw [if_pos c_111, if_neg c_118]
            have ih9 := ih (i + 1) el9 (by omega) hx9
            rw [es] at ih9
            exact ih9
          · refine g_aload_n S dX5_passOneDay_121 rfl ?_
            refine g_aload_n S dX5_passOneDay_122 rfl ?_
            have es : kConsN (kDay2 a) (i + 1) = kSettle (kConsN (kDay2 a) i) i := by show kConStep _ i = _; unfold kConStep; rw [if_pos c_111, if_pos c_118]
            have hsp := (kSettle_gr (kConsN (kDay2 a) i) i).cost
            rw [es] at hmp
            refine g_cVh S (k_settle l D ty A tE el9 (kConsN (kDay2 a) i) inv9 (c9 := i) (by omega)) (cwV 1 S.2.2.2.2 gX5_passOneDay_X5_settle rfl rfl rfl (by decide +kernel) ⟨Nat.le_of_ble_eq_true rfl, Nat.le_of_ble_eq_true rfl⟩) hK hE (fun H h => h) (k6_recv hK cOb6) rfl (Nat.le_of_ble_eq_true rfl) dX5_passOneDay_123 ⟨by show (pc (kConsN (kDay2 a) i) - pc a) + (pc (kSettle (kConsN (kDay2 a) i) i) - pc (kConsN (kDay2 a) i)) ≤ pc (kDay a) - pc a; omega, by show (ps (kConsN (kDay2 a) i) - ps a) + (ps (kSettle (kConsN (kDay2 a) i) i) - ps (kConsN (kDay2 a) i)) ≤ ps (kDay a) - ps a; omega⟩ (fun el1 x1 => ?_)
            refine g_lv (show _ = [some (.ref (el1 6 0)), some (.int (nI i)), some (.ref (el9 1 i))] from by rw [x1.ob (a := (kConsN (kDay2 a) i)) cOb6] <;> rfl) ?_
            refine g_iinc S (v := nI (i + 1)) dX5_passOneDay_126 rfl (nI_inc i) (by decide) rfl ?_
            refine g_goto S (tgt := 80) dX5_passOneDay_129 (by decide) ?_
            refine g_drop 2 ?_
            refine g_widen (k' := pc (kConsN (kDay2 a) (i + 1)) - pc a) (n' := ps (kConsN (kDay2 a) (i + 1)) - ps a) (by rw [es]; omega) (by rw [es]; omega) ?_
            have ih9 := ih (i + 1) el1 (by omega) (elX.tr hx9 x1 grA.1)
            rw [es] at ih9 ⊢
            exact ih9
  have L2 : ∀ (kk i : Nat) (el9 : Nat → Nat → Nat), i + kk = cL a 2 → elX a el el9 → gW p l e (headSpec wsX5_passOneDay (rpX5_passOneDay (pc (kDay a) - pc a) (ps (kDay a) - ps a))).room s m args below meth c A (gR below A args s (pc (kDay a) - pc a) (ps (kDay a) - ps a) (gRet none (hX D ty A tE el a (kDay a)))) 3 (hC D ty A tE el9 (kForfN (kDay1 a) i)) (pc (kForfN (kDay1 a) i) - pc a) (ps (kForfN (kDay1 a) i) - ps a) 46 [some (.ref (el9 6 0)), some (.int (nI i)), none] [] := by
    intro kk
    induction kk with
    | zero =>
      intro i el9 ei hx9
      obtain ⟨inv9, gr9, hn39, hl29⟩ := kForfN_ok (kDay1_inv inv).1 i (by rw [show cN (kDay1 a) 3 = cN a 3 from congrFun (kDay1_same a).1 3, ← inv.2.1.1]; omega)
      have grA := (kDay1_inv inv).2.tr gr9
      have hpc := grA.cost
      have e2 : cL (kForfN (kDay1 a) i) 2 = cL a 2 := hl29.trans (congrFun (kDay1_same a).2.2 2)
      have en3 : cN (kForfN (kDay1 a) i) 3 = cN a 3 := hn39.trans (congrFun (kDay1_same a).1 3)
      have h813 := inv.2.1
      have hm0 := (kForfN_mono (b := kDay1 a) (n := i) (m := cL a 2) (by omega)).cost
      have hm9 : pc (kForfN (kDay1 a) i) ≤ pc (kDay2 a) ∧ ps (kForfN (kDay1 a) i) ≤ ps (kDay2 a) := hm0
      have hm3 : cGr (kDay2 a) (kDay a) := kConsN_mono (n := 0) (Nat.zero_le _)
      have hmp3 := hm3.cost
      refine g_iload_n S dX5_passOneDay_46 rfl ?_
      refine g_aload_n S dX5_passOneDay_47 rfl ?_
      refine k6_get S hK (by exact cOb6) 2 (by decide) (S.2.2.2.2 _ (List.mem_of_getElem? (i := 4) rfl)) rfl dX5_passOneDay_48 ?_
      refine g_cVr S (k_size l D ty A tE el9 (kForfN (kDay1 a) i) (j := 2) (by decide)) (cwV 0 S.2.2.2.2 gX5_passOneDay_Jx4a65c_size_8abf5 rfl rfl rfl (by decide +kernel) ⟨Nat.le_of_ble_eq_true rfl, Nat.le_of_ble_eq_true rfl⟩) hK hE (fun H h => h) (k0_recv hK (j := 2) (by decide)) rfl (Nat.le_of_ble_eq_true rfl) dX5_passOneDay_51 ⟨by show (pc (kForfN (kDay1 a) i) - pc a) + 0 ≤ pc (kDay a) - pc a; omega, by show (ps (kForfN (kDay1 a) i) - ps a) + 0 ≤ ps (kDay a) - ps a; omega⟩ ?_
      refine g_icmp_ge S (tgt := 78) dX5_passOneDay_54 (by decide) (fun c_54 => ?_) (fun c_54 => ?_)
      · refine g_iconst S (v := 0) dX5_passOneDay_78 (by decide) ?_
        refine g_istore_n S dX5_passOneDay_79 (by decide) rfl ?_
        have ein : i = cL a 2 := by omega
        subst ein
        exact L3 (cL a 3) 0 el9 (Nat.zero_add _) hx9
      · exact absurd (lp_exit (nr := cL (kForfN (kDay1 a) i) 2) rfl (by omega) (by omega)) c_54
    | succ kk ih =>
      intro i el9 ei hx9
      obtain ⟨inv9, gr9, hn39, hl29⟩ := kForfN_ok (kDay1_inv inv).1 i (by rw [show cN (kDay1 a) 3 = cN a 3 from congrFun (kDay1_same a).1 3, ← inv.2.1.1]; omega)
      have grA := (kDay1_inv inv).2.tr gr9
      have hpc := grA.cost
      have e2 : cL (kForfN (kDay1 a) i) 2 = cL a 2 := hl29.trans (congrFun (kDay1_same a).2.2 2)
      have en3 : cN (kForfN (kDay1 a) i) 3 = cN a 3 := hn39.trans (congrFun (kDay1_same a).1 3)
      have h813 := inv.2.1
      have hm0 := (kForfN_mono (b := kDay1 a) (n := i) (m := cL a 2) (by omega)).cost
      have hm9 : pc (kForfN (kDay1 a) i) ≤ pc (kDay2 a) ∧ ps (kForfN (kDay1 a) i) ≤ ps (kDay2 a) := hm0
      have hm3 : cGr (kDay2 a) (kDay a) := kConsN_mono (n := 0) (Nat.zero_le _)
      have hmp3 := hm3.cost
      have hq : i < cL (kForfN (kDay1 a) i) 2 := by omega
      have h3 : cOb (kForfN (kDay1 a) i) 3 i := Or.inl ⟨by decide, by omega⟩
      have hmono : cGr (kForfN (kDay1 a) (i + 1)) (kDay2 a) := kForfN_mono (by omega)
      have hmp := hmono.cost
      have hfp := kForfeit_pc (kForfN (kDay1 a) i) i
      have es : kForfN (kDay1 a) (i + 1) = kForfeit (kForfN (kDay1 a) i) i := rfl
      rw [es] at hmp
      refine g_iload_n S dX5_passOneDay_46 rfl ?_
      refine g_aload_n S dX5_passOneDay_47 rfl ?_
      refine k6_get S hK (by exact cOb6) 2 (by decide) (S.2.2.2.2 _ (List.mem_of_getElem? (i := 4) rfl)) rfl dX5_passOneDay_48 ?_
      refine g_cVr S (k_size l D ty A tE el9 (kForfN (kDay1 a) i) (j := 2) (by decide)) (cwV 0 S.2.2.2.2 gX5_passOneDay_Jx4a65c_size_8abf5 rfl rfl rfl (by decide +kernel) ⟨Nat.le_of_ble_eq_true rfl, Nat.le_of_ble_eq_true rfl⟩) hK hE (fun H h => h) (k0_recv hK (j := 2) (by decide)) rfl (Nat.le_of_ble_eq_true rfl) dX5_passOneDay_51 ⟨by show (pc (kForfN (kDay1 a) i) - pc a) + 0 ≤ pc (kDay a) - pc a; omega, by show (ps (kForfN (kDay1 a) i) - ps a) + 0 ≤ ps (kDay a) - ps a; omega⟩ ?_
      refine g_icmp_ge S (tgt := 78) dX5_passOneDay_54 (by decide) (fun c_54 => ?_) (fun c_54 => ?_)
      · exact absurd c_54 (lp_stay (nr := cL (kForfN (kDay1 a) i) 2) rfl (by omega) (by omega))
      · refine g_aload_n S dX5_passOneDay_57 rfl ?_
        refine g_aload_n S dX5_passOneDay_58 rfl ?_
        refine k6_get S hK (by exact cOb6) 2 (by decide) (S.2.2.2.2 _ (List.mem_of_getElem? (i := 4) rfl)) rfl dX5_passOneDay_59 ?_
        refine g_iload_n S dX5_passOneDay_62 rfl ?_
        refine g_cVr S (k_get l D ty A tE el9 (kForfN (kDay1 a) i) (j := 2) (by decide) hq (by omega)) (cwV 1 S.2.2.2.2 gX5_passOneDay_Jx4a65c_get_915e3 rfl rfl rfl (by decide +kernel) ⟨Nat.le_of_ble_eq_true rfl, Nat.le_of_ble_eq_true rfl⟩) hK hE (fun H h => h) (k0_recv hK (j := 2) (by decide)) rfl (Nat.le_of_ble_eq_true rfl) dX5_passOneDay_63 ⟨by show (pc (kForfN (kDay1 a) i) - pc a) + 0 ≤ pc (kDay a) - pc a; omega, by show (ps (kForfN (kDay1 a) i) - ps a) + 0 ≤ ps (kDay a) - ps a; omega⟩ ?_
        refine g_cast S hK (q := (RX2, TX2, 9)) (S.2.2.2.2 _ (List.mem_of_getElem? (i := 5) rfl)) (ci := 3) rfl (k3_recv hK h3) dX5_passOneDay_66 ?_
        refine g_cVh S (k_forfeit l D ty A tE el9 (kForfN (kDay1 a) i) cOb6 h3 inv9.1 (by omega)) (cwV 1 S.2.2.2.2 gX5_passOneDay_X5_forfeitIfDue rfl rfl rfl (by decide +kernel) ⟨Nat.le_of_ble_eq_true rfl, Nat.le_of_ble_eq_true rfl⟩) hK hE (fun H h => h) (k6_recv hK cOb6) rfl (Nat.le_of_ble_eq_true rfl) dX5_passOneDay_69 ⟨by show (pc (kForfN (kDay1 a) i) - pc a) + (pc (kForfeit (kForfN (kDay1 a) i) i) - pc (kForfN (kDay1 a) i)) ≤ pc (kDay a) - pc a; omega, by show (ps (kForfN (kDay1 a) i) - ps a) + (ps (kForfeit (kForfN (kDay1 a) i) i) - ps (kForfN (kDay1 a) i)) ≤ ps (kDay a) - ps a; omega⟩ (fun el1 x1 => ?_)
        refine g_lv (show _ = [some (.ref (el1 6 0)), some (.int (nI i)), none] from by rw [x1.ob (a := (kForfN (kDay1 a) i)) cOb6] <;> rfl) ?_
        refine g_iinc S (v := nI (i + 1)) dX5_passOneDay_72 rfl (nI_inc i) (by decide) rfl ?_
        refine g_goto S (tgt := 46) dX5_passOneDay_75 (by decide) ?_
        refine g_drop 2 ?_
        refine g_widen (k' := pc (kForfN (kDay1 a) (i + 1)) - pc a) (n' := ps (kForfN (kDay1 a) (i + 1)) - ps a) (by rw [es]; omega) (by rw [es]; omega) ?_
        exact ih (i + 1) el1 (by omega) (elX.tr hx9 x1 grA.1)
  have L1 : ∀ (kk i : Nat) , i + kk = cL a 0 → gW p l e (headSpec wsX5_passOneDay (rpX5_passOneDay (pc (kDay a) - pc a) (ps (kDay a) - ps a))).room s m args below meth c A (gR below A args s (pc (kDay a) - pc a) (ps (kDay a) - ps a) (gRet none (hX D ty A tE el a (kDay a)))) 3 (hC D ty A tE el (kSilosN (kDay0 a) i)) 0 0 12 [some (.ref (el 6 0)), some (.int (nI i)), none] [] := by
    intro kk
    induction kk with
    | zero =>
      intro i  ei 
      obtain ⟨e91, e92, e93⟩ := kSilosN_same (kDay0 a) i
      have inv9 : cInv (kSilosN (kDay0 a) i) := inv.of e91 e92 e93
      have hpc : pc (kSilosN (kDay0 a) i) = pc a ∧ ps (kSilosN (kDay0 a) i) = ps a := pc_of e91
      have e0 : cL (kSilosN (kDay0 a) i) 0 = cL a 0 := congrFun e93 0
      have en4 : cN (kSilosN (kDay0 a) i) 4 = cN a 4 := congrFun e91 4
      have h646 := inv.2.2.1
      have h812 := inv.2.1.2
      have e2 : cL (kSilosN (kDay0 a) i) 2 = cL a 2 := congrFun e93 2
      refine g_iload_n S dX5_passOneDay_12 rfl ?_
      refine g_aload_n S dX5_passOneDay_13 rfl ?_
      refine k6_get S hK (by exact cOb6) 0 (by decide) (S.2.2.2.2 _ (List.mem_of_getElem? (i := 2) rfl)) rfl dX5_passOneDay_14 ?_
      refine g_cVr S (k_size l D ty A tE el (kSilosN (kDay0 a) i) (j := 0) (by decide)) (cwV 0 S.2.2.2.2 gX5_passOneDay_Jx4a65c_size_8abf5 rfl rfl rfl (by decide +kernel) ⟨Nat.le_of_ble_eq_true rfl, Nat.le_of_ble_eq_true rfl⟩) hK hE (fun H h => h) (k0_recv hK (j := 0) (by decide)) rfl (Nat.le_of_ble_eq_true rfl) dX5_passOneDay_17 ⟨Nat.zero_le _, Nat.zero_le _⟩ ?_
      refine g_icmp_ge S (tgt := 44) dX5_passOneDay_20 (by decide) (fun c_20 => ?_) (fun c_20 => ?_)
      · refine g_iconst S (v := 0) dX5_passOneDay_44 (by decide) ?_
        refine g_istore_n S dX5_passOneDay_45 (by decide) rfl ?_
        have ein : i = cL a 0 := by omega
        subst ein
        refine g_widen (k' := pc (kDay1 a) - pc a) (n' := ps (kDay1 a) - ps a) (Nat.zero_le _) (Nat.zero_le _) ?_
        exact L2 (cL a 2) 0 el (Nat.zero_add _) elX.rf
      · exact absurd (lp_exit (nr := cL (kSilosN (kDay0 a) i) 0) rfl (by omega) (by omega)) c_20
    | succ kk ih =>
      intro i  ei 
      obtain ⟨e91, e92, e93⟩ := kSilosN_same (kDay0 a) i
      have inv9 : cInv (kSilosN (kDay0 a) i) := inv.of e91 e92 e93
      have hpc : pc (kSilosN (kDay0 a) i) = pc a ∧ ps (kSilosN (kDay0 a) i) = ps a := pc_of e91
      have e0 : cL (kSilosN (kDay0 a) i) 0 = cL a 0 := congrFun e93 0
      have en4 : cN (kSilosN (kDay0 a) i) 4 = cN a 4 := congrFun e91 4
      have h646 := inv.2.2.1
      have h812 := inv.2.1.2
      have e2 : cL (kSilosN (kDay0 a) i) 2 = cL a 2 := congrFun e93 2
      have hq : i < cL (kSilosN (kDay0 a) i) 0 := by omega
      have h4 : cOb (kSilosN (kDay0 a) i) 4 i := Or.inl ⟨by decide, by omega⟩
      refine g_iload_n S dX5_passOneDay_12 rfl ?_
      refine g_aload_n S dX5_passOneDay_13 rfl ?_
      refine k6_get S hK (by exact cOb6) 0 (by decide) (S.2.2.2.2 _ (List.mem_of_getElem? (i := 2) rfl)) rfl dX5_passOneDay_14 ?_
      refine g_cVr S (k_size l D ty A tE el (kSilosN (kDay0 a) i) (j := 0) (by decide)) (cwV 0 S.2.2.2.2 gX5_passOneDay_Jx4a65c_size_8abf5 rfl rfl rfl (by decide +kernel) ⟨Nat.le_of_ble_eq_true rfl, Nat.le_of_ble_eq_true rfl⟩) hK hE (fun H h => h) (k0_recv hK (j := 0) (by decide)) rfl (Nat.le_of_ble_eq_true rfl) dX5_passOneDay_17 ⟨Nat.zero_le _, Nat.zero_le _⟩ ?_
      refine g_icmp_ge S (tgt := 44) dX5_passOneDay_20 (by decide) (fun c_20 => ?_) (fun c_20 => ?_)
      · exact absurd c_20 (lp_stay (nr := cL (kSilosN (kDay0 a) i) 0) rfl (by omega) (by omega))
      · refine g_aload_n S dX5_passOneDay_23 rfl ?_
        refine g_aload_n S dX5_passOneDay_24 rfl ?_
        refine k6_get S hK (by exact cOb6) 0 (by decide) (S.2.2.2.2 _ (List.mem_of_getElem? (i := 2) rfl)) rfl dX5_passOneDay_25 ?_
        refine g_iload_n S dX5_passOneDay_28 rfl ?_
        refine g_cVr S (k_get l D ty A tE el (kSilosN (kDay0 a) i) (j := 0) (by decide) hq (by omega)) (cwV 1 S.2.2.2.2 gX5_passOneDay_Jx4a65c_get_915e3 rfl rfl rfl (by decide +kernel) ⟨Nat.le_of_ble_eq_true rfl, Nat.le_of_ble_eq_true rfl⟩) hK hE (fun H h => h) (k0_recv hK (j := 0) (by decide)) rfl (Nat.le_of_ble_eq_true rfl) dX5_passOneDay_29 ⟨Nat.zero_le _, Nat.zero_le _⟩ ?_
        refine g_cast S hK (q := (RX3, TX3, 6)) (S.2.2.2.2 _ (List.mem_of_getElem? (i := 3) rfl)) (ci := 4) rfl (k4_recv hK h4) dX5_passOneDay_32 ?_
        refine g_cVv S (k_shrink l D ty A tE el (kSilosN (kDay0 a) i) cOb6 inv9.1.1 (by omega) (s9 := i) h4 (hsh i (by show i < cL a 0; omega))) (cwV 1 S.2.2.2.2 gX5_passOneDay_X5_shrink rfl rfl rfl (by decide +kernel) ⟨Nat.le_of_ble_eq_true rfl, Nat.le_of_ble_eq_true rfl⟩) hK hE (fun H h => h) (k6_recv hK cOb6) rfl (Nat.le_of_ble_eq_true rfl) dX5_passOneDay_35 ⟨Nat.zero_le _, Nat.zero_le _⟩ ?_
        refine g_iinc S (v := nI (i + 1)) dX5_passOneDay_38 rfl (nI_inc i) (by decide) rfl ?_
        refine g_goto S (tgt := 12) dX5_passOneDay_41 (by decide) ?_
        refine g_drop 2 ?_
        exact ih (i + 1) (by omega)
  refine g_aload_n S dX5_passOneDay_0 rfl ?_
  refine g_dup S dX5_passOneDay_1 rfl ?_
  refine k6_get S hK (by exact cOb6) 9 (by decide) (S.2.2.2.2 _ (List.mem_of_getElem? (i := 1) rfl)) rfl dX5_passOneDay_2 ?_
  refine g_iconst S (v := 1) dX5_passOneDay_5 (by decide) ?_
  refine g_iadd S dX5_passOneDay_6 ?_
  refine k6_put S hK (by exact cOb6) 9 (by decide) (by decide) (S.2.2.2.2 _ (List.mem_of_getElem? (i := 1) rfl)) (Or.inl rfl) rfl rfl dX5_passOneDay_7 ?_
  refine g_iconst S (v := 0) dX5_passOneDay_10 (by decide) ?_
  refine g_istore_n S dX5_passOneDay_11 (by decide) rfl ?_
  exact L1 (cL a 0) 0 (Nat.zero_add _)

abbrev rpX5_pass (mc ms : Nat) : Room := { frames := 12, cells := mc, slots := ms, locals := 308 }
set_option maxHeartbeats 1500000 in
set_option maxRecDepth 100000 in
theorem k_pass (l : Launch) (D : va_G) (ty : Nat → ClassId) (A : Nat → Prop) (tE : Nat) (el : Nat → Nat → Nat) (a : CS) (inv : cInv a) {n9 : Nat} (hn9 : n9 ≤ 30) (hv : mIn (nI n9) 1 30 = true) (hsh : ∀ i, i < n9 → kShOk (kDay0 (kDays a i))) : Met l yX5_pass wsX5_pass (rpX5_pass (pc (kDays a n9) - pc a) (ps (kDays a n9) - ps a)) (gPc D ty true cstrs tE A [.ref (el 6 0), .int (nI n9)] (hC D ty A tE el a)) (gQ A (gRet (some (.int (cI (kDays a n9) 6 9 0))) (hX D ty A tE el a (kDays a n9)))) (pc (kDays a n9) - pc a) (ps (kDays a n9) - ps a) A := by
  refine g_Met (cc := cX5_pass) (maxL := 3) (ret := (some .int)) [some (.ref (el 6 0)), some (.int (nI n9)), none] (by decide) rfl (Nat.le_of_ble_eq_true rfl) rfl ?_
  intro p e s m args below meth c S hlk hr hnm hK hE hP0
  have S : CallFix p m c cX5_pass 3 s args wsX5_pass RX5 := S
  have L : ∀ (kk i : Nat) (el9 : Nat → Nat → Nat), i + kk = n9 → elX a el el9 → gW p l e (headSpec wsX5_pass (rpX5_pass (pc (kDays a n9) - pc a) (ps (kDays a n9) - ps a))).room s m args below meth c A (gR below A args s (pc (kDays a n9) - pc a) (ps (kDays a n9) - ps a) (gRet (some (.int (cI (kDays a n9) 6 9 0))) (hX D ty A tE el a (kDays a n9)))) 3 (hC D ty A tE el9 (kDays a i)) (pc (kDays a i) - pc a) (ps (kDays a i) - ps a) 9 [some (.ref (el9 6 0)), some (.int (nI n9)), some (.int (nI i))] [] := by
    intro kk
    induction kk with
    | zero =>
      intro i el9 ei hx9
      have ein : i = n9 := by omega
      obtain ⟨inv9, gr9⟩ := kDays_inv inv i
      have hpc := gr9.cost
      refine g_iload_n S dX5_pass_9 rfl ?_
      refine g_iload_n S dX5_pass_10 rfl ?_
      refine g_icmp_ge S (tgt := 24) dX5_pass_11 (by decide) (fun c_11 => ?_) (fun c_11 => ?_)
      · refine g_aload_n S dX5_pass_24 rfl ?_
        refine k6_get S hK (by exact cOb6) 9 (by decide) (S.2.2.2.2 _ (List.mem_of_getElem? (i := 1) rfl)) rfl dX5_pass_25 ?_
        exact g_iret S hlk hr (fun H h => ⟨by rw [ein], el9, hx9, by rw [ein] at h; exact h⟩) (by rw [ein]; exact Nat.le_refl _) (by rw [ein]; exact Nat.le_refl _) dX5_pass_28
      · exact absurd (lp_exit (nr := n9) rfl (by omega) (by omega)) c_11
    | succ kk ih =>
      intro i el9 ei hx9
      obtain ⟨inv9, gr9⟩ := kDays_inv inv i
      have hpc := gr9.cost
      have hmp := (kDays_mono inv (n := i + 1) (m := n9) (by omega)).cost
      have hd1 := (kDay_inv inv9).2.cost
      refine g_iload_n S dX5_pass_9 rfl ?_
      refine g_iload_n S dX5_pass_10 rfl ?_
      refine g_icmp_ge S (tgt := 24) dX5_pass_11 (by decide) (fun c_11 => ?_) (fun c_11 => ?_)
      · exact absurd c_11 (lp_stay (nr := n9) rfl (by omega) (by omega))
      · refine g_aload_n S dX5_pass_14 rfl ?_
        refine g_cVh S (k_passOneDay l D ty A tE el9 (kDays a i) inv9 (hsh i (by omega))) (cwV 0 S.2.2.2.2 gX5_pass_X5_passOneDay rfl rfl rfl (by decide +kernel) ⟨Nat.le_of_ble_eq_true rfl, Nat.le_of_ble_eq_true rfl⟩) hK hE (fun H h => h) (k6_recv hK cOb6) rfl (Nat.le_of_ble_eq_true rfl) dX5_pass_15 ⟨by show (pc (kDays a i) - pc a) + (pc (kDay (kDays a i)) - pc (kDays a i)) ≤ pc (kDays a n9) - pc a; have z9 : pc (kDay (kDays a i)) ≤ pc (kDays a n9) := hmp.1; omega, by show (ps (kDays a i) - ps a) + (ps (kDay (kDays a i)) - ps (kDays a i)) ≤ ps (kDays a n9) - ps a; have z9 : ps (kDay (kDays a i)) ≤ ps (kDays a n9) := hmp.2; omega⟩ (fun el1 x1 => ?_)
        refine g_lv (show _ = [some (.ref (el1 6 0)), some (.int (nI n9)), some (.int (nI i))] from by rw [x1.ob (a := (kDays a i)) cOb6] <;> rfl) ?_
        refine g_iinc S (v := nI (i + 1)) dX5_pass_18 rfl (nI_inc i) (by decide) rfl ?_
        refine g_goto S (tgt := 9) dX5_pass_21 (by decide) ?_
        refine g_widen (k' := pc (kDays a (i + 1)) - pc a) (n' := ps (kDays a (i + 1)) - ps a) (by show (pc (kDays a i) - pc a) + (pc (kDay (kDays a i)) - pc (kDays a i)) ≤ pc (kDay (kDays a i)) - pc a; omega) (by show (ps (kDays a i) - ps a) + (ps (kDay (kDays a i)) - ps (kDays a i)) ≤ ps (kDay (kDays a i)) - ps a; omega) ?_
        exact ih (i + 1) el1 (by omega) (elX.tr hx9 x1 gr9.1)
  refine g_iload_n S dX5_pass_0 rfl ?_
  refine g_iconst S (v := 1) dX5_pass_1 (by decide) ?_
  refine g_bipush S (v := 30) dX5_pass_2 (by decide) ?_
  refine g_cSv S (k_needRange l D ty A tE el a _ _ _ _ (by exact hv)) (va_cwS 3 S.2.2.2.2 gX5_pass_X5_needRange rfl rfl rfl (by decide +kernel) ⟨Nat.le_of_ble_eq_true rfl, Nat.le_of_ble_eq_true rfl⟩) hK hE (fun H h => h) rfl (Nat.le_of_ble_eq_true rfl) dX5_pass_4 ⟨Nat.zero_le _, Nat.zero_le _⟩ ?_
  refine g_iconst S (v := 0) dX5_pass_7 (by decide) ?_
  refine g_istore_n S dX5_pass_8 (by decide) rfl ?_
  refine g_widen (k' := pc a - pc a) (n' := ps a - ps a) (by omega) (by omega) ?_
  exact L n9 0 el (Nat.zero_add _) elX.rf

abbrev rtX5_pass : Room := { frames := 8, cells := 1, slots := 6, locals := 300 }
set_option maxHeartbeats 1500000 in
set_option maxRecDepth 100000 in
theorem t_pass (l : Launch) (D : va_G) (ty : Nat → ClassId) (A : Nat → Prop) (hl : l.stackTraces = false) (tE : Nat) (el : Nat → Nat → Nat) (a : CS) (v : Int32) (hv : mIn v 1 30 = false) : vx_Met l yX5_pass wsX5_pass rtX5_pass (gPc D ty true cstrs tE A [.ref (el 6 0), .int v] (hC D ty A tE el a)) (gQ A (fun _ _ => False)) (gX A (fun E H => E = "java/lang/IllegalArgumentException" ∧ hC D ty A tE el a H)) 1 6 A := by
  refine g_tMet (cc := cX5_pass) (maxL := 3) (ret := (some .int)) [some (.ref (el 6 0)), some (.int v), none] (by decide) rfl (Nat.le_of_ble_eq_true rfl) rfl ?_
  intro p e s m args below meth c S hlk hout hK hE hP0
  have S : CallFix p m c cX5_pass 3 s args wsX5_pass RX5 := S
  refine g_iload_n S dX5_pass_0 rfl ?_
  refine g_iconst S (v := 1) dX5_pass_1 (by decide) ?_
  refine g_bipush S (v := 30) dX5_pass_2 (by decide) ?_
  exact g_tcallS S ((t_needRange l D ty A hl tE el a _ (fun H H1 h hz hq => hC_grow h hz hq) _ _ _ (by exact hv))) (va_cwS 3 S.2.2.2.2 gX5_pass_X5_needRange rfl rfl rfl (by decide +kernel) ⟨Nat.le_of_ble_eq_true rfl, Nat.le_of_ble_eq_true rfl⟩) hK hE (fun H h => h) rfl (Nat.le_of_ble_eq_true rfl) dX5_pass_4 ⟨Nat.le_of_ble_eq_true rfl, Nat.le_of_ble_eq_true rfl⟩ (fun E => g_out hout hlk (fun H h => h) (Nat.le_of_ble_eq_true rfl) (Nat.le_of_ble_eq_true rfl))

/-- who held it on a day: back along the tenures -/
def kOwnF (a : CS) (day : Int32) : Nat → Nat → Int32
  | 0, t => if cI a 5 0 t ≤ day then cI a 5 2 t else -1
  | k + 1, t => if cI a 5 0 t ≤ day then cI a 5 2 t else match cR a 5 1 t with
    | none => -1
    | some t' => kOwnF a day k t'
def kOwn (a : CS) (day : Int32) (t : Nat) : Int32 := kOwnF a day t t
/-- a tenure goes back to an elder one -/
def cDec (a : CS) : Prop := ∀ t t', t < cN a 5 → cR a 5 1 t = some t' → t' < t
theorem kOwnF_eq {a : CS} (h : cDec a) (day : Int32) : ∀ (t k k' : Nat), t < cN a 5 → t ≤ k → t ≤ k' → kOwnF a day k t = kOwnF a day k' t := by
  intro t
  induction t using Nat.strongRecOn with
  | _ t ih =>
    intro k k' ht hk hk'
    have e : ∀ k, t ≤ k → kOwnF a day k t = if cI a 5 0 t ≤ day then cI a 5 2 t else match cR a 5 1 t with
      | none => -1
      | some t' => kOwnF a day (t - 1) t' := by
      intro k hk
      cases k with
      | zero =>
        unfold kOwnF
        split
        · rfl
        · cases hc : cR a 5 1 t with
          | none => rfl
          | some t' => exact absurd (h t t' ht hc) (by omega)
      | succ k =>
        show (if cI a 5 0 t ≤ day then cI a 5 2 t else match cR a 5 1 t with | none => -1 | some t' => kOwnF a day k t') = _
        split
        · rfl
        · cases hc : cR a 5 1 t with
          | none => rfl
          | some t' =>
            have hlt := h t t' ht hc
            exact ih t' hlt k (t - 1) (by omega) (by omega) (by omega)
    rw [e k hk, e k' hk']
theorem kOwnF_s {a : CS} {day : Int32} {k t t' : Nat} (h1 : ¬ cI a 5 0 t ≤ day) (h2 : cR a 5 1 t = some t') : kOwnF a day (k + 1) t = kOwnF a day k t' := by
  show (if cI a 5 0 t ≤ day then cI a 5 2 t else match cR a 5 1 t with | none => -1 | some t' => kOwnF a day k t') = _
  rw [if_neg h1, h2]
abbrev rmX5_ownerOn : Room := { frames := 4, cells := 0, slots := 0, locals := 85 }
set_option maxHeartbeats 1500000 in
set_option maxRecDepth 100000 in
theorem k_ownerOn (l : Launch) (D : va_G) (ty : Nat → ClassId) (A : Nat → Prop) (tE : Nat) (el : Nat → Nat → Nat) (a : CS) (h6 : cOb a 6 0) (hb : cL a 2 < 2 ^ 31) {q : Nat} (hq : q < cL a 2) (h3 : cOb a 3 q) (day : Int32) (hv1 : mIn day 0 (cI a 6 9 0) = true) (ht : cR a 3 2 q = some (kT a q)) (htn : kT a q < cN a 5) (hdec : cDec a) : Met l yX5_ownerOn wsX5_ownerOn rmX5_ownerOn (gPc D ty true cstrs tE A [.ref (el 6 0), .int (nI q), .int day] (hC D ty A tE el a)) (gQ A (gRet (some (.int (kOwn a day (kT a q)))) (hC D ty A tE el a))) 0 0 A := by
  refine g_Met (cc := cX5_ownerOn) (maxL := 5) (ret := (some .int)) [some (.ref (el 6 0)), some (.int (nI q)), some (.int day), none, none] (by decide) rfl (Nat.le_of_ble_eq_true rfl) rfl ?_
  intro p e s m args below meth c S hlk hr hnm hK hE hP0
  have S : CallFix p m c cX5_ownerOn 5 s args wsX5_ownerOn RX5 := S
  have L : ∀ (kk t : Nat), t ≤ kk → t < cN a 5 → kOwnF a day kk t = (kOwn a day (kT a q)) → gW p l e (headSpec wsX5_ownerOn rmX5_ownerOn).room s m args below meth c A (gR below A args s 0 0 (gRet (some (.int (kOwn a day (kT a q)))) (hC D ty A tE el a))) 5 (hC D ty A tE el a) 0 0 21 [some (.ref (el 6 0)), some (.int (nI q)), some (.int day), some (.ref (el 3 q)), some (.ref (el 5 t))] [] := by
    intro kk
    induction kk with
    | zero =>
      intro t ht ht9 e1
      have h5 : cOb a 5 t := Or.inl ⟨by decide, ht9⟩
      refine g_aload S dX5_ownerOn_21 rfl ?_
      refine g_ifnull S dX5_ownerOn_23 ?_
      refine g_aload S dX5_ownerOn_26 rfl ?_
      refine k5_get S hK (by exact h5) 0 (by decide) (S.2.2.2.2 _ (List.mem_of_getElem? (i := 3) rfl)) rfl dX5_ownerOn_28 ?_
      refine g_iload_n S dX5_ownerOn_31 rfl ?_
      refine g_icmp_gt S (tgt := 41) dX5_ownerOn_32 (by decide) (fun c_32 => ?_) (fun c_32 => ?_)
      · have hz : cR a 5 1 t = none := by
          cases hc : cR a 5 1 t with
          | none => rfl
          | some t' => exact absurd (hdec t t' ht9 hc) (by omega)
        refine g_aload S dX5_ownerOn_41 rfl ?_
        refine k5_getN S hK (by exact h5) 1 (by decide) (by exact hz) (S.2.2.2.2 _ (List.mem_of_getElem? (i := 5) rfl)) rfl dX5_ownerOn_43 ?_
        refine g_astoreN S dX5_ownerOn_46 (by decide) rfl ?_
        refine g_goto S (tgt := 21) dX5_ownerOn_48 (by decide) ?_
        refine g_aloadN S dX5_ownerOn_21 rfl ?_
        refine g_ifnullN S (tgt := 51) dX5_ownerOn_23 (by decide) ?_
        refine g_iconst S (v := (-1)) dX5_ownerOn_51 (by decide) ?_
        exact g_iret S hlk hr (fun H h => ⟨by rw [← e1]; unfold kOwnF; rw [if_neg (Int32.not_le.mpr c_32)], h⟩) (Nat.le_refl _) (Nat.le_refl _) dX5_ownerOn_52
      · refine g_aload S dX5_ownerOn_35 rfl ?_
        refine k5_get S hK (by exact h5) 2 (by decide) (S.2.2.2.2 _ (List.mem_of_getElem? (i := 4) rfl)) rfl dX5_ownerOn_37 ?_
        exact g_iret S hlk hr (fun H h => ⟨by rw [← e1]; unfold kOwnF; rw [if_pos (Int32.not_lt.mp c_32)], h⟩) (Nat.le_refl _) (Nat.le_refl _) dX5_ownerOn_40
    | succ kk ih =>
      intro t ht ht9 e1
      have h5 : cOb a 5 t := Or.inl ⟨by decide, ht9⟩
      refine g_aload S dX5_ownerOn_21 rfl ?_
      refine g_ifnull S dX5_ownerOn_23 ?_
      refine g_aload S dX5_ownerOn_26 rfl ?_
      refine k5_get S hK (by exact h5) 0 (by decide) (S.2.2.2.2 _ (List.mem_of_getElem? (i := 3) rfl)) rfl dX5_ownerOn_28 ?_
      refine g_iload_n S dX5_ownerOn_31 rfl ?_
      refine g_icmp_gt S (tgt := 41) dX5_ownerOn_32 (by decide) (fun c_32 => ?_) (fun c_32 => ?_)
      · cases hc : cR a 5 1 t with
        | none =>
          refine g_aload S dX5_ownerOn_41 rfl ?_
          refine k5_getN S hK (by exact h5) 1 (by decide) (by exact hc) (S.2.2.2.2 _ (List.mem_of_getElem? (i := 5) rfl)) rfl dX5_ownerOn_43 ?_
          refine g_astoreN S dX5_ownerOn_46 (by decide) rfl ?_
          refine g_goto S (tgt := 21) dX5_ownerOn_48 (by decide) ?_
          refine g_aloadN S dX5_ownerOn_21 rfl ?_
          refine g_ifnullN S (tgt := 51) dX5_ownerOn_23 (by decide) ?_
          refine g_iconst S (v := (-1)) dX5_ownerOn_51 (by decide) ?_
          exact g_iret S hlk hr (fun H h => ⟨by rw [← e1]; unfold kOwnF; rw [if_neg (Int32.not_le.mpr c_32), hc], h⟩) (Nat.le_refl _) (Nat.le_refl _) dX5_ownerOn_52
        | some t' =>
          have hlt := hdec t t' ht9 hc
          refine g_aload S dX5_ownerOn_41 rfl ?_
          refine k5_getR S hK (by exact h5) 1 (by decide) (by exact hc) (S.2.2.2.2 _ (List.mem_of_getElem? (i := 5) rfl)) rfl dX5_ownerOn_43 ?_
          refine g_astore S dX5_ownerOn_46 (by decide) rfl ?_
          refine g_goto S (tgt := 21) dX5_ownerOn_48 (by decide) ?_
          exact ih t' (by omega) (by omega) (by rw [← e1]; exact (kOwnF_s (Int32.not_le.mpr c_32) hc).symm)
      · refine g_aload S dX5_ownerOn_35 rfl ?_
        refine k5_get S hK (by exact h5) 2 (by decide) (S.2.2.2.2 _ (List.mem_of_getElem? (i := 4) rfl)) rfl dX5_ownerOn_37 ?_
        exact g_iret S hlk hr (fun H h => ⟨by rw [← e1]; unfold kOwnF; rw [if_pos (Int32.not_lt.mp c_32)], h⟩) (Nat.le_refl _) (Nat.le_refl _) dX5_ownerOn_40
  refine g_aload_n S dX5_ownerOn_0 rfl ?_
  refine g_iload_n S dX5_ownerOn_1 rfl ?_
  refine g_cVr S (k_findReceipt l D ty A tE el a h6 hb hq h3) (cwV 1 S.2.2.2.2 gX5_ownerOn_X5_findReceipt rfl rfl rfl (by decide +kernel) ⟨Nat.le_of_ble_eq_true rfl, Nat.le_of_ble_eq_true rfl⟩) hK hE (fun H h => h) (k6_recv hK h6) rfl (Nat.le_of_ble_eq_true rfl) dX5_ownerOn_2 ⟨Nat.le_of_ble_eq_true rfl, Nat.le_of_ble_eq_true rfl⟩ ?_
  refine g_astore_n S dX5_ownerOn_5 (by decide) rfl ?_
  refine g_iload_n S dX5_ownerOn_6 rfl ?_
  refine g_iconst S (v := 0) dX5_ownerOn_7 (by decide) ?_
  refine g_aload_n S dX5_ownerOn_8 rfl ?_
  refine k6_get S hK (by exact cOb6) 9 (by decide) (S.2.2.2.2 _ (List.mem_of_getElem? (i := 1) rfl)) rfl dX5_ownerOn_9 ?_
  refine g_cSv S (k_needRange l D ty A tE el a _ _ _ _ (by exact hv1)) (va_cwS 3 S.2.2.2.2 gX5_ownerOn_X5_needRange rfl rfl rfl (by decide +kernel) ⟨Nat.le_of_ble_eq_true rfl, Nat.le_of_ble_eq_true rfl⟩) hK hE (fun H h => h) rfl (Nat.le_of_ble_eq_true rfl) dX5_ownerOn_12 ⟨Nat.le_of_ble_eq_true rfl, Nat.le_of_ble_eq_true rfl⟩ ?_
  refine g_aload_n S dX5_ownerOn_15 rfl ?_
  refine k3_getR S hK (by exact h3) 2 (by decide) (by exact ht) (S.2.2.2.2 _ (List.mem_of_getElem? (i := 2) rfl)) rfl dX5_ownerOn_16 ?_
  refine g_astore S dX5_ownerOn_19 (by decide) rfl ?_
  exact L (kT a q) (kT a q) (Nat.le_refl _) htn rfl

abbrev rtX5_ownerOn : Room := { frames := 8, cells := 1, slots := 6, locals := 300 }
set_option maxHeartbeats 1500000 in
set_option maxRecDepth 100000 in
theorem t_ownerOn2 (l : Launch) (D : va_G) (ty : Nat → ClassId) (A : Nat → Prop) (hl : l.stackTraces = false) (tE : Nat) (el : Nat → Nat → Nat) (a : CS) (h6 : cOb a 6 0) (hb : cL a 2 < 2 ^ 31) {q : Nat} (hq : q < cL a 2) (h3 : cOb a 3 q) (day : Int32) (hv : mIn day 0 (cI a 6 9 0) = false) : vx_Met l yX5_ownerOn wsX5_ownerOn rtX5_ownerOn (gPc D ty true cstrs tE A [.ref (el 6 0), .int (nI q), .int day] (hC D ty A tE el a)) (gQ A (fun _ _ => False)) (gX A (fun E H => E = "java/lang/IllegalArgumentException" ∧ hC D ty A tE el a H)) 1 6 A := by
  refine g_tMet (cc := cX5_ownerOn) (maxL := 5) (ret := (some .int)) [some (.ref (el 6 0)), some (.int (nI q)), some (.int day), none, none] (by decide) rfl (Nat.le_of_ble_eq_true rfl) rfl ?_
  intro p e s m args below meth c S hlk hout hK hE hP0
  have S : CallFix p m c cX5_ownerOn 5 s args wsX5_ownerOn RX5 := S
  refine g_aload_n S dX5_ownerOn_0 rfl ?_
  refine g_iload_n S dX5_ownerOn_1 rfl ?_
  refine g_cVr S (k_findReceipt l D ty A tE el a h6 hb hq h3) (cwV 1 S.2.2.2.2 gX5_ownerOn_X5_findReceipt rfl rfl rfl (by decide +kernel) ⟨Nat.le_of_ble_eq_true rfl, Nat.le_of_ble_eq_true rfl⟩) hK hE (fun H h => h) (k6_recv hK h6) rfl (Nat.le_of_ble_eq_true rfl) dX5_ownerOn_2 ⟨Nat.le_of_ble_eq_true rfl, Nat.le_of_ble_eq_true rfl⟩ ?_
  refine g_astore_n S dX5_ownerOn_5 (by decide) rfl ?_
  refine g_iload_n S dX5_ownerOn_6 rfl ?_
  refine g_iconst S (v := 0) dX5_ownerOn_7 (by decide) ?_
  refine g_aload_n S dX5_ownerOn_8 rfl ?_
  refine k6_get S hK (by exact cOb6) 9 (by decide) (S.2.2.2.2 _ (List.mem_of_getElem? (i := 1) rfl)) rfl dX5_ownerOn_9 ?_
  exact g_tcallS S ((t_needRange l D ty A hl tE el a _ (fun H H1 h hz hq => hC_grow h hz hq) _ _ _ (by exact hv))) (va_cwS 3 S.2.2.2.2 gX5_ownerOn_X5_needRange rfl rfl rfl (by decide +kernel) ⟨Nat.le_of_ble_eq_true rfl, Nat.le_of_ble_eq_true rfl⟩) hK hE (fun H h => h) rfl (Nat.le_of_ble_eq_true rfl) dX5_ownerOn_12 ⟨Nat.le_of_ble_eq_true rfl, Nat.le_of_ble_eq_true rfl⟩ (fun E => g_out hout hlk (fun H h => h) (Nat.le_of_ble_eq_true rfl) (Nat.le_of_ble_eq_true rfl))

set_option maxHeartbeats 1500000 in
set_option maxRecDepth 100000 in
theorem t_ownerOn1 (l : Launch) (D : va_G) (ty : Nat → ClassId) (A : Nat → Prop) (hl : l.stackTraces = false) (tE : Nat) (el : Nat → Nat → Nat) (a : CS) (h6 : cOb a 6 0) (hb : cL a 2 < 2 ^ 31) (v day : Int32) (hv : ¬ vp_in v (cL a 2)) : vx_Met l yX5_ownerOn wsX5_ownerOn rtX5_ownerOn (gPc D ty true cstrs tE A [.ref (el 6 0), .int v, .int day] (hC D ty A tE el a)) (gQ A (fun _ _ => False)) (gX A (fun E H => E = "java/lang/IndexOutOfBoundsException" ∧ hC D ty A tE el a H)) 1 6 A := by
  refine g_tMet (cc := cX5_ownerOn) (maxL := 5) (ret := (some .int)) [some (.ref (el 6 0)), some (.int v), some (.int day), none, none] (by decide) rfl (Nat.le_of_ble_eq_true rfl) rfl ?_
  intro p e s m args below meth c S hlk hout hK hE hP0
  have S : CallFix p m c cX5_ownerOn 5 s args wsX5_ownerOn RX5 := S
  refine g_aload_n S dX5_ownerOn_0 rfl ?_
  refine g_iload_n S dX5_ownerOn_1 rfl ?_
  exact g_tcallV S (t_findReceipt l D ty A hl tE el a h6 hb _ hv) (cwV 1 S.2.2.2.2 gX5_ownerOn_X5_findReceipt rfl rfl rfl (by decide +kernel) ⟨Nat.le_of_ble_eq_true rfl, Nat.le_of_ble_eq_true rfl⟩) hK hE (fun H h => h) (k6_recv hK h6) rfl (Nat.le_of_ble_eq_true rfl) dX5_ownerOn_2 ⟨Nat.le_of_ble_eq_true rfl, Nat.le_of_ble_eq_true rfl⟩ (fun E => g_out hout hlk (fun H h => h) (Nat.le_of_ble_eq_true rfl) (Nat.le_of_ble_eq_true rfl))

