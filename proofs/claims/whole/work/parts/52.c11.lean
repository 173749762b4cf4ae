def kGrF (a : CS) (s : Nat) : Nat → Nat → Option Nat → Int32 → Option Nat
  | _, 0, b, _ => b
  | i, k + 1, b, r => if cI a 3 8 i ≤ r then kGrF a s (i + 1) k b r else if kLiveIn a s i = true then kGrF a s (i + 1) k (some i) (cI a 3 8 i) else kGrF a s (i + 1) k b r
def kGr (a : CS) (s : Nat) : Option Nat := kGrF a s 0 (cL a 2) none (-1)
theorem kGrF_lt {a : CS} {s : Nat} : ∀ (k i : Nat) (b : Option Nat) (r : Int32) (n : Nat), i + k ≤ n → (∀ x, b = some x → x < n) → ∀ x, kGrF a s i k b r = some x → x < n
  | 0, i, b, r, n, _, hb, x, h => hb x h
  | k + 1, i, b, r, n, hn, hb, x, h => by
    unfold kGrF at h
    split at h
    · exact kGrF_lt k (i + 1) b r n (by omega) hb x h
    · split at h
      · exact kGrF_lt k (i + 1) (some i) _ n (by omega) (fun y hy => by cases hy; omega) x h
      · exact kGrF_lt k (i + 1) b r n (by omega) hb x h
theorem cWf_of {a a' : CS} (h1 : a'.1 = a.1) (h2 : a'.2.2.1 = a.2.2.1) (h3 : a'.2.2.2.2.2 = a.2.2.2.2.2) (h : cWf a) : cWf a' := by
  unfold cWf kD kS kT cN cR cL at *
  rw [h1, h2, h3]
  exact h
theorem kTakeFrom_same (a : CS) (r i : Nat) (x : Int32) : (kTakeFrom a r i x).1 = a.1 ∧ (kTakeFrom a r i x).2.2.1 = a.2.2.1 ∧ (kTakeFrom a r i x).2.2.2.2.2 = a.2.2.2.2.2 := by
  unfold kTakeFrom
  simp only
  split <;> exact ⟨rfl, rfl, rfl⟩
theorem cOb_of {a a' : CS} (h1 : a'.1 = a.1) {j i : Nat} (h : cOb a j i) : cOb a' j i := by
  unfold cOb cN at *
  rw [h1]
  exact h
def kBearStep (a : CS) (s : Nat) : CS := match kGr a s with
  | none => a
  | some r => kTakeFrom (cSI a 3 8 r (-1)) r (kS a (kD a r)) 1
def kBear (s : Nat) : Nat → CS → CS
  | 0, a => a
  | k + 1, a => kBear s k (kBearStep a s)
theorem kBearStep_same (a : CS) (s : Nat) : (kBearStep a s).1 = a.1 ∧ (kBearStep a s).2.2.1 = a.2.2.1 ∧ (kBearStep a s).2.2.2.2.2 = a.2.2.2.2.2 := by
  unfold kBearStep
  split
  · exact ⟨rfl, rfl, rfl⟩
  · obtain ⟨h1, h2, h3⟩ := kTakeFrom_same (cSI a 3 8 _ (-1)) _ (kS a (kD a _)) 1
    exact ⟨h1, h2, h3⟩
abbrev rmX5_greatestRemainder : Room := { frames := 3, cells := 0, slots := 0, locals := 64 }
set_option maxHeartbeats 1500000 in
set_option maxRecDepth 100000 in
theorem k_greatest (l : Launch) (D : va_G) (ty : Nat → ClassId) (A : Nat → Prop) (tE : Nat) (el : Nat → Nat → Nat) (a : CS) (h6 : cOb a 6 0) (hwf : cWf a) (hb : cL a 2 < 2 ^ 31) {s9 : Nat} (hs4 : cOb a 4 s9) : Met l yX5_greatestRemainder wsX5_greatestRemainder rmX5_greatestRemainder (gPc D ty true cstrs tE A [.ref (el 6 0), .ref (el 4 s9)] (hC D ty A tE el a)) (gQ A (gRet (some (va_rf ((kGr a s9).map (el 3)))) (hC D ty A tE el a))) 0 0 A := by
  refine g_Met (cc := cX5_greatestRemainder) (maxL := 6) (ret := (some (.object "Grainledger$Receipt"))) [some (.ref (el 6 0)), some (.ref (el 4 s9)), none, none, none, none] (by decide) rfl (Nat.le_of_ble_eq_true rfl) rfl ?_
  intro p e s m args below meth c S hlk hr hnm hK hE hP0
  have S : CallFix p m c cX5_greatestRemainder 6 s args wsX5_greatestRemainder RX5 := S
  have hj : 2 < 4 := by decide
  have L : ∀ (kk i : Nat) (b : Option Nat) (rr : Int32), i + kk = cL a 2 → kGrF a s9 i kk b rr = kGrF a s9 0 (cL a 2) none (-1) → gW p l e (headSpec wsX5_greatestRemainder rmX5_greatestRemainder).room s m args below meth c A (gR below A args s 0 0 (gRet (some (va_rf ((kGr a s9).map (el 3)))) (hC D ty A tE el a))) 6 (hC D ty A tE el a) 0 0 7 [some (.ref (el 6 0)), some (.ref (el 4 s9)), some (va_rf ((b).map (el 3))), some (.int rr), some (.int (nI i)), none] [] := by
    intro kk
    induction kk with
    | zero =>
      intro i b rr ei e1
      refine g_iload S dX5_greatestRemainder_7 rfl ?_
      refine g_aload_n S dX5_greatestRemainder_9 rfl ?_
      refine k6_get S hK (by exact h6) 2 (by decide) (S.2.2.2.2 _ (List.mem_of_getElem? (i := 1) rfl)) rfl dX5_greatestRemainder_10 ?_
      refine g_cVr S (k_size l D ty A tE el a hj) (cwV 0 S.2.2.2.2 gX5_greatestRemainder_Jx4a65c_size_8abf5 rfl rfl rfl (by decide +kernel) ⟨Nat.le_of_ble_eq_true rfl, Nat.le_of_ble_eq_true rfl⟩) hK hE (fun H h => h) (k0_recv hK hj) rfl (Nat.le_of_ble_eq_true rfl) dX5_greatestRemainder_13 ⟨Nat.le_of_ble_eq_true rfl, Nat.le_of_ble_eq_true rfl⟩ ?_
      refine g_icmp_ge S (tgt := 66) dX5_greatestRemainder_16 (by decide) (fun c_16 => ?_) (fun c_16 => ?_)
      · cases b with
        | none =>
          refine g_aload_nN S dX5_greatestRemainder_66 rfl ?_
          exact g_aret S hlk hr (Or.inl ⟨_, rfl⟩) (Or.inl rfl) (fun H h => ⟨by rw [show kGr a s9 = kGrF a s9 0 (cL a 2) none (-1) from rfl, ← e1]; rfl, h⟩) (Nat.le_refl _) (Nat.le_refl _) dX5_greatestRemainder_67
        | some b =>
          refine g_aload_n (x := el 3 b) S dX5_greatestRemainder_66 rfl ?_
          exact g_aret S hlk hr (Or.inl ⟨_, rfl⟩) (Or.inr ⟨_, rfl⟩) (fun H h => ⟨by rw [show kGr a s9 = kGrF a s9 0 (cL a 2) none (-1) from rfl, ← e1]; rfl, h⟩) (Nat.le_refl _) (Nat.le_refl _) dX5_greatestRemainder_67
      · exact absurd (lp_exit (nr := cL a 2) rfl (by omega) (by omega)) c_16
    | succ kk ih =>
      intro i b rr ei e1
      have hq : i < cL a 2 := by omega
      have hr9 := hwf.1 i (by have := hwf.2.2.2.2.1; omega)
      have h3 : cOb a 3 i := Or.inl ⟨by decide, by have := hwf.2.2.2.2.1; omega⟩
      have hd := hr9.1
      have h2 : cOb a 2 (kD a i) := Or.inl ⟨by decide, hr9.2.1⟩
      have ht := hr9.2.2.1
      have h5 : cOb a 5 (kT a i) := Or.inl ⟨by decide, hr9.2.2.2⟩
      have hs9 := hwf.2.1 _ hr9.2.1
      have hs := hs9.1
      have h4 : cOb a 4 (kS a (kD a i)) := Or.inl ⟨by decide, hs9.2⟩
      refine g_iload S dX5_greatestRemainder_7 rfl ?_
      refine g_aload_n S dX5_greatestRemainder_9 rfl ?_
      refine k6_get S hK (by exact h6) 2 (by decide) (S.2.2.2.2 _ (List.mem_of_getElem? (i := 1) rfl)) rfl dX5_greatestRemainder_10 ?_
      refine g_cVr S (k_size l D ty A tE el a hj) (cwV 0 S.2.2.2.2 gX5_greatestRemainder_Jx4a65c_size_8abf5 rfl rfl rfl (by decide +kernel) ⟨Nat.le_of_ble_eq_true rfl, Nat.le_of_ble_eq_true rfl⟩) hK hE (fun H h => h) (k0_recv hK hj) rfl (Nat.le_of_ble_eq_true rfl) dX5_greatestRemainder_13 ⟨Nat.le_of_ble_eq_true rfl, Nat.le_of_ble_eq_true rfl⟩ ?_
      refine g_icmp_ge S (tgt := 66) dX5_greatestRemainder_16 (by decide) (fun c_16 => ?_) (fun c_16 => ?_)
      · exact absurd c_16 (lp_stay (nr := cL a 2) rfl (by omega) (by omega))
      · refine g_aload_n S dX5_greatestRemainder_19 rfl ?_
        refine k6_get S hK (by exact h6) 2 (by decide) (S.2.2.2.2 _ (List.mem_of_getElem? (i := 1) rfl)) rfl dX5_greatestRemainder_20 ?_
        refine g_iload S dX5_greatestRemainder_23 rfl ?_
        refine g_cVr S (k_get l D ty A tE el a hj hq hb) (cwV 1 S.2.2.2.2 gX5_greatestRemainder_Jx4a65c_get_915e3 rfl rfl rfl (by decide +kernel) ⟨Nat.le_of_ble_eq_true rfl, Nat.le_of_ble_eq_true rfl⟩) hK hE (fun H h => h) (k0_recv hK hj) rfl (Nat.le_of_ble_eq_true rfl) dX5_greatestRemainder_25 ⟨Nat.le_of_ble_eq_true rfl, Nat.le_of_ble_eq_true rfl⟩ ?_
        refine g_cast S hK (q := (RX2, TX2, 9)) (S.2.2.2.2 _ (List.mem_of_getElem? (i := 2) rfl)) (ci := 3) rfl (k3_recv hK h3) dX5_greatestRemainder_28 ?_
        refine g_astore S dX5_greatestRemainder_31 (by decide) rfl ?_
        refine g_aload S dX5_greatestRemainder_33 rfl ?_
        refine k3_get S hK (by exact h3) 8 (by decide) (S.2.2.2.2 _ (List.mem_of_getElem? (i := 3) rfl)) rfl dX5_greatestRemainder_35 ?_
        refine g_iload_n S dX5_greatestRemainder_38 rfl ?_
        refine g_icmp_le S (tgt := 60) dX5_greatestRemainder_39 (by decide) (fun c_39 => ?_) (fun c_39 => ?_)
        · refine g_iinc S (v := nI (i + 1)) dX5_greatestRemainder_60 rfl (nI_inc i) (by decide) rfl ?_
          refine g_goto S (tgt := 7) dX5_greatestRemainder_63 (by decide) ?_
          refine g_drop 5 ?_
          exact ih (i + 1) b _ (by omega) (by rw [← e1]; simp only [kGrF]; rw [if_pos c_39])
        · refine g_aload S dX5_greatestRemainder_42 rfl ?_
          refine g_aload_n S dX5_greatestRemainder_44 rfl ?_
          refine g_cVr S (k_isLiveIn l D ty A tE el a h3 hd h2 hs h4 (j := s9) hs4 (hC_inj hP0 h4 hs4)) (cwV 1 S.2.2.2.2 gX5_greatestRemainder_X2_isLiveIn rfl rfl rfl (by decide +kernel) ⟨Nat.le_of_ble_eq_true rfl, Nat.le_of_ble_eq_true rfl⟩) hK hE (fun H h => h) (k3_recv hK (by exact h3)) rfl (Nat.le_of_ble_eq_true rfl) dX5_greatestRemainder_45 ⟨Nat.le_of_ble_eq_true rfl, Nat.le_of_ble_eq_true rfl⟩ ?_
          refine g_ifb_eq S (tgt := 60) dX5_greatestRemainder_48 (by decide) (fun c_48 => ?_) (fun c_48 => ?_)
          · refine g_iinc S (v := nI (i + 1)) dX5_greatestRemainder_60 rfl (nI_inc i) (by decide) rfl ?_
            refine g_goto S (tgt := 7) dX5_greatestRemainder_63 (by decide) ?_
            refine g_drop 5 ?_
            exact ih (i + 1) b _ (by omega) (by rw [← e1]; simp only [kGrF]; rw [if_neg c_39, if_neg (show ¬ kLiveIn a s9 i = true from fun z => absurd (Eq.trans (Eq.symm c_48) z) (by decide))])
          · refine g_aload S dX5_greatestRemainder_51 rfl ?_
            refine g_astore_n S dX5_greatestRemainder_53 (by decide) rfl ?_
            refine g_aload S dX5_greatestRemainder_54 rfl ?_
            refine k3_get S hK (by exact h3) 8 (by decide) (S.2.2.2.2 _ (List.mem_of_getElem? (i := 3) rfl)) rfl dX5_greatestRemainder_56 ?_
            refine g_istore_n S dX5_greatestRemainder_59 (by decide) rfl ?_
            refine g_iinc S (v := nI (i + 1)) dX5_greatestRemainder_60 rfl (nI_inc i) (by decide) rfl ?_
            refine g_goto S (tgt := 7) dX5_greatestRemainder_63 (by decide) ?_
            refine g_drop 5 ?_
            exact ih (i + 1) (some i) _ (by omega) (by rw [← e1]; simp only [kGrF]; rw [if_neg c_39, if_pos (show kLiveIn a s9 i = true from c_48)])
  refine g_null S dX5_greatestRemainder_0 ?_
  refine g_astore_nN S dX5_greatestRemainder_1 (by decide) rfl ?_
  refine g_iconst S (v := (-1)) dX5_greatestRemainder_2 (by decide) ?_
  refine g_istore_n S dX5_greatestRemainder_3 (by decide) rfl ?_
  refine g_iconst S (v := 0) dX5_greatestRemainder_4 (by decide) ?_
  refine g_istore S dX5_greatestRemainder_5 (by decide) rfl ?_
  exact L (cL a 2) 0 none (-1) (Nat.zero_add _) rfl

abbrev rmX5_bearOneEach : Room := { frames := 4, cells := 0, slots := 0, locals := 89 }
set_option maxHeartbeats 1500000 in
set_option maxRecDepth 100000 in
theorem k_bear (l : Launch) (D : va_G) (ty : Nat → ClassId) (A : Nat → Prop) (tE : Nat) (el : Nat → Nat → Nat) (a : CS) (h6 : cOb a 6 0) (hwf : cWf a) (hb : cL a 2 < 2 ^ 31) {s9 : Nat} (hs4 : cOb a 4 s9) (n9 : Nat) (hn9 : n9 ≤ 80) : Met l yX5_bearOneEach wsX5_bearOneEach rmX5_bearOneEach (gPc D ty true cstrs tE A [.ref (el 6 0), .ref (el 4 s9), .int (nI n9)] (hC D ty A tE el a)) (gQ A (gRet none (hC D ty A tE el (kBear s9 n9 a)))) 0 0 A := by
  refine g_Met (cc := cX5_bearOneEach) (maxL := 5) (ret := none) [some (.ref (el 6 0)), some (.ref (el 4 s9)), some (.int (nI n9)), none, none] (by decide) rfl (Nat.le_of_ble_eq_true rfl) rfl ?_
  intro p e s m args below meth c S hlk hr hnm hK hE hP0
  have S : CallFix p m c cX5_bearOneEach 5 s args wsX5_bearOneEach RX5 := S
  have L : ∀ (kk i : Nat) (a9 : CS), i + kk = n9 → a9.1 = a.1 → a9.2.2.1 = a.2.2.1 → a9.2.2.2.2.2 = a.2.2.2.2.2 → kBear s9 kk a9 = kBear s9 n9 a → gW p l e (headSpec wsX5_bearOneEach rmX5_bearOneEach).room s m args below meth c A (gR below A args s 0 0 (gRet none (hC D ty A tE el (kBear s9 n9 a)))) 5 (hC D ty A tE el a9) 0 0 2 [some (.ref (el 6 0)), some (.ref (el 4 s9)), some (.int (nI n9)), some (.int (nI i)), none] [] := by
    intro kk
    induction kk with
    | zero =>
      intro i a9 ei e0 e2 e3 e1
      refine g_iload_n S dX5_bearOneEach_2 rfl ?_
      refine g_iload_n S dX5_bearOneEach_3 rfl ?_
      refine g_icmp_ge S (tgt := 44) dX5_bearOneEach_4 (by decide) (fun c_4 => ?_) (fun c_4 => ?_)
      · exact g_vret S hlk hr (fun H h => ⟨rfl, by rw [← e1]; exact h⟩) (Nat.le_refl _) (Nat.le_refl _) dX5_bearOneEach_44
      · exact absurd (lp_exit (nr := n9) rfl (by omega) (by omega)) c_4
    | succ kk ih =>
      intro i a9 ei e0 e2 e3 e1
      refine g_iload_n S dX5_bearOneEach_2 rfl ?_
      refine g_iload_n S dX5_bearOneEach_3 rfl ?_
      refine g_icmp_ge S (tgt := 44) dX5_bearOneEach_4 (by decide) (fun c_4 => ?_) (fun c_4 => ?_)
      · exact absurd c_4 (lp_stay (nr := n9) rfl (by omega) (by omega))
      · refine g_iload_n S dX5_bearOneEach_7 rfl ?_
        refine g_bipush S (v := 80) dX5_bearOneEach_8 (by decide) ?_
        refine g_icmp_ge S (tgt := 44) dX5_bearOneEach_10 (by decide) (fun c_10 => ?_) (fun c_10 => ?_)
        · exact absurd c_10 (lp_stay (x := 80) (nr := 80) (by decide) (by omega) (by decide))
        · refine g_aload_n S dX5_bearOneEach_13 rfl ?_
          refine g_aload_n S dX5_bearOneEach_14 rfl ?_
          refine g_cVr S (k_greatest l D ty A tE el a9 (cOb_of e0 h6) (cWf_of e0 e2 e3 hwf) (by rw [show cL a9 2 = cL a 2 from congrFun e3 2]; exact hb) (cOb_of e0 hs4)) (cwV 1 S.2.2.2.2 gX5_bearOneEach_X5_greatestRemainder rfl rfl rfl (by decide +kernel) ⟨Nat.le_of_ble_eq_true rfl, Nat.le_of_ble_eq_true rfl⟩) hK hE (fun H h => h) (k6_recv hK (cOb_of e0 h6)) rfl (Nat.le_of_ble_eq_true rfl) dX5_bearOneEach_15 ⟨Nat.le_of_ble_eq_true rfl, Nat.le_of_ble_eq_true rfl⟩ ?_
          cases hg : kGr a9 s9 with
          | none =>
            refine g_st (show _ = [Value.null] from rfl) ?_
            refine g_astoreN S dX5_bearOneEach_18 (by decide) rfl ?_
            refine g_aloadN S dX5_bearOneEach_20 rfl ?_
            refine g_ifnullN S (tgt := 38) dX5_bearOneEach_22 (by decide) ?_
            refine g_iinc S (v := nI (i + 1)) dX5_bearOneEach_38 rfl (nI_inc i) (by decide) rfl ?_
            refine g_goto S (tgt := 2) dX5_bearOneEach_41 (by decide) ?_
            refine g_drop 4 ?_
            have es := kBearStep_same a9 s9
            have e5 : kBearStep a9 s9 = a9 := by unfold kBearStep; rw [hg]
            exact ih (i + 1) _ (by omega) (by rw [← e5, es.1, e0]) (by rw [← e5, es.2.1, e2]) (by rw [← e5, es.2.2, e3]) (by rw [← e1]; show _ = kBear s9 kk (kBearStep a9 s9); rw [e5])
          | some r =>
            have hrl : r < cL a 2 := by have := kGrF_lt (cL a9 2) 0 none (-1) (cL a9 2) (by omega) (fun _ h => by cases h) r hg; rw [show cL a9 2 = cL a 2 from congrFun e3 2] at this; exact this
            have hwf9 : cWf a9 := cWf_of e0 e2 e3 hwf
            have hr9 := hwf9.1 r (by have := hwf.2.2.2.2.1; rw [show cN a9 3 = cN a 3 from congrFun e0 3]; omega)
            have h3 : cOb a9 3 r := Or.inl ⟨by decide, by have := hwf.2.2.2.2.1; rw [show cN a9 3 = cN a 3 from congrFun e0 3]; omega⟩
            have hd := hr9.1
            have h2 : cOb a9 2 (kD a9 r) := Or.inl ⟨by decide, hr9.2.1⟩
            have hs9 := hwf9.2.1 _ hr9.2.1
            have hs := hs9.1
            have h4 : cOb a9 4 (kS a9 (kD a9 r)) := Or.inl ⟨by decide, hs9.2⟩
            refine g_st (show _ = [Value.ref (el 3 r)] from rfl) ?_
            refine g_astore S dX5_bearOneEach_18 (by decide) rfl ?_
            refine g_aload S dX5_bearOneEach_20 rfl ?_
            refine g_ifnull S dX5_bearOneEach_22 ?_
            refine g_aload S dX5_bearOneEach_25 rfl ?_
            refine g_iconst S (v := (-1)) dX5_bearOneEach_27 (by decide) ?_
            refine k3_put S hK (by exact h3) 8 (by decide) (by decide) (S.2.2.2.2 _ (List.mem_of_getElem? (i := 1) rfl)) (Or.inl rfl) rfl rfl dX5_bearOneEach_28 ?_
            refine g_aload_n S dX5_bearOneEach_31 rfl ?_
            refine g_aload S dX5_bearOneEach_32 rfl ?_
            refine g_iconst S (v := 1) dX5_bearOneEach_34 (by decide) ?_
            refine g_cVv S (k_takeFrom l D ty A tE el _ (by exact cOb_of e0 h6) (by exact h3) (by exact hd) (by exact h2) (by exact hs) (by exact h4) _) (cwV 2 S.2.2.2.2 gX5_bearOneEach_X5_takeFrom rfl rfl rfl (by decide +kernel) ⟨Nat.le_of_ble_eq_true rfl, Nat.le_of_ble_eq_true rfl⟩) hK hE (fun H h => h) (k6_recv hK (by exact cOb_of e0 h6)) rfl (Nat.le_of_ble_eq_true rfl) dX5_bearOneEach_35 ⟨Nat.le_of_ble_eq_true rfl, Nat.le_of_ble_eq_true rfl⟩ ?_
            refine g_iinc S (v := nI (i + 1)) dX5_bearOneEach_38 rfl (nI_inc i) (by decide) rfl ?_
            refine g_goto S (tgt := 2) dX5_bearOneEach_41 (by decide) ?_
            refine g_drop 4 ?_
            have es := kBearStep_same a9 s9
            have e5 : kBearStep a9 s9 = kTakeFrom (cSI a9 3 8 r (-1)) r (kS a9 (kD a9 r)) 1 := by unfold kBearStep; rw [hg]
            exact ih (i + 1) _ (by omega) (by rw [← e5, es.1, e0]) (by rw [← e5, es.2.1, e2]) (by rw [← e5, es.2.2, e3]) (by rw [← e1]; show _ = kBear s9 kk (kBearStep a9 s9); rw [e5])
          -- both
  refine g_iconst S (v := 0) dX5_bearOneEach_0 (by decide) ?_
  refine g_istore_n S dX5_bearOneEach_1 (by decide) rfl ?_
  exact L n9 0 a (Nat.zero_add _) rfl rfl rfl rfl

