/-! the law's cases -/
abbrev lvL (b0 x mo o : Nat) (i : Int32) : List (Option Value) := [some (.ref b0), some (.ref x), some (.ref mo), some (.ref o), some (.int i), none, none, none]
theorem lvL_less {a b c d e : Option Value} {lv : List (Option Value)} (h0 : lv[0]? = some a) (h1 : lv[1]? = some b) (h2 : lv[2]? = some c) (h3 : lv[3]? = some d) (h4 : lv[4]? = some e) : ∀ (i : Nat) (v : Value), ([a, b, c, d, e, none, none, none] : List (Option Value))[i]? = some (some v) → lv[i]? = some (some v) := by
  intro i v h
  rcases i with _ | _ | _ | _ | _ | _ | _ | _ | i
  · exact h0.trans h
  · exact h1.trans h
  · exact h2.trans h
  · exact h3.trans h
  · exact h4.trans h
  · exact absurd (Option.some.inj h) (by simp)
  · exact absurd (Option.some.inj h) (by simp)
  · exact absurd (Option.some.inj h) (by simp)
  · simp at h
def LCtx (p : Program) (l : Launch) (s : State) (m : MethodId) (c : Code) (b0 L : Nat) (xs : Nat → Int32) (D : va_G) (ty : Nat → ClassId) (tE o mo : Nat) (ad : Nat → Nat) : Prop :=
  CallFix p m c cL_law 8 s #[Value.ref b0] wsL_law RL ∧ gK D ty s ∧ gE true cstrs (LA s) tE s s.heap ∧ va_X b0 L xs s s.heap ∧ b0 < s.heap.size ∧ L ≤ 4096 ∧ l.stackTraces = false ∧ s.heap.size ≤ o ∧ ¬ AmS mo ad o ∧ ∀ q, AmS mo ad q → s.heap.size ≤ q
theorem lg_self (x : Int64) : lg_cmp x x = 0 := by unfold lg_cmp; simp
set_option maxHeartbeats 2000000 in
set_option maxRecDepth 100000 in
theorem L_silo {p : Program} {l : Launch} {e : Env} {s : State} {m : MethodId} {below : List Frame} {meth : Method} {c : Code} {b0 L : Nat} {xs : Nat → Int32} {D : va_G} {ty : Nat → ClassId} {tE o mo : Nat} {ad : Nat → Nat} {el : Nat → Nat → Nat} {a : CS} {b : MS} {f : Nat → Int64} {T D0 : Nat} (C : LCtx p l s m c b0 L xs D ty tE o mo ad) {i : Nat} (hi : i + 8 ≤ L) (j : SJ T D0 a b) (tn : TN a) (hT : T < 600) (hD : D0 ≤ 90000)
    (kk : ∀ (f' : Nat → Int64) (el' : Nat → Nat → Nat) (a' : CS) (b' : MS), SJ (T + 1) (D0 + 30) a' b' → TN a' → el' 6 0 = el 6 0 → LW p l e s m below meth c b0 (LH D ty s tE o mo ad el' a' b' f') (50 + pc a' + 10 * (T + 1)) (20000 + ps a' + 400 * (T + 1)) 1556 (lvL b0 (el 6 0) mo o (nI i)) []) :
    LW p l e s m below meth c b0 (LH D ty s tE o mo ad el a b f) (50 + pc a + 10 * T) (20000 + ps a + 400 * T) 140 (lvL b0 (el 6 0) mo o (nI i)) [] := by
  obtain ⟨S, hK, hE, hX, hbl, hL, hl, ho1, ho2, hAm⟩ := C
  have ev := ev_S (l := l) hl ho1 ho2
  have hcost := tn.cost j (by omega)
  obtain ⟨k, f', a', b', r, mc, ms, P2, hP2, hW, hMm, ⟨c1, c2⟩, h0, hr, hj, ht⟩ := o_silo (D := D) (ty := ty) (tE := tE) (mo := mo) (Am := AmS mo ad) (ad := ad) (el := el) ev j tn hT hD (xs (i + 1)) f
  have hcost2 := ht.cost hj (by omega)
  have hE1 : ∀ (H : Heap) (locs : List Loc), LH D ty s tE o mo ad el a b f H → va_S (LA s) s.heap H locs → ∀ U : State, U.heap = H → s.WarmedH U.vm → gE true cstrs (AwS s mo ad) tE U U.heap := fun H locs hP hS => gE_at hE hS (fun q h => h.1) (fun q hq => ⟨Nat.le_trans hS.1 hq, fun z => absurd (hM_lt hP.2 q z) (Nat.not_lt.mpr hq)⟩)
  have hk1 : ∀ H H1 : Heap, hM D ty (AmS mo ad) mo ad b H → H.size ≤ H1.size → (∀ q : Nat, q < H.size → ¬ AwS s mo ad q → H1[q]? = H[q]?) → hM D ty (AmS mo ad) mo ad b H1 := fun H H1 h _ hq => hM_kept h (fun q hA hlt => hq q hlt (fun z => z.2 hA))
  refine g_aload_n S dL_law_140 rfl ?_
  refine g_aload_n S dL_law_141 rfl ?_
  refine g_iload S dL_law_142 rfl ?_
  refine g_iconst S (v := 1) dL_law_144 (by decide) ?_
  refine g_iadd S dL_law_145 ?_
  refine g_sld S hX hbl (j := i + 1) (by rw [show (1 : Int32) = nI 1 by decide]; exact nI_plus i 1) (by omega) hL dL_law_146 ?_
  refine g_aload_n S dL_law_147 rfl ?_
  refine g_callSWX (A' := AwS s mo ad) (Pk := hM D ty (AmS mo ad) mo ad b) (As := [.ref (el 6 0), .int (xs (i + 1)), .ref o]) (st := []) S hW (vx_cwSW 3 S.2.2.2.2 gL_law_L_silo rfl rfl rfl (by decide +kernel) ⟨Nat.le_of_ble_eq_true rfl, Nat.le_of_ble_eq_true rfl⟩) hK (fun q h => h.1) hE1 hk1 (fun H h => ⟨h.1, h.2⟩) rfl (Nat.le_of_ble_eq_true rfl) dL_law_148 ⟨by show _ ≤ 601024; omega, by show _ ≤ 7293034; omega⟩ ?_
  intro rr
  refine g_and (b := rr = some (.int k)) (P' := fun H => (P2 H ∧ lrow D ty o f' H) ∧ hM D ty (AmS mo ad) mo ad b H) (fun H h => ⟨h.1.1, h.1.2, h.2⟩) (fun hr9 => ?_)
  subst hr9
  refine g_ex (α := Nat → Nat → Nat) (P' := fun el' H => elX a el el' ∧ LH D ty s tE o mo ad el' a' b f' H) (fun H h => (hP2 H h.1.1).elim fun el' z => ⟨el', z.1, ⟨z.2, h.1.2⟩, h.2⟩) (fun el' => ?_)
  refine g_and (P' := LH D ty s tE o mo ad el' a' b f') (fun H h => h) (fun hel => ?_)
  have hx6 : el' 6 0 = el 6 0 := hel.ob (Or.inr ⟨rfl, rfl⟩)
  have hk2 : ∀ (H H1 : Heap), hC D ty (AcS s mo ad o) tE el' a' H ∧ lrow D ty o f' H → H.size ≤ H1.size → (∀ q : Nat, q < H.size → ¬ AmS mo ad q → H1[q]? = H[q]?) → hC D ty (AcS s mo ad o) tE el' a' H1 ∧ lrow D ty o f' H1 := fun H H1 h _ hq => ⟨hC_kept h.1 (fun q hA hlt => hq q hlt hA.1.2), va_at.kept h.2 (hq o (va_at.lt h.2) ho2)⟩
  refine g_istore S dL_law_151 (by decide) rfl ?_
  refine g_aload_n S dL_law_153 rfl ?_
  refine g_aload_n S dL_law_154 rfl ?_
  refine g_iload S dL_law_155 rfl ?_
  refine g_iconst S (v := 1) dL_law_157 (by decide) ?_
  refine g_iadd S dL_law_158 ?_
  refine g_sld S hX hbl (j := i + 1) (by rw [show (1 : Int32) = nI 1 by decide]; exact nI_plus i 1) (by omega) hL dL_law_159 ?_
  refine g_callVX (b := false) (strs := []) (tE := 0) (A' := AmS mo ad) (Pk := fun H => hC D ty (AcS s mo ad o) tE el' a' H ∧ lrow D ty o f' H) (b0 := mo) (As := [.int (xs (i + 1))]) (st := []) S hMm (cwV 1 S.2.2.2.2 gL_law_X6_silo rfl rfl rfl (by decide +kernel) ⟨Nat.le_of_ble_eq_true rfl, Nat.le_of_ble_eq_true rfl⟩) hK hAm (fun H locs _ _ => gE_no) hk2 (fun H h => ⟨h.2, h.1⟩) (fun H h => m_recv hK H h.2) rfl (Nat.le_of_ble_eq_true rfl) dL_law_160 ⟨by show _ ≤ 601024; omega, by show _ ≤ 7293034; omega⟩ ?_
  intro rr
  refine g_and (b := rr = r) (P' := LH D ty s tE o mo ad el' a' b' f') (fun H h => ⟨h.1.1, h.2, h.1.2⟩) (fun hr9 => ?_)
  subst hr9
  obtain ⟨v, hv9, hr⟩ := hr
  subst hv9
  refine g_istore S dL_law_163 (by decide) rfl ?_
  refine g_aload_n S dL_law_165 rfl ?_
  refine g_callVX (b := false) (strs := []) (tE := 0) (A' := AmS mo ad) (Pk := fun H => hC D ty (AcS s mo ad o) tE el' a' H ∧ lrow D ty o f' H) (b0 := mo) (As := []) (st := []) S (c_thrown l D ty (AmS mo ad) mo ad b') (cwV 0 S.2.2.2.2 gL_law_X6_thrown rfl rfl rfl (by decide +kernel) ⟨Nat.le_of_ble_eq_true rfl, Nat.le_of_ble_eq_true rfl⟩) hK hAm (fun H locs _ _ => gE_no) hk2 (fun H h => ⟨h.2, h.1⟩) (fun H h => m_recv hK H h.2) rfl (Nat.le_of_ble_eq_true rfl) dL_law_166 ⟨by show _ ≤ 601024; omega, by show _ ≤ 7293034; omega⟩ ?_
  intro rr
  refine g_and (b := rr = some (.int (gS b' 0))) (P' := LH D ty s tE o mo ad el' a' b' f') (fun H h => ⟨h.1.1, h.2, h.1.2⟩) (fun hr9 => ?_)
  subst hr9
  refine g_iload S dL_law_169 rfl ?_
  refine g_icmp_eq S (tgt := 176) dL_law_171 (by decide) (fun _ => ?_) (fun c9 => absurd h0 c9)
  refine g_iload S dL_law_176 rfl ?_
  refine g_if_ne S (tgt := 193) dL_law_178 (by decide) (fun _ => ?_) (fun c8 => ?_)
  ·
    refine g_goto S (tgt := 1556) dL_law_193 (by decide) ?_
    exact g_less (lv' := lvL b0 (el 6 0) mo o (nI i)) rfl (lvL_less rfl rfl rfl rfl rfl) (g_widen (k' := 50 + pc a' + 10 * (T + 1)) (n' := 20000 + ps a' + 400 * (T + 1)) (by omega) (by omega) (kk f' el' a' b' hj ht hx6))
  ·
    refine g_aload_n S dL_law_181 rfl ?_
    refine g_iconst S (v := 0) dL_law_182 (by decide) ?_
    refine g_lald S hK (a := o) (N' := 1) (f := f') (fun H h => h.1.2) vin_01 dL_law_183 ?_
    refine g_iload S dL_law_184 rfl ?_
    refine g_i2l S dL_law_186 ?_
    refine g_lcmp S dL_law_187 ?_
    refine g_if_eq S (tgt := 193) dL_law_188 (by decide) (fun _ => ?_) (fun c7 => absurd (by rw [show f' (0 : Int32).toNatClampNeg = f' 0 from rfl, hr c8]; exact lg_self _) c7)
    refine g_goto S (tgt := 1556) dL_law_193 (by decide) ?_
    exact g_less (lv' := lvL b0 (el 6 0) mo o (nI i)) rfl (lvL_less rfl rfl rfl rfl rfl) (g_widen (k' := 50 + pc a' + 10 * (T + 1)) (n' := 20000 + ps a' + 400 * (T + 1)) (by omega) (by omega) (kk f' el' a' b' hj ht hx6))
set_option maxHeartbeats 2000000 in
set_option maxRecDepth 100000 in
theorem L_terms {p : Program} {l : Launch} {e : Env} {s : State} {m : MethodId} {below : List Frame} {meth : Method} {c : Code} {b0 L : Nat} {xs : Nat → Int32} {D : va_G} {ty : Nat → ClassId} {tE o mo : Nat} {ad : Nat → Nat} {el : Nat → Nat → Nat} {a : CS} {b : MS} {f : Nat → Int64} {T D0 : Nat} (C : LCtx p l s m c b0 L xs D ty tE o mo ad) {i : Nat} (hi : i + 8 ≤ L) (j : SJ T D0 a b) (tn : TN a) (hT : T < 600) (hD : D0 ≤ 90000)
    (kk : ∀ (f' : Nat → Int64) (el' : Nat → Nat → Nat) (a' : CS) (b' : MS), SJ (T + 1) (D0 + 30) a' b' → TN a' → el' 6 0 = el 6 0 → LW p l e s m below meth c b0 (LH D ty s tE o mo ad el' a' b' f') (50 + pc a' + 10 * (T + 1)) (20000 + ps a' + 400 * (T + 1)) 1556 (lvL b0 (el 6 0) mo o (nI i)) []) :
    LW p l e s m below meth c b0 (LH D ty s tE o mo ad el a b f) (50 + pc a + 10 * T) (20000 + ps a + 400 * T) 196 (lvL b0 (el 6 0) mo o (nI i)) [] := by
  obtain ⟨S, hK, hE, hX, hbl, hL, hl, ho1, ho2, hAm⟩ := C
  have ev := ev_S (l := l) hl ho1 ho2
  have hcost := tn.cost j (by omega)
  obtain ⟨k, f', a', b', r, mc, ms, P2, hP2, hW, hMm, ⟨c1, c2⟩, h0, hr, hj, ht⟩ := o_terms (D := D) (ty := ty) (tE := tE) (mo := mo) (Am := AmS mo ad) (ad := ad) (el := el) ev j tn hT hD (xs (i + 1)) (xs (i + 2)) (xs (i + 3)) f
  have hcost2 := ht.cost hj (by omega)
  have hE1 : ∀ (H : Heap) (locs : List Loc), LH D ty s tE o mo ad el a b f H → va_S (LA s) s.heap H locs → ∀ U : State, U.heap = H → s.WarmedH U.vm → gE true cstrs (AwS s mo ad) tE U U.heap := fun H locs hP hS => gE_at hE hS (fun q h => h.1) (fun q hq => ⟨Nat.le_trans hS.1 hq, fun z => absurd (hM_lt hP.2 q z) (Nat.not_lt.mpr hq)⟩)
  have hk1 : ∀ H H1 : Heap, hM D ty (AmS mo ad) mo ad b H → H.size ≤ H1.size → (∀ q : Nat, q < H.size → ¬ AwS s mo ad q → H1[q]? = H[q]?) → hM D ty (AmS mo ad) mo ad b H1 := fun H H1 h _ hq => hM_kept h (fun q hA hlt => hq q hlt (fun z => z.2 hA))
  refine g_aload_n S dL_law_196 rfl ?_
  refine g_aload_n S dL_law_197 rfl ?_
  refine g_iload S dL_law_198 rfl ?_
  refine g_iconst S (v := 1) dL_law_200 (by decide) ?_
  refine g_iadd S dL_law_201 ?_
  refine g_sld S hX hbl (j := i + 1) (by rw [show (1 : Int32) = nI 1 by decide]; exact nI_plus i 1) (by omega) hL dL_law_202 ?_
  refine g_aload_n S dL_law_203 rfl ?_
  refine g_iload S dL_law_204 rfl ?_
  refine g_iconst S (v := 2) dL_law_206 (by decide) ?_
  refine g_iadd S dL_law_207 ?_
  refine g_sld S hX hbl (j := i + 2) (by rw [show (2 : Int32) = nI 2 by decide]; exact nI_plus i 2) (by omega) hL dL_law_208 ?_
  refine g_aload_n S dL_law_209 rfl ?_
  refine g_iload S dL_law_210 rfl ?_
  refine g_iconst S (v := 3) dL_law_212 (by decide) ?_
  refine g_iadd S dL_law_213 ?_
  refine g_sld S hX hbl (j := i + 3) (by rw [show (3 : Int32) = nI 3 by decide]; exact nI_plus i 3) (by omega) hL dL_law_214 ?_
  refine g_callSWX (A' := AwS s mo ad) (Pk := hM D ty (AmS mo ad) mo ad b) (As := [.ref (el 6 0), .int (xs (i + 1)), .int (xs (i + 2)), .int (xs (i + 3))]) (st := []) S hW (vx_cwSW 4 S.2.2.2.2 gL_law_L_terms rfl rfl rfl (by decide +kernel) ⟨Nat.le_of_ble_eq_true rfl, Nat.le_of_ble_eq_true rfl⟩) hK (fun q h => h.1) hE1 hk1 (fun H h => ⟨h.1, h.2⟩) rfl (Nat.le_of_ble_eq_true rfl) dL_law_215 ⟨by show _ ≤ 601024; omega, by show _ ≤ 7293034; omega⟩ ?_
  intro rr
  refine g_and (b := rr = some (.int k)) (P' := fun H => (P2 H ∧ lrow D ty o f' H) ∧ hM D ty (AmS mo ad) mo ad b H) (fun H h => ⟨h.1.1, h.1.2, h.2⟩) (fun hr9 => ?_)
  subst hr9
  refine g_ex (α := Nat → Nat → Nat) (P' := fun el' H => elX a el el' ∧ LH D ty s tE o mo ad el' a' b f' H) (fun H h => (hP2 H h.1.1).elim fun el' z => ⟨el', z.1, ⟨z.2, h.1.2⟩, h.2⟩) (fun el' => ?_)
  refine g_and (P' := LH D ty s tE o mo ad el' a' b f') (fun H h => h) (fun hel => ?_)
  have hx6 : el' 6 0 = el 6 0 := hel.ob (Or.inr ⟨rfl, rfl⟩)
  have hk2 : ∀ (H H1 : Heap), hC D ty (AcS s mo ad o) tE el' a' H ∧ lrow D ty o f' H → H.size ≤ H1.size → (∀ q : Nat, q < H.size → ¬ AmS mo ad q → H1[q]? = H[q]?) → hC D ty (AcS s mo ad o) tE el' a' H1 ∧ lrow D ty o f' H1 := fun H H1 h _ hq => ⟨hC_kept h.1 (fun q hA hlt => hq q hlt hA.1.2), va_at.kept h.2 (hq o (va_at.lt h.2) ho2)⟩
  refine g_istore S dL_law_218 (by decide) rfl ?_
  refine g_aload_n S dL_law_220 rfl ?_
  refine g_aload_n S dL_law_221 rfl ?_
  refine g_iload S dL_law_222 rfl ?_
  refine g_iconst S (v := 1) dL_law_224 (by decide) ?_
  refine g_iadd S dL_law_225 ?_
  refine g_sld S hX hbl (j := i + 1) (by rw [show (1 : Int32) = nI 1 by decide]; exact nI_plus i 1) (by omega) hL dL_law_226 ?_
  refine g_aload_n S dL_law_227 rfl ?_
  refine g_iload S dL_law_228 rfl ?_
  refine g_iconst S (v := 2) dL_law_230 (by decide) ?_
  refine g_iadd S dL_law_231 ?_
  refine g_sld S hX hbl (j := i + 2) (by rw [show (2 : Int32) = nI 2 by decide]; exact nI_plus i 2) (by omega) hL dL_law_232 ?_
  refine g_aload_n S dL_law_233 rfl ?_
  refine g_iload S dL_law_234 rfl ?_
  refine g_iconst S (v := 3) dL_law_236 (by decide) ?_
  refine g_iadd S dL_law_237 ?_
  refine g_sld S hX hbl (j := i + 3) (by rw [show (3 : Int32) = nI 3 by decide]; exact nI_plus i 3) (by omega) hL dL_law_238 ?_
  refine g_callVX (b := false) (strs := []) (tE := 0) (A' := AmS mo ad) (Pk := fun H => hC D ty (AcS s mo ad o) tE el' a' H ∧ lrow D ty o f' H) (b0 := mo) (As := [.int (xs (i + 1)), .int (xs (i + 2)), .int (xs (i + 3))]) (st := []) S hMm (cwV 3 S.2.2.2.2 gL_law_X6_terms rfl rfl rfl (by decide +kernel) ⟨Nat.le_of_ble_eq_true rfl, Nat.le_of_ble_eq_true rfl⟩) hK hAm (fun H locs _ _ => gE_no) hk2 (fun H h => ⟨h.2, h.1⟩) (fun H h => m_recv hK H h.2) rfl (Nat.le_of_ble_eq_true rfl) dL_law_239 ⟨by show _ ≤ 601024; omega, by show _ ≤ 7293034; omega⟩ ?_
  intro rr
  refine g_and (b := rr = r) (P' := LH D ty s tE o mo ad el' a' b' f') (fun H h => ⟨h.1.1, h.2, h.1.2⟩) (fun hr9 => ?_)
  subst hr9
  cases (show rr = none from hr)
  refine g_aload_n S dL_law_242 rfl ?_
  refine g_callVX (b := false) (strs := []) (tE := 0) (A' := AmS mo ad) (Pk := fun H => hC D ty (AcS s mo ad o) tE el' a' H ∧ lrow D ty o f' H) (b0 := mo) (As := []) (st := []) S (c_thrown l D ty (AmS mo ad) mo ad b') (cwV 0 S.2.2.2.2 gL_law_X6_thrown rfl rfl rfl (by decide +kernel) ⟨Nat.le_of_ble_eq_true rfl, Nat.le_of_ble_eq_true rfl⟩) hK hAm (fun H locs _ _ => gE_no) hk2 (fun H h => ⟨h.2, h.1⟩) (fun H h => m_recv hK H h.2) rfl (Nat.le_of_ble_eq_true rfl) dL_law_243 ⟨by show _ ≤ 601024; omega, by show _ ≤ 7293034; omega⟩ ?_
  intro rr
  refine g_and (b := rr = some (.int (gS b' 0))) (P' := LH D ty s tE o mo ad el' a' b' f') (fun H h => ⟨h.1.1, h.2, h.1.2⟩) (fun hr9 => ?_)
  subst hr9
  refine g_iload S dL_law_246 rfl ?_
  refine g_icmp_eq S (tgt := 253) dL_law_248 (by decide) (fun _ => ?_) (fun c9 => absurd h0 c9)
  refine g_goto S (tgt := 1556) dL_law_253 (by decide) ?_
  exact g_less (lv' := lvL b0 (el 6 0) mo o (nI i)) rfl (lvL_less rfl rfl rfl rfl rfl) (g_widen (k' := 50 + pc a' + 10 * (T + 1)) (n' := 20000 + ps a' + 400 * (T + 1)) (by omega) (by omega) (kk f' el' a' b' hj ht hx6))
set_option maxHeartbeats 2000000 in
set_option maxRecDepth 100000 in
theorem L_deliver {p : Program} {l : Launch} {e : Env} {s : State} {m : MethodId} {below : List Frame} {meth : Method} {c : Code} {b0 L : Nat} {xs : Nat → Int32} {D : va_G} {ty : Nat → ClassId} {tE o mo : Nat} {ad : Nat → Nat} {el : Nat → Nat → Nat} {a : CS} {b : MS} {f : Nat → Int64} {T D0 : Nat} (C : LCtx p l s m c b0 L xs D ty tE o mo ad) {i : Nat} (hi : i + 8 ≤ L) (j : SJ T D0 a b) (tn : TN a) (hT : T < 600) (hD : D0 ≤ 90000)
    (kk : ∀ (f' : Nat → Int64) (el' : Nat → Nat → Nat) (a' : CS) (b' : MS), SJ (T + 1) (D0 + 30) a' b' → TN a' → el' 6 0 = el 6 0 → LW p l e s m below meth c b0 (LH D ty s tE o mo ad el' a' b' f') (50 + pc a' + 10 * (T + 1)) (20000 + ps a' + 400 * (T + 1)) 1556 (lvL b0 (el 6 0) mo o (nI i)) []) :
    LW p l e s m below meth c b0 (LH D ty s tE o mo ad el a b f) (50 + pc a + 10 * T) (20000 + ps a + 400 * T) 256 (lvL b0 (el 6 0) mo o (nI i)) [] := by
  obtain ⟨S, hK, hE, hX, hbl, hL, hl, ho1, ho2, hAm⟩ := C
  have ev := ev_S (l := l) hl ho1 ho2
  have hcost := tn.cost j (by omega)
  obtain ⟨k, f', a', b', r, mc, ms, P2, hP2, hW, hMm, ⟨c1, c2⟩, h0, hr, hj, ht⟩ := o_deliver (D := D) (ty := ty) (tE := tE) (mo := mo) (Am := AmS mo ad) (ad := ad) (el := el) ev j tn hT hD (xs (i + 1)) (xs (i + 2)) (xs (i + 3)) (xs (i + 4)) f
  have hcost2 := ht.cost hj (by omega)
  have hE1 : ∀ (H : Heap) (locs : List Loc), LH D ty s tE o mo ad el a b f H → va_S (LA s) s.heap H locs → ∀ U : State, U.heap = H → s.WarmedH U.vm → gE true cstrs (AwS s mo ad) tE U U.heap := fun H locs hP hS => gE_at hE hS (fun q h => h.1) (fun q hq => ⟨Nat.le_trans hS.1 hq, fun z => absurd (hM_lt hP.2 q z) (Nat.not_lt.mpr hq)⟩)
  have hk1 : ∀ H H1 : Heap, hM D ty (AmS mo ad) mo ad b H → H.size ≤ H1.size → (∀ q : Nat, q < H.size → ¬ AwS s mo ad q → H1[q]? = H[q]?) → hM D ty (AmS mo ad) mo ad b H1 := fun H H1 h _ hq => hM_kept h (fun q hA hlt => hq q hlt (fun z => z.2 hA))
  refine g_aload_n S dL_law_256 rfl ?_
  refine g_aload_n S dL_law_257 rfl ?_
  refine g_iload S dL_law_258 rfl ?_
  refine g_iconst S (v := 1) dL_law_260 (by decide) ?_
  refine g_iadd S dL_law_261 ?_
  refine g_sld S hX hbl (j := i + 1) (by rw [show (1 : Int32) = nI 1 by decide]; exact nI_plus i 1) (by omega) hL dL_law_262 ?_
  refine g_aload_n S dL_law_263 rfl ?_
  refine g_iload S dL_law_264 rfl ?_
  refine g_iconst S (v := 2) dL_law_266 (by decide) ?_
  refine g_iadd S dL_law_267 ?_
  refine g_sld S hX hbl (j := i + 2) (by rw [show (2 : Int32) = nI 2 by decide]; exact nI_plus i 2) (by omega) hL dL_law_268 ?_
  refine g_aload_n S dL_law_269 rfl ?_
  refine g_iload S dL_law_270 rfl ?_
  refine g_iconst S (v := 3) dL_law_272 (by decide) ?_
  refine g_iadd S dL_law_273 ?_
  refine g_sld S hX hbl (j := i + 3) (by rw [show (3 : Int32) = nI 3 by decide]; exact nI_plus i 3) (by omega) hL dL_law_274 ?_
  refine g_aload_n S dL_law_275 rfl ?_
  refine g_iload S dL_law_276 rfl ?_
  refine g_iconst S (v := 4) dL_law_278 (by decide) ?_
  refine g_iadd S dL_law_279 ?_
  refine g_sld S hX hbl (j := i + 4) (by rw [show (4 : Int32) = nI 4 by decide]; exact nI_plus i 4) (by omega) hL dL_law_280 ?_
  refine g_aload_n S dL_law_281 rfl ?_
  refine g_callSWX (A' := AwS s mo ad) (Pk := hM D ty (AmS mo ad) mo ad b) (As := [.ref (el 6 0), .int (xs (i + 1)), .int (xs (i + 2)), .int (xs (i + 3)), .int (xs (i + 4)), .ref o]) (st := []) S hW (vx_cwSW 6 S.2.2.2.2 gL_law_L_deliver rfl rfl rfl (by decide +kernel) ⟨Nat.le_of_ble_eq_true rfl, Nat.le_of_ble_eq_true rfl⟩) hK (fun q h => h.1) hE1 hk1 (fun H h => ⟨h.1, h.2⟩) rfl (Nat.le_of_ble_eq_true rfl) dL_law_282 ⟨by show _ ≤ 601024; omega, by show _ ≤ 7293034; omega⟩ ?_
  intro rr
  refine g_and (b := rr = some (.int k)) (P' := fun H => (P2 H ∧ lrow D ty o f' H) ∧ hM D ty (AmS mo ad) mo ad b H) (fun H h => ⟨h.1.1, h.1.2, h.2⟩) (fun hr9 => ?_)
  subst hr9
  refine g_ex (α := Nat → Nat → Nat) (P' := fun el' H => elX a el el' ∧ LH D ty s tE o mo ad el' a' b f' H) (fun H h => (hP2 H h.1.1).elim fun el' z => ⟨el', z.1, ⟨z.2, h.1.2⟩, h.2⟩) (fun el' => ?_)
  refine g_and (P' := LH D ty s tE o mo ad el' a' b f') (fun H h => h) (fun hel => ?_)
  have hx6 : el' 6 0 = el 6 0 := hel.ob (Or.inr ⟨rfl, rfl⟩)
  have hk2 : ∀ (H H1 : Heap), hC D ty (AcS s mo ad o) tE el' a' H ∧ lrow D ty o f' H → H.size ≤ H1.size → (∀ q : Nat, q < H.size → ¬ AmS mo ad q → H1[q]? = H[q]?) → hC D ty (AcS s mo ad o) tE el' a' H1 ∧ lrow D ty o f' H1 := fun H H1 h _ hq => ⟨hC_kept h.1 (fun q hA hlt => hq q hlt hA.1.2), va_at.kept h.2 (hq o (va_at.lt h.2) ho2)⟩
  refine g_istore S dL_law_285 (by decide) rfl ?_
  refine g_aload_n S dL_law_287 rfl ?_
  refine g_aload_n S dL_law_288 rfl ?_
  refine g_iload S dL_law_289 rfl ?_
  refine g_iconst S (v := 1) dL_law_291 (by decide) ?_
  refine g_iadd S dL_law_292 ?_
  refine g_sld S hX hbl (j := i + 1) (by rw [show (1 : Int32) = nI 1 by decide]; exact nI_plus i 1) (by omega) hL dL_law_293 ?_
  refine g_aload_n S dL_law_294 rfl ?_
  refine g_iload S dL_law_295 rfl ?_
  refine g_iconst S (v := 2) dL_law_297 (by decide) ?_
  refine g_iadd S dL_law_298 ?_
  refine g_sld S hX hbl (j := i + 2) (by rw [show (2 : Int32) = nI 2 by decide]; exact nI_plus i 2) (by omega) hL dL_law_299 ?_
  refine g_aload_n S dL_law_300 rfl ?_
  refine g_iload S dL_law_301 rfl ?_
  refine g_iconst S (v := 3) dL_law_303 (by decide) ?_
  refine g_iadd S dL_law_304 ?_
  refine g_sld S hX hbl (j := i + 3) (by rw [show (3 : Int32) = nI 3 by decide]; exact nI_plus i 3) (by omega) hL dL_law_305 ?_
  refine g_aload_n S dL_law_306 rfl ?_
  refine g_iload S dL_law_307 rfl ?_
  refine g_iconst S (v := 4) dL_law_309 (by decide) ?_
  refine g_iadd S dL_law_310 ?_
  refine g_sld S hX hbl (j := i + 4) (by rw [show (4 : Int32) = nI 4 by decide]; exact nI_plus i 4) (by omega) hL dL_law_311 ?_
  refine g_callVX (b := false) (strs := []) (tE := 0) (A' := AmS mo ad) (Pk := fun H => hC D ty (AcS s mo ad o) tE el' a' H ∧ lrow D ty o f' H) (b0 := mo) (As := [.int (xs (i + 1)), .int (xs (i + 2)), .int (xs (i + 3)), .int (xs (i + 4))]) (st := []) S hMm (cwV 4 S.2.2.2.2 gL_law_X6_deliver rfl rfl rfl (by decide +kernel) ⟨Nat.le_of_ble_eq_true rfl, Nat.le_of_ble_eq_true rfl⟩) hK hAm (fun H locs _ _ => gE_no) hk2 (fun H h => ⟨h.2, h.1⟩) (fun H h => m_recv hK H h.2) rfl (Nat.le_of_ble_eq_true rfl) dL_law_312 ⟨by show _ ≤ 601024; omega, by show _ ≤ 7293034; omega⟩ ?_
  intro rr
  refine g_and (b := rr = r) (P' := LH D ty s tE o mo ad el' a' b' f') (fun H h => ⟨h.1.1, h.2, h.1.2⟩) (fun hr9 => ?_)
  subst hr9
  obtain ⟨v, hv9, hr⟩ := hr
  subst hv9
  refine g_istore S dL_law_315 (by decide) rfl ?_
  refine g_aload_n S dL_law_317 rfl ?_
  refine g_callVX (b := false) (strs := []) (tE := 0) (A' := AmS mo ad) (Pk := fun H => hC D ty (AcS s mo ad o) tE el' a' H ∧ lrow D ty o f' H) (b0 := mo) (As := []) (st := []) S (c_thrown l D ty (AmS mo ad) mo ad b') (cwV 0 S.2.2.2.2 gL_law_X6_thrown rfl rfl rfl (by decide +kernel) ⟨Nat.le_of_ble_eq_true rfl, Nat.le_of_ble_eq_true rfl⟩) hK hAm (fun H locs _ _ => gE_no) hk2 (fun H h => ⟨h.2, h.1⟩) (fun H h => m_recv hK H h.2) rfl (Nat.le_of_ble_eq_true rfl) dL_law_318 ⟨by show _ ≤ 601024; omega, by show _ ≤ 7293034; omega⟩ ?_
  intro rr
  refine g_and (b := rr = some (.int (gS b' 0))) (P' := LH D ty s tE o mo ad el' a' b' f') (fun H h => ⟨h.1.1, h.2, h.1.2⟩) (fun hr9 => ?_)
  subst hr9
  refine g_iload S dL_law_321 rfl ?_
  refine g_icmp_eq S (tgt := 328) dL_law_323 (by decide) (fun _ => ?_) (fun c9 => absurd h0 c9)
  refine g_iload S dL_law_328 rfl ?_
  refine g_if_ne S (tgt := 345) dL_law_330 (by decide) (fun _ => ?_) (fun c8 => ?_)
  ·
    refine g_goto S (tgt := 1556) dL_law_345 (by decide) ?_
    exact g_less (lv' := lvL b0 (el 6 0) mo o (nI i)) rfl (lvL_less rfl rfl rfl rfl rfl) (g_widen (k' := 50 + pc a' + 10 * (T + 1)) (n' := 20000 + ps a' + 400 * (T + 1)) (by omega) (by omega) (kk f' el' a' b' hj ht hx6))
  ·
    refine g_aload_n S dL_law_333 rfl ?_
    refine g_iconst S (v := 0) dL_law_334 (by decide) ?_
    refine g_lald S hK (a := o) (N' := 1) (f := f') (fun H h => h.1.2) vin_01 dL_law_335 ?_
    refine g_iload S dL_law_336 rfl ?_
    refine g_i2l S dL_law_338 ?_
    refine g_lcmp S dL_law_339 ?_
    refine g_if_eq S (tgt := 345) dL_law_340 (by decide) (fun _ => ?_) (fun c7 => absurd (by rw [show f' (0 : Int32).toNatClampNeg = f' 0 from rfl, hr c8]; exact lg_self _) c7)
    refine g_goto S (tgt := 1556) dL_law_345 (by decide) ?_
    exact g_less (lv' := lvL b0 (el 6 0) mo o (nI i)) rfl (lvL_less rfl rfl rfl rfl rfl) (g_widen (k' := 50 + pc a' + 10 * (T + 1)) (n' := 20000 + ps a' + 400 * (T + 1)) (by omega) (by omega) (kk f' el' a' b' hj ht hx6))
set_option maxHeartbeats 2000000 in
set_option maxRecDepth 100000 in
theorem L_split {p : Program} {l : Launch} {e : Env} {s : State} {m : MethodId} {below : List Frame} {meth : Method} {c : Code} {b0 L : Nat} {xs : Nat → Int32} {D : va_G} {ty : Nat → ClassId} {tE o mo : Nat} {ad : Nat → Nat} {el : Nat → Nat → Nat} {a : CS} {b : MS} {f : Nat → Int64} {T D0 : Nat} (C : LCtx p l s m c b0 L xs D ty tE o mo ad) {i : Nat} (hi : i + 8 ≤ L) (j : SJ T D0 a b) (tn : TN a) (hT : T < 600) (hD : D0 ≤ 90000)
    (kk : ∀ (f' : Nat → Int64) (el' : Nat → Nat → Nat) (a' : CS) (b' : MS), SJ (T + 1) (D0 + 30) a' b' → TN a' → el' 6 0 = el 6 0 → LW p l e s m below meth c b0 (LH D ty s tE o mo ad el' a' b' f') (50 + pc a' + 10 * (T + 1)) (20000 + ps a' + 400 * (T + 1)) 1556 (lvL b0 (el 6 0) mo o (nI i)) []) :
    LW p l e s m below meth c b0 (LH D ty s tE o mo ad el a b f) (50 + pc a + 10 * T) (20000 + ps a + 400 * T) 348 (lvL b0 (el 6 0) mo o (nI i)) [] := by
  obtain ⟨S, hK, hE, hX, hbl, hL, hl, ho1, ho2, hAm⟩ := C
  have ev := ev_S (l := l) hl ho1 ho2
  have hcost := tn.cost j (by omega)
  obtain ⟨k, f', a', b', r, mc, ms, P2, hP2, hW, hMm, ⟨c1, c2⟩, h0, hr, hj, ht⟩ := o_split (D := D) (ty := ty) (tE := tE) (mo := mo) (Am := AmS mo ad) (ad := ad) (el := el) ev j tn hT hD (xs (i + 1)) (xs (i + 2)) f
  have hcost2 := ht.cost hj (by omega)
  have hE1 : ∀ (H : Heap) (locs : List Loc), LH D ty s tE o mo ad el a b f H → va_S (LA s) s.heap H locs → ∀ U : State, U.heap = H → s.WarmedH U.vm → gE true cstrs (AwS s mo ad) tE U U.heap := fun H locs hP hS => gE_at hE hS (fun q h => h.1) (fun q hq => ⟨Nat.le_trans hS.1 hq, fun z => absurd (hM_lt hP.2 q z) (Nat.not_lt.mpr hq)⟩)
  have hk1 : ∀ H H1 : Heap, hM D ty (AmS mo ad) mo ad b H → H.size ≤ H1.size → (∀ q : Nat, q < H.size → ¬ AwS s mo ad q → H1[q]? = H[q]?) → hM D ty (AmS mo ad) mo ad b H1 := fun H H1 h _ hq => hM_kept h (fun q hA hlt => hq q hlt (fun z => z.2 hA))
  refine g_aload_n S dL_law_348 rfl ?_
  refine g_aload_n S dL_law_349 rfl ?_
  refine g_iload S dL_law_350 rfl ?_
  refine g_iconst S (v := 1) dL_law_352 (by decide) ?_
  refine g_iadd S dL_law_353 ?_
  refine g_sld S hX hbl (j := i + 1) (by rw [show (1 : Int32) = nI 1 by decide]; exact nI_plus i 1) (by omega) hL dL_law_354 ?_
  refine g_aload_n S dL_law_355 rfl ?_
  refine g_iload S dL_law_356 rfl ?_
  refine g_iconst S (v := 2) dL_law_358 (by decide) ?_
  refine g_iadd S dL_law_359 ?_
  refine g_sld S hX hbl (j := i + 2) (by rw [show (2 : Int32) = nI 2 by decide]; exact nI_plus i 2) (by omega) hL dL_law_360 ?_
  refine g_aload_n S dL_law_361 rfl ?_
  refine g_callSWX (A' := AwS s mo ad) (Pk := hM D ty (AmS mo ad) mo ad b) (As := [.ref (el 6 0), .int (xs (i + 1)), .int (xs (i + 2)), .ref o]) (st := []) S hW (vx_cwSW 4 S.2.2.2.2 gL_law_L_split rfl rfl rfl (by decide +kernel) ⟨Nat.le_of_ble_eq_true rfl, Nat.le_of_ble_eq_true rfl⟩) hK (fun q h => h.1) hE1 hk1 (fun H h => ⟨h.1, h.2⟩) rfl (Nat.le_of_ble_eq_true rfl) dL_law_362 ⟨by show _ ≤ 601024; omega, by show _ ≤ 7293034; omega⟩ ?_
  intro rr
  refine g_and (b := rr = some (.int k)) (P' := fun H => (P2 H ∧ lrow D ty o f' H) ∧ hM D ty (AmS mo ad) mo ad b H) (fun H h => ⟨h.1.1, h.1.2, h.2⟩) (fun hr9 => ?_)
  subst hr9
  refine g_ex (α := Nat → Nat → Nat) (P' := fun el' H => elX a el el' ∧ LH D ty s tE o mo ad el' a' b f' H) (fun H h => (hP2 H h.1.1).elim fun el' z => ⟨el', z.1, ⟨z.2, h.1.2⟩, h.2⟩) (fun el' => ?_)
  refine g_and (P' := LH D ty s tE o mo ad el' a' b f') (fun H h => h) (fun hel => ?_)
  have hx6 : el' 6 0 = el 6 0 := hel.ob (Or.inr ⟨rfl, rfl⟩)
  have hk2 : ∀ (H H1 : Heap), hC D ty (AcS s mo ad o) tE el' a' H ∧ lrow D ty o f' H → H.size ≤ H1.size → (∀ q : Nat, q < H.size → ¬ AmS mo ad q → H1[q]? = H[q]?) → hC D ty (AcS s mo ad o) tE el' a' H1 ∧ lrow D ty o f' H1 := fun H H1 h _ hq => ⟨hC_kept h.1 (fun q hA hlt => hq q hlt hA.1.2), va_at.kept h.2 (hq o (va_at.lt h.2) ho2)⟩
  refine g_istore S dL_law_365 (by decide) rfl ?_
  refine g_aload_n S dL_law_367 rfl ?_
  refine g_aload_n S dL_law_368 rfl ?_
  refine g_iload S dL_law_369 rfl ?_
  refine g_iconst S (v := 1) dL_law_371 (by decide) ?_
  refine g_iadd S dL_law_372 ?_
  refine g_sld S hX hbl (j := i + 1) (by rw [show (1 : Int32) = nI 1 by decide]; exact nI_plus i 1) (by omega) hL dL_law_373 ?_
  refine g_aload_n S dL_law_374 rfl ?_
  refine g_iload S dL_law_375 rfl ?_
  refine g_iconst S (v := 2) dL_law_377 (by decide) ?_
  refine g_iadd S dL_law_378 ?_
  refine g_sld S hX hbl (j := i + 2) (by rw [show (2 : Int32) = nI 2 by decide]; exact nI_plus i 2) (by omega) hL dL_law_379 ?_
  refine g_callVX (b := false) (strs := []) (tE := 0) (A' := AmS mo ad) (Pk := fun H => hC D ty (AcS s mo ad o) tE el' a' H ∧ lrow D ty o f' H) (b0 := mo) (As := [.int (xs (i + 1)), .int (xs (i + 2))]) (st := []) S hMm (cwV 2 S.2.2.2.2 gL_law_X6_split rfl rfl rfl (by decide +kernel) ⟨Nat.le_of_ble_eq_true rfl, Nat.le_of_ble_eq_true rfl⟩) hK hAm (fun H locs _ _ => gE_no) hk2 (fun H h => ⟨h.2, h.1⟩) (fun H h => m_recv hK H h.2) rfl (Nat.le_of_ble_eq_true rfl) dL_law_380 ⟨by show _ ≤ 601024; omega, by show _ ≤ 7293034; omega⟩ ?_
  intro rr
  refine g_and (b := rr = r) (P' := LH D ty s tE o mo ad el' a' b' f') (fun H h => ⟨h.1.1, h.2, h.1.2⟩) (fun hr9 => ?_)
  subst hr9
  obtain ⟨v, hv9, hr⟩ := hr
  subst hv9
  refine g_istore S dL_law_383 (by decide) rfl ?_
  refine g_aload_n S dL_law_385 rfl ?_
  refine g_callVX (b := false) (strs := []) (tE := 0) (A' := AmS mo ad) (Pk := fun H => hC D ty (AcS s mo ad o) tE el' a' H ∧ lrow D ty o f' H) (b0 := mo) (As := []) (st := []) S (c_thrown l D ty (AmS mo ad) mo ad b') (cwV 0 S.2.2.2.2 gL_law_X6_thrown rfl rfl rfl (by decide +kernel) ⟨Nat.le_of_ble_eq_true rfl, Nat.le_of_ble_eq_true rfl⟩) hK hAm (fun H locs _ _ => gE_no) hk2 (fun H h => ⟨h.2, h.1⟩) (fun H h => m_recv hK H h.2) rfl (Nat.le_of_ble_eq_true rfl) dL_law_386 ⟨by show _ ≤ 601024; omega, by show _ ≤ 7293034; omega⟩ ?_
  intro rr
  refine g_and (b := rr = some (.int (gS b' 0))) (P' := LH D ty s tE o mo ad el' a' b' f') (fun H h => ⟨h.1.1, h.2, h.1.2⟩) (fun hr9 => ?_)
  subst hr9
  refine g_iload S dL_law_389 rfl ?_
  refine g_icmp_eq S (tgt := 396) dL_law_391 (by decide) (fun _ => ?_) (fun c9 => absurd h0 c9)
  refine g_iload S dL_law_396 rfl ?_
  refine g_if_ne S (tgt := 413) dL_law_398 (by decide) (fun _ => ?_) (fun c8 => ?_)
  ·
    refine g_goto S (tgt := 1556) dL_law_413 (by decide) ?_
    exact g_less (lv' := lvL b0 (el 6 0) mo o (nI i)) rfl (lvL_less rfl rfl rfl rfl rfl) (g_widen (k' := 50 + pc a' + 10 * (T + 1)) (n' := 20000 + ps a' + 400 * (T + 1)) (by omega) (by omega) (kk f' el' a' b' hj ht hx6))
  ·
    refine g_aload_n S dL_law_401 rfl ?_
    refine g_iconst S (v := 0) dL_law_402 (by decide) ?_
    refine g_lald S hK (a := o) (N' := 1) (f := f') (fun H h => h.1.2) vin_01 dL_law_403 ?_
    refine g_iload S dL_law_404 rfl ?_
    refine g_i2l S dL_law_406 ?_
    refine g_lcmp S dL_law_407 ?_
    refine g_if_eq S (tgt := 413) dL_law_408 (by decide) (fun _ => ?_) (fun c7 => absurd (by rw [show f' (0 : Int32).toNatClampNeg = f' 0 from rfl, hr c8]; exact lg_self _) c7)
    refine g_goto S (tgt := 1556) dL_law_413 (by decide) ?_
    exact g_less (lv' := lvL b0 (el 6 0) mo o (nI i)) rfl (lvL_less rfl rfl rfl rfl rfl) (g_widen (k' := 50 + pc a' + 10 * (T + 1)) (n' := 20000 + ps a' + 400 * (T + 1)) (by omega) (by omega) (kk f' el' a' b' hj ht hx6))
set_option maxHeartbeats 2000000 in
set_option maxRecDepth 100000 in
theorem L_sell {p : Program} {l : Launch} {e : Env} {s : State} {m : MethodId} {below : List Frame} {meth : Method} {c : Code} {b0 L : Nat} {xs : Nat → Int32} {D : va_G} {ty : Nat → ClassId} {tE o mo : Nat} {ad : Nat → Nat} {el : Nat → Nat → Nat} {a : CS} {b : MS} {f : Nat → Int64} {T D0 : Nat} (C : LCtx p l s m c b0 L xs D ty tE o mo ad) {i : Nat} (hi : i + 8 ≤ L) (j : SJ T D0 a b) (tn : TN a) (hT : T < 600) (hD : D0 ≤ 90000)
    (kk : ∀ (f' : Nat → Int64) (el' : Nat → Nat → Nat) (a' : CS) (b' : MS), SJ (T + 1) (D0 + 30) a' b' → TN a' → el' 6 0 = el 6 0 → LW p l e s m below meth c b0 (LH D ty s tE o mo ad el' a' b' f') (50 + pc a' + 10 * (T + 1)) (20000 + ps a' + 400 * (T + 1)) 1556 (lvL b0 (el 6 0) mo o (nI i)) []) :
    LW p l e s m below meth c b0 (LH D ty s tE o mo ad el a b f) (50 + pc a + 10 * T) (20000 + ps a + 400 * T) 416 (lvL b0 (el 6 0) mo o (nI i)) [] := by
  obtain ⟨S, hK, hE, hX, hbl, hL, hl, ho1, ho2, hAm⟩ := C
  have ev := ev_S (l := l) hl ho1 ho2
  have hcost := tn.cost j (by omega)
  obtain ⟨k, f', a', b', r, mc, ms, P2, hP2, hW, hMm, ⟨c1, c2⟩, h0, hr, hj, ht⟩ := o_sell (D := D) (ty := ty) (tE := tE) (mo := mo) (Am := AmS mo ad) (ad := ad) (el := el) ev j tn hT hD (xs (i + 1)) (xs (i + 2)) (xs (i + 3)) f
  have hcost2 := ht.cost hj (by omega)
  have hE1 : ∀ (H : Heap) (locs : List Loc), LH D ty s tE o mo ad el a b f H → va_S (LA s) s.heap H locs → ∀ U : State, U.heap = H → s.WarmedH U.vm → gE true cstrs (AwS s mo ad) tE U U.heap := fun H locs hP hS => gE_at hE hS (fun q h => h.1) (fun q hq => ⟨Nat.le_trans hS.1 hq, fun z => absurd (hM_lt hP.2 q z) (Nat.not_lt.mpr hq)⟩)
  have hk1 : ∀ H H1 : Heap, hM D ty (AmS mo ad) mo ad b H → H.size ≤ H1.size → (∀ q : Nat, q < H.size → ¬ AwS s mo ad q → H1[q]? = H[q]?) → hM D ty (AmS mo ad) mo ad b H1 := fun H H1 h _ hq => hM_kept h (fun q hA hlt => hq q hlt (fun z => z.2 hA))
  refine g_aload_n S dL_law_416 rfl ?_
  refine g_aload_n S dL_law_417 rfl ?_
  refine g_iload S dL_law_418 rfl ?_
  refine g_iconst S (v := 1) dL_law_420 (by decide) ?_
  refine g_iadd S dL_law_421 ?_
  refine g_sld S hX hbl (j := i + 1) (by rw [show (1 : Int32) = nI 1 by decide]; exact nI_plus i 1) (by omega) hL dL_law_422 ?_
  refine g_aload_n S dL_law_423 rfl ?_
  refine g_iload S dL_law_424 rfl ?_
  refine g_iconst S (v := 2) dL_law_426 (by decide) ?_
  refine g_iadd S dL_law_427 ?_
  refine g_sld S hX hbl (j := i + 2) (by rw [show (2 : Int32) = nI 2 by decide]; exact nI_plus i 2) (by omega) hL dL_law_428 ?_
  refine g_aload_n S dL_law_429 rfl ?_
  refine g_iload S dL_law_430 rfl ?_
  refine g_iconst S (v := 3) dL_law_432 (by decide) ?_
  refine g_iadd S dL_law_433 ?_
  refine g_sld S hX hbl (j := i + 3) (by rw [show (3 : Int32) = nI 3 by decide]; exact nI_plus i 3) (by omega) hL dL_law_434 ?_
  refine g_aload_n S dL_law_435 rfl ?_
  refine g_callSWX (A' := AwS s mo ad) (Pk := hM D ty (AmS mo ad) mo ad b) (As := [.ref (el 6 0), .int (xs (i + 1)), .int (xs (i + 2)), .int (xs (i + 3)), .ref o]) (st := []) S hW (vx_cwSW 5 S.2.2.2.2 gL_law_L_sell rfl rfl rfl (by decide +kernel) ⟨Nat.le_of_ble_eq_true rfl, Nat.le_of_ble_eq_true rfl⟩) hK (fun q h => h.1) hE1 hk1 (fun H h => ⟨h.1, h.2⟩) rfl (Nat.le_of_ble_eq_true rfl) dL_law_436 ⟨by show _ ≤ 601024; omega, by show _ ≤ 7293034; omega⟩ ?_
  intro rr
  refine g_and (b := rr = some (.int k)) (P' := fun H => (P2 H ∧ lrow D ty o f' H) ∧ hM D ty (AmS mo ad) mo ad b H) (fun H h => ⟨h.1.1, h.1.2, h.2⟩) (fun hr9 => ?_)
  subst hr9
  refine g_ex (α := Nat → Nat → Nat) (P' := fun el' H => elX a el el' ∧ LH D ty s tE o mo ad el' a' b f' H) (fun H h => (hP2 H h.1.1).elim fun el' z => ⟨el', z.1, ⟨z.2, h.1.2⟩, h.2⟩) (fun el' => ?_)
  refine g_and (P' := LH D ty s tE o mo ad el' a' b f') (fun H h => h) (fun hel => ?_)
  have hx6 : el' 6 0 = el 6 0 := hel.ob (Or.inr ⟨rfl, rfl⟩)
  have hk2 : ∀ (H H1 : Heap), hC D ty (AcS s mo ad o) tE el' a' H ∧ lrow D ty o f' H → H.size ≤ H1.size → (∀ q : Nat, q < H.size → ¬ AmS mo ad q → H1[q]? = H[q]?) → hC D ty (AcS s mo ad o) tE el' a' H1 ∧ lrow D ty o f' H1 := fun H H1 h _ hq => ⟨hC_kept h.1 (fun q hA hlt => hq q hlt hA.1.2), va_at.kept h.2 (hq o (va_at.lt h.2) ho2)⟩
  refine g_istore S dL_law_439 (by decide) rfl ?_
  refine g_aload_n S dL_law_441 rfl ?_
  refine g_aload_n S dL_law_442 rfl ?_
  refine g_iload S dL_law_443 rfl ?_
  refine g_iconst S (v := 1) dL_law_445 (by decide) ?_
  refine g_iadd S dL_law_446 ?_
  refine g_sld S hX hbl (j := i + 1) (by rw [show (1 : Int32) = nI 1 by decide]; exact nI_plus i 1) (by omega) hL dL_law_447 ?_
  refine g_aload_n S dL_law_448 rfl ?_
  refine g_iload S dL_law_449 rfl ?_
  refine g_iconst S (v := 2) dL_law_451 (by decide) ?_
  refine g_iadd S dL_law_452 ?_
  refine g_sld S hX hbl (j := i + 2) (by rw [show (2 : Int32) = nI 2 by decide]; exact nI_plus i 2) (by omega) hL dL_law_453 ?_
  refine g_aload_n S dL_law_454 rfl ?_
  refine g_iload S dL_law_455 rfl ?_
  refine g_iconst S (v := 3) dL_law_457 (by decide) ?_
  refine g_iadd S dL_law_458 ?_
  refine g_sld S hX hbl (j := i + 3) (by rw [show (3 : Int32) = nI 3 by decide]; exact nI_plus i 3) (by omega) hL dL_law_459 ?_
  refine g_callVX (b := false) (strs := []) (tE := 0) (A' := AmS mo ad) (Pk := fun H => hC D ty (AcS s mo ad o) tE el' a' H ∧ lrow D ty o f' H) (b0 := mo) (As := [.int (xs (i + 1)), .int (xs (i + 2)), .int (xs (i + 3))]) (st := []) S hMm (cwV 3 S.2.2.2.2 gL_law_X6_sell rfl rfl rfl (by decide +kernel) ⟨Nat.le_of_ble_eq_true rfl, Nat.le_of_ble_eq_true rfl⟩) hK hAm (fun H locs _ _ => gE_no) hk2 (fun H h => ⟨h.2, h.1⟩) (fun H h => m_recv hK H h.2) rfl (Nat.le_of_ble_eq_true rfl) dL_law_460 ⟨by show _ ≤ 601024; omega, by show _ ≤ 7293034; omega⟩ ?_
  intro rr
  refine g_and (b := rr = r) (P' := LH D ty s tE o mo ad el' a' b' f') (fun H h => ⟨h.1.1, h.2, h.1.2⟩) (fun hr9 => ?_)
  subst hr9
  obtain ⟨v, hv9, hr⟩ := hr
  subst hv9
  refine g_istore S dL_law_463 (by decide) rfl ?_
  refine g_aload_n S dL_law_465 rfl ?_
  refine g_callVX (b := false) (strs := []) (tE := 0) (A' := AmS mo ad) (Pk := fun H => hC D ty (AcS s mo ad o) tE el' a' H ∧ lrow D ty o f' H) (b0 := mo) (As := []) (st := []) S (c_thrown l D ty (AmS mo ad) mo ad b') (cwV 0 S.2.2.2.2 gL_law_X6_thrown rfl rfl rfl (by decide +kernel) ⟨Nat.le_of_ble_eq_true rfl, Nat.le_of_ble_eq_true rfl⟩) hK hAm (fun H locs _ _ => gE_no) hk2 (fun H h => ⟨h.2, h.1⟩) (fun H h => m_recv hK H h.2) rfl (Nat.le_of_ble_eq_true rfl) dL_law_466 ⟨by show _ ≤ 601024; omega, by show _ ≤ 7293034; omega⟩ ?_
  intro rr
  refine g_and (b := rr = some (.int (gS b' 0))) (P' := LH D ty s tE o mo ad el' a' b' f') (fun H h => ⟨h.1.1, h.2, h.1.2⟩) (fun hr9 => ?_)
  subst hr9
  refine g_iload S dL_law_469 rfl ?_
  refine g_icmp_eq S (tgt := 476) dL_law_471 (by decide) (fun _ => ?_) (fun c9 => absurd h0 c9)
  refine g_iload S dL_law_476 rfl ?_
  refine g_if_ne S (tgt := 493) dL_law_478 (by decide) (fun _ => ?_) (fun c8 => ?_)
  ·
    refine g_goto S (tgt := 1556) dL_law_493 (by decide) ?_
    exact g_less (lv' := lvL b0 (el 6 0) mo o (nI i)) rfl (lvL_less rfl rfl rfl rfl rfl) (g_widen (k' := 50 + pc a' + 10 * (T + 1)) (n' := 20000 + ps a' + 400 * (T + 1)) (by omega) (by omega) (kk f' el' a' b' hj ht hx6))
  ·
    refine g_aload_n S dL_law_481 rfl ?_
    refine g_iconst S (v := 0) dL_law_482 (by decide) ?_
    refine g_lald S hK (a := o) (N' := 1) (f := f') (fun H h => h.1.2) vin_01 dL_law_483 ?_
    refine g_iload S dL_law_484 rfl ?_
    refine g_i2l S dL_law_486 ?_
    refine g_lcmp S dL_law_487 ?_
    refine g_if_eq S (tgt := 493) dL_law_488 (by decide) (fun _ => ?_) (fun c7 => absurd (by rw [show f' (0 : Int32).toNatClampNeg = f' 0 from rfl, hr c8]; exact lg_self _) c7)
    refine g_goto S (tgt := 1556) dL_law_493 (by decide) ?_
    exact g_less (lv' := lvL b0 (el 6 0) mo o (nI i)) rfl (lvL_less rfl rfl rfl rfl rfl) (g_widen (k' := 50 + pc a' + 10 * (T + 1)) (n' := 20000 + ps a' + 400 * (T + 1)) (by omega) (by omega) (kk f' el' a' b' hj ht hx6))
set_option maxHeartbeats 2000000 in
set_option maxRecDepth 100000 in
theorem L_pledge {p : Program} {l : Launch} {e : Env} {s : State} {m : MethodId} {below : List Frame} {meth : Method} {c : Code} {b0 L : Nat} {xs : Nat → Int32} {D : va_G} {ty : Nat → ClassId} {tE o mo : Nat} {ad : Nat → Nat} {el : Nat → Nat → Nat} {a : CS} {b : MS} {f : Nat → Int64} {T D0 : Nat} (C : LCtx p l s m c b0 L xs D ty tE o mo ad) {i : Nat} (hi : i + 8 ≤ L) (j : SJ T D0 a b) (tn : TN a) (hT : T < 600) (hD : D0 ≤ 90000)
    (kk : ∀ (f' : Nat → Int64) (el' : Nat → Nat → Nat) (a' : CS) (b' : MS), SJ (T + 1) (D0 + 30) a' b' → TN a' → el' 6 0 = el 6 0 → LW p l e s m below meth c b0 (LH D ty s tE o mo ad el' a' b' f') (50 + pc a' + 10 * (T + 1)) (20000 + ps a' + 400 * (T + 1)) 1556 (lvL b0 (el 6 0) mo o (nI i)) []) :
    LW p l e s m below meth c b0 (LH D ty s tE o mo ad el a b f) (50 + pc a + 10 * T) (20000 + ps a + 400 * T) 496 (lvL b0 (el 6 0) mo o (nI i)) [] := by
  obtain ⟨S, hK, hE, hX, hbl, hL, hl, ho1, ho2, hAm⟩ := C
  have ev := ev_S (l := l) hl ho1 ho2
  have hcost := tn.cost j (by omega)
  obtain ⟨k, f', a', b', r, mc, ms, P2, hP2, hW, hMm, ⟨c1, c2⟩, h0, hr, hj, ht⟩ := o_pledge (D := D) (ty := ty) (tE := tE) (mo := mo) (Am := AmS mo ad) (ad := ad) (el := el) ev j tn hT hD (xs (i + 1)) (xs (i + 2)) (xs (i + 3)) (xs (i + 4)) f
  have hcost2 := ht.cost hj (by omega)
  have hE1 : ∀ (H : Heap) (locs : List Loc), LH D ty s tE o mo ad el a b f H → va_S (LA s) s.heap H locs → ∀ U : State, U.heap = H → s.WarmedH U.vm → gE true cstrs (AwS s mo ad) tE U U.heap := fun H locs hP hS => gE_at hE hS (fun q h => h.1) (fun q hq => ⟨Nat.le_trans hS.1 hq, fun z => absurd (hM_lt hP.2 q z) (Nat.not_lt.mpr hq)⟩)
  have hk1 : ∀ H H1 : Heap, hM D ty (AmS mo ad) mo ad b H → H.size ≤ H1.size → (∀ q : Nat, q < H.size → ¬ AwS s mo ad q → H1[q]? = H[q]?) → hM D ty (AmS mo ad) mo ad b H1 := fun H H1 h _ hq => hM_kept h (fun q hA hlt => hq q hlt (fun z => z.2 hA))
  refine g_aload_n S dL_law_496 rfl ?_
  refine g_aload_n S dL_law_497 rfl ?_
  refine g_iload S dL_law_498 rfl ?_
  refine g_iconst S (v := 1) dL_law_500 (by decide) ?_
  refine g_iadd S dL_law_501 ?_
  refine g_sld S hX hbl (j := i + 1) (by rw [show (1 : Int32) = nI 1 by decide]; exact nI_plus i 1) (by omega) hL dL_law_502 ?_
  refine g_aload_n S dL_law_503 rfl ?_
  refine g_iload S dL_law_504 rfl ?_
  refine g_iconst S (v := 2) dL_law_506 (by decide) ?_
  refine g_iadd S dL_law_507 ?_
  refine g_sld S hX hbl (j := i + 2) (by rw [show (2 : Int32) = nI 2 by decide]; exact nI_plus i 2) (by omega) hL dL_law_508 ?_
  refine g_aload_n S dL_law_509 rfl ?_
  refine g_iload S dL_law_510 rfl ?_
  refine g_iconst S (v := 3) dL_law_512 (by decide) ?_
  refine g_iadd S dL_law_513 ?_
  refine g_sld S hX hbl (j := i + 3) (by rw [show (3 : Int32) = nI 3 by decide]; exact nI_plus i 3) (by omega) hL dL_law_514 ?_
  refine g_aload_n S dL_law_515 rfl ?_
  refine g_iload S dL_law_516 rfl ?_
  refine g_iconst S (v := 4) dL_law_518 (by decide) ?_
  refine g_iadd S dL_law_519 ?_
  refine g_sld S hX hbl (j := i + 4) (by rw [show (4 : Int32) = nI 4 by decide]; exact nI_plus i 4) (by omega) hL dL_law_520 ?_
  refine g_aload_n S dL_law_521 rfl ?_
  refine g_callSWX (A' := AwS s mo ad) (Pk := hM D ty (AmS mo ad) mo ad b) (As := [.ref (el 6 0), .int (xs (i + 1)), .int (xs (i + 2)), .int (xs (i + 3)), .int (xs (i + 4)), .ref o]) (st := []) S hW (vx_cwSW 6 S.2.2.2.2 gL_law_L_pledge rfl rfl rfl (by decide +kernel) ⟨Nat.le_of_ble_eq_true rfl, Nat.le_of_ble_eq_true rfl⟩) hK (fun q h => h.1) hE1 hk1 (fun H h => ⟨h.1, h.2⟩) rfl (Nat.le_of_ble_eq_true rfl) dL_law_522 ⟨by show _ ≤ 601024; omega, by show _ ≤ 7293034; omega⟩ ?_
  intro rr
  refine g_and (b := rr = some (.int k)) (P' := fun H => (P2 H ∧ lrow D ty o f' H) ∧ hM D ty (AmS mo ad) mo ad b H) (fun H h => ⟨h.1.1, h.1.2, h.2⟩) (fun hr9 => ?_)
  subst hr9
  refine g_ex (α := Nat → Nat → Nat) (P' := fun el' H => elX a el el' ∧ LH D ty s tE o mo ad el' a' b f' H) (fun H h => (hP2 H h.1.1).elim fun el' z => ⟨el', z.1, ⟨z.2, h.1.2⟩, h.2⟩) (fun el' => ?_)
  refine g_and (P' := LH D ty s tE o mo ad el' a' b f') (fun H h => h) (fun hel => ?_)
  have hx6 : el' 6 0 = el 6 0 := hel.ob (Or.inr ⟨rfl, rfl⟩)
  have hk2 : ∀ (H H1 : Heap), hC D ty (AcS s mo ad o) tE el' a' H ∧ lrow D ty o f' H → H.size ≤ H1.size → (∀ q : Nat, q < H.size → ¬ AmS mo ad q → H1[q]? = H[q]?) → hC D ty (AcS s mo ad o) tE el' a' H1 ∧ lrow D ty o f' H1 := fun H H1 h _ hq => ⟨hC_kept h.1 (fun q hA hlt => hq q hlt hA.1.2), va_at.kept h.2 (hq o (va_at.lt h.2) ho2)⟩
  refine g_istore S dL_law_525 (by decide) rfl ?_
  refine g_aload_n S dL_law_527 rfl ?_
  refine g_aload_n S dL_law_528 rfl ?_
  refine g_iload S dL_law_529 rfl ?_
  refine g_iconst S (v := 1) dL_law_531 (by decide) ?_
  refine g_iadd S dL_law_532 ?_
  refine g_sld S hX hbl (j := i + 1) (by rw [show (1 : Int32) = nI 1 by decide]; exact nI_plus i 1) (by omega) hL dL_law_533 ?_
  refine g_aload_n S dL_law_534 rfl ?_
  refine g_iload S dL_law_535 rfl ?_
  refine g_iconst S (v := 2) dL_law_537 (by decide) ?_
  refine g_iadd S dL_law_538 ?_
  refine g_sld S hX hbl (j := i + 2) (by rw [show (2 : Int32) = nI 2 by decide]; exact nI_plus i 2) (by omega) hL dL_law_539 ?_
  refine g_aload_n S dL_law_540 rfl ?_
  refine g_iload S dL_law_541 rfl ?_
  refine g_iconst S (v := 3) dL_law_543 (by decide) ?_
  refine g_iadd S dL_law_544 ?_
  refine g_sld S hX hbl (j := i + 3) (by rw [show (3 : Int32) = nI 3 by decide]; exact nI_plus i 3) (by omega) hL dL_law_545 ?_
  refine g_aload_n S dL_law_546 rfl ?_
  refine g_iload S dL_law_547 rfl ?_
  refine g_iconst S (v := 4) dL_law_549 (by decide) ?_
  refine g_iadd S dL_law_550 ?_
  refine g_sld S hX hbl (j := i + 4) (by rw [show (4 : Int32) = nI 4 by decide]; exact nI_plus i 4) (by omega) hL dL_law_551 ?_
  refine g_callVX (b := false) (strs := []) (tE := 0) (A' := AmS mo ad) (Pk := fun H => hC D ty (AcS s mo ad o) tE el' a' H ∧ lrow D ty o f' H) (b0 := mo) (As := [.int (xs (i + 1)), .int (xs (i + 2)), .int (xs (i + 3)), .int (xs (i + 4))]) (st := []) S hMm (cwV 4 S.2.2.2.2 gL_law_X6_pledge rfl rfl rfl (by decide +kernel) ⟨Nat.le_of_ble_eq_true rfl, Nat.le_of_ble_eq_true rfl⟩) hK hAm (fun H locs _ _ => gE_no) hk2 (fun H h => ⟨h.2, h.1⟩) (fun H h => m_recv hK H h.2) rfl (Nat.le_of_ble_eq_true rfl) dL_law_552 ⟨by show _ ≤ 601024; omega, by show _ ≤ 7293034; omega⟩ ?_
  intro rr
  refine g_and (b := rr = r) (P' := LH D ty s tE o mo ad el' a' b' f') (fun H h => ⟨h.1.1, h.2, h.1.2⟩) (fun hr9 => ?_)
  subst hr9
  obtain ⟨v, hv9, hr⟩ := hr
  subst hv9
  refine g_istore S dL_law_555 (by decide) rfl ?_
  refine g_aload_n S dL_law_557 rfl ?_
  refine g_callVX (b := false) (strs := []) (tE := 0) (A' := AmS mo ad) (Pk := fun H => hC D ty (AcS s mo ad o) tE el' a' H ∧ lrow D ty o f' H) (b0 := mo) (As := []) (st := []) S (c_thrown l D ty (AmS mo ad) mo ad b') (cwV 0 S.2.2.2.2 gL_law_X6_thrown rfl rfl rfl (by decide +kernel) ⟨Nat.le_of_ble_eq_true rfl, Nat.le_of_ble_eq_true rfl⟩) hK hAm (fun H locs _ _ => gE_no) hk2 (fun H h => ⟨h.2, h.1⟩) (fun H h => m_recv hK H h.2) rfl (Nat.le_of_ble_eq_true rfl) dL_law_558 ⟨by show _ ≤ 601024; omega, by show _ ≤ 7293034; omega⟩ ?_
  intro rr
  refine g_and (b := rr = some (.int (gS b' 0))) (P' := LH D ty s tE o mo ad el' a' b' f') (fun H h => ⟨h.1.1, h.2, h.1.2⟩) (fun hr9 => ?_)
  subst hr9
  refine g_iload S dL_law_561 rfl ?_
  refine g_icmp_eq S (tgt := 568) dL_law_563 (by decide) (fun _ => ?_) (fun c9 => absurd h0 c9)
  refine g_iload S dL_law_568 rfl ?_
  refine g_if_ne S (tgt := 585) dL_law_570 (by decide) (fun _ => ?_) (fun c8 => ?_)
  ·
    refine g_goto S (tgt := 1556) dL_law_585 (by decide) ?_
    exact g_less (lv' := lvL b0 (el 6 0) mo o (nI i)) rfl (lvL_less rfl rfl rfl rfl rfl) (g_widen (k' := 50 + pc a' + 10 * (T + 1)) (n' := 20000 + ps a' + 400 * (T + 1)) (by omega) (by omega) (kk f' el' a' b' hj ht hx6))
  ·
    refine g_aload_n S dL_law_573 rfl ?_
    refine g_iconst S (v := 0) dL_law_574 (by decide) ?_
    refine g_lald S hK (a := o) (N' := 1) (f := f') (fun H h => h.1.2) vin_01 dL_law_575 ?_
    refine g_iload S dL_law_576 rfl ?_
    refine g_i2l S dL_law_578 ?_
    refine g_lcmp S dL_law_579 ?_
    refine g_if_eq S (tgt := 585) dL_law_580 (by decide) (fun _ => ?_) (fun c7 => absurd (by rw [show f' (0 : Int32).toNatClampNeg = f' 0 from rfl, hr c8]; exact lg_self _) c7)
    refine g_goto S (tgt := 1556) dL_law_585 (by decide) ?_
    exact g_less (lv' := lvL b0 (el 6 0) mo o (nI i)) rfl (lvL_less rfl rfl rfl rfl rfl) (g_widen (k' := 50 + pc a' + 10 * (T + 1)) (n' := 20000 + ps a' + 400 * (T + 1)) (by omega) (by omega) (kk f' el' a' b' hj ht hx6))
set_option maxHeartbeats 2000000 in
set_option maxRecDepth 100000 in
theorem L_redeem {p : Program} {l : Launch} {e : Env} {s : State} {m : MethodId} {below : List Frame} {meth : Method} {c : Code} {b0 L : Nat} {xs : Nat → Int32} {D : va_G} {ty : Nat → ClassId} {tE o mo : Nat} {ad : Nat → Nat} {el : Nat → Nat → Nat} {a : CS} {b : MS} {f : Nat → Int64} {T D0 : Nat} (C : LCtx p l s m c b0 L xs D ty tE o mo ad) {i : Nat} (hi : i + 8 ≤ L) (j : SJ T D0 a b) (tn : TN a) (hT : T < 600) (hD : D0 ≤ 90000)
    (kk : ∀ (f' : Nat → Int64) (el' : Nat → Nat → Nat) (a' : CS) (b' : MS), SJ (T + 1) (D0 + 30) a' b' → TN a' → el' 6 0 = el 6 0 → LW p l e s m below meth c b0 (LH D ty s tE o mo ad el' a' b' f') (50 + pc a' + 10 * (T + 1)) (20000 + ps a' + 400 * (T + 1)) 1556 (lvL b0 (el 6 0) mo o (nI i)) []) :
    LW p l e s m below meth c b0 (LH D ty s tE o mo ad el a b f) (50 + pc a + 10 * T) (20000 + ps a + 400 * T) 588 (lvL b0 (el 6 0) mo o (nI i)) [] := by
  obtain ⟨S, hK, hE, hX, hbl, hL, hl, ho1, ho2, hAm⟩ := C
  have ev := ev_S (l := l) hl ho1 ho2
  have hcost := tn.cost j (by omega)
  obtain ⟨k, f', a', b', r, mc, ms, P2, hP2, hW, hMm, ⟨c1, c2⟩, h0, hr, hj, ht⟩ := o_redeem (D := D) (ty := ty) (tE := tE) (mo := mo) (Am := AmS mo ad) (ad := ad) (el := el) ev j tn hT hD (xs (i + 1)) f
  have hcost2 := ht.cost hj (by omega)
  have hE1 : ∀ (H : Heap) (locs : List Loc), LH D ty s tE o mo ad el a b f H → va_S (LA s) s.heap H locs → ∀ U : State, U.heap = H → s.WarmedH U.vm → gE true cstrs (AwS s mo ad) tE U U.heap := fun H locs hP hS => gE_at hE hS (fun q h => h.1) (fun q hq => ⟨Nat.le_trans hS.1 hq, fun z => absurd (hM_lt hP.2 q z) (Nat.not_lt.mpr hq)⟩)
  have hk1 : ∀ H H1 : Heap, hM D ty (AmS mo ad) mo ad b H → H.size ≤ H1.size → (∀ q : Nat, q < H.size → ¬ AwS s mo ad q → H1[q]? = H[q]?) → hM D ty (AmS mo ad) mo ad b H1 := fun H H1 h _ hq => hM_kept h (fun q hA hlt => hq q hlt (fun z => z.2 hA))
  refine g_aload_n S dL_law_588 rfl ?_
  refine g_aload_n S dL_law_589 rfl ?_
  refine g_iload S dL_law_590 rfl ?_
  refine g_iconst S (v := 1) dL_law_592 (by decide) ?_
  refine g_iadd S dL_law_593 ?_
  refine g_sld S hX hbl (j := i + 1) (by rw [show (1 : Int32) = nI 1 by decide]; exact nI_plus i 1) (by omega) hL dL_law_594 ?_
  refine g_aload_n S dL_law_595 rfl ?_
  refine g_callSWX (A' := AwS s mo ad) (Pk := hM D ty (AmS mo ad) mo ad b) (As := [.ref (el 6 0), .int (xs (i + 1)), .ref o]) (st := []) S hW (vx_cwSW 3 S.2.2.2.2 gL_law_L_redeem rfl rfl rfl (by decide +kernel) ⟨Nat.le_of_ble_eq_true rfl, Nat.le_of_ble_eq_true rfl⟩) hK (fun q h => h.1) hE1 hk1 (fun H h => ⟨h.1, h.2⟩) rfl (Nat.le_of_ble_eq_true rfl) dL_law_596 ⟨by show _ ≤ 601024; omega, by show _ ≤ 7293034; omega⟩ ?_
  intro rr
  refine g_and (b := rr = some (.int k)) (P' := fun H => (P2 H ∧ lrow D ty o f' H) ∧ hM D ty (AmS mo ad) mo ad b H) (fun H h => ⟨h.1.1, h.1.2, h.2⟩) (fun hr9 => ?_)
  subst hr9
  refine g_ex (α := Nat → Nat → Nat) (P' := fun el' H => elX a el el' ∧ LH D ty s tE o mo ad el' a' b f' H) (fun H h => (hP2 H h.1.1).elim fun el' z => ⟨el', z.1, ⟨z.2, h.1.2⟩, h.2⟩) (fun el' => ?_)
  refine g_and (P' := LH D ty s tE o mo ad el' a' b f') (fun H h => h) (fun hel => ?_)
  have hx6 : el' 6 0 = el 6 0 := hel.ob (Or.inr ⟨rfl, rfl⟩)
  have hk2 : ∀ (H H1 : Heap), hC D ty (AcS s mo ad o) tE el' a' H ∧ lrow D ty o f' H → H.size ≤ H1.size → (∀ q : Nat, q < H.size → ¬ AmS mo ad q → H1[q]? = H[q]?) → hC D ty (AcS s mo ad o) tE el' a' H1 ∧ lrow D ty o f' H1 := fun H H1 h _ hq => ⟨hC_kept h.1 (fun q hA hlt => hq q hlt hA.1.2), va_at.kept h.2 (hq o (va_at.lt h.2) ho2)⟩
  refine g_istore S dL_law_599 (by decide) rfl ?_
  refine g_aload_n S dL_law_601 rfl ?_
  refine g_aload_n S dL_law_602 rfl ?_
  refine g_iload S dL_law_603 rfl ?_
  refine g_iconst S (v := 1) dL_law_605 (by decide) ?_
  refine g_iadd S dL_law_606 ?_
  refine g_sld S hX hbl (j := i + 1) (by rw [show (1 : Int32) = nI 1 by decide]; exact nI_plus i 1) (by omega) hL dL_law_607 ?_
  refine g_callVX (b := false) (strs := []) (tE := 0) (A' := AmS mo ad) (Pk := fun H => hC D ty (AcS s mo ad o) tE el' a' H ∧ lrow D ty o f' H) (b0 := mo) (As := [.int (xs (i + 1))]) (st := []) S hMm (cwV 1 S.2.2.2.2 gL_law_X6_redeem rfl rfl rfl (by decide +kernel) ⟨Nat.le_of_ble_eq_true rfl, Nat.le_of_ble_eq_true rfl⟩) hK hAm (fun H locs _ _ => gE_no) hk2 (fun H h => ⟨h.2, h.1⟩) (fun H h => m_recv hK H h.2) rfl (Nat.le_of_ble_eq_true rfl) dL_law_608 ⟨by show _ ≤ 601024; omega, by show _ ≤ 7293034; omega⟩ ?_
  intro rr
  refine g_and (b := rr = r) (P' := LH D ty s tE o mo ad el' a' b' f') (fun H h => ⟨h.1.1, h.2, h.1.2⟩) (fun hr9 => ?_)
  subst hr9
  obtain ⟨v, hv9, hr⟩ := hr
  subst hv9
  refine g_istore S dL_law_611 (by decide) rfl ?_
  refine g_aload_n S dL_law_613 rfl ?_
  refine g_callVX (b := false) (strs := []) (tE := 0) (A' := AmS mo ad) (Pk := fun H => hC D ty (AcS s mo ad o) tE el' a' H ∧ lrow D ty o f' H) (b0 := mo) (As := []) (st := []) S (c_thrown l D ty (AmS mo ad) mo ad b') (cwV 0 S.2.2.2.2 gL_law_X6_thrown rfl rfl rfl (by decide +kernel) ⟨Nat.le_of_ble_eq_true rfl, Nat.le_of_ble_eq_true rfl⟩) hK hAm (fun H locs _ _ => gE_no) hk2 (fun H h => ⟨h.2, h.1⟩) (fun H h => m_recv hK H h.2) rfl (Nat.le_of_ble_eq_true rfl) dL_law_614 ⟨by show _ ≤ 601024; omega, by show _ ≤ 7293034; omega⟩ ?_
  intro rr
  refine g_and (b := rr = some (.int (gS b' 0))) (P' := LH D ty s tE o mo ad el' a' b' f') (fun H h => ⟨h.1.1, h.2, h.1.2⟩) (fun hr9 => ?_)
  subst hr9
  refine g_iload S dL_law_617 rfl ?_
  refine g_icmp_eq S (tgt := 624) dL_law_619 (by decide) (fun _ => ?_) (fun c9 => absurd h0 c9)
  refine g_iload S dL_law_624 rfl ?_
  refine g_if_ne S (tgt := 641) dL_law_626 (by decide) (fun _ => ?_) (fun c8 => ?_)
  ·
    refine g_goto S (tgt := 1556) dL_law_641 (by decide) ?_
    exact g_less (lv' := lvL b0 (el 6 0) mo o (nI i)) rfl (lvL_less rfl rfl rfl rfl rfl) (g_widen (k' := 50 + pc a' + 10 * (T + 1)) (n' := 20000 + ps a' + 400 * (T + 1)) (by omega) (by omega) (kk f' el' a' b' hj ht hx6))
  ·
    refine g_aload_n S dL_law_629 rfl ?_
    refine g_iconst S (v := 0) dL_law_630 (by decide) ?_
    refine g_lald S hK (a := o) (N' := 1) (f := f') (fun H h => h.1.2) vin_01 dL_law_631 ?_
    refine g_iload S dL_law_632 rfl ?_
    refine g_i2l S dL_law_634 ?_
    refine g_lcmp S dL_law_635 ?_
    refine g_if_eq S (tgt := 641) dL_law_636 (by decide) (fun _ => ?_) (fun c7 => absurd (by rw [show f' (0 : Int32).toNatClampNeg = f' 0 from rfl, hr c8]; exact lg_self _) c7)
    refine g_goto S (tgt := 1556) dL_law_641 (by decide) ?_
    exact g_less (lv' := lvL b0 (el 6 0) mo o (nI i)) rfl (lvL_less rfl rfl rfl rfl rfl) (g_widen (k' := 50 + pc a' + 10 * (T + 1)) (n' := 20000 + ps a' + 400 * (T + 1)) (by omega) (by omega) (kk f' el' a' b' hj ht hx6))
set_option maxHeartbeats 2000000 in
set_option maxRecDepth 100000 in
theorem L_takeOut {p : Program} {l : Launch} {e : Env} {s : State} {m : MethodId} {below : List Frame} {meth : Method} {c : Code} {b0 L : Nat} {xs : Nat → Int32} {D : va_G} {ty : Nat → ClassId} {tE o mo : Nat} {ad : Nat → Nat} {el : Nat → Nat → Nat} {a : CS} {b : MS} {f : Nat → Int64} {T D0 : Nat} (C : LCtx p l s m c b0 L xs D ty tE o mo ad) {i : Nat} (hi : i + 8 ≤ L) (j : SJ T D0 a b) (tn : TN a) (hT : T < 600) (hD : D0 ≤ 90000)
    (kk : ∀ (f' : Nat → Int64) (el' : Nat → Nat → Nat) (a' : CS) (b' : MS), SJ (T + 1) (D0 + 30) a' b' → TN a' → el' 6 0 = el 6 0 → LW p l e s m below meth c b0 (LH D ty s tE o mo ad el' a' b' f') (50 + pc a' + 10 * (T + 1)) (20000 + ps a' + 400 * (T + 1)) 1556 (lvL b0 (el 6 0) mo o (nI i)) []) :
    LW p l e s m below meth c b0 (LH D ty s tE o mo ad el a b f) (50 + pc a + 10 * T) (20000 + ps a + 400 * T) 644 (lvL b0 (el 6 0) mo o (nI i)) [] := by
  obtain ⟨S, hK, hE, hX, hbl, hL, hl, ho1, ho2, hAm⟩ := C
  have ev := ev_S (l := l) hl ho1 ho2
  have hcost := tn.cost j (by omega)
  obtain ⟨k, f', a', b', r, mc, ms, P2, hP2, hW, hMm, ⟨c1, c2⟩, h0, hr, hj, ht⟩ := o_takeOut (D := D) (ty := ty) (tE := tE) (mo := mo) (Am := AmS mo ad) (ad := ad) (el := el) ev j tn hT hD (xs (i + 1)) f
  have hcost2 := ht.cost hj (by omega)
  have hE1 : ∀ (H : Heap) (locs : List Loc), LH D ty s tE o mo ad el a b f H → va_S (LA s) s.heap H locs → ∀ U : State, U.heap = H → s.WarmedH U.vm → gE true cstrs (AwS s mo ad) tE U U.heap := fun H locs hP hS => gE_at hE hS (fun q h => h.1) (fun q hq => ⟨Nat.le_trans hS.1 hq, fun z => absurd (hM_lt hP.2 q z) (Nat.not_lt.mpr hq)⟩)
  have hk1 : ∀ H H1 : Heap, hM D ty (AmS mo ad) mo ad b H → H.size ≤ H1.size → (∀ q : Nat, q < H.size → ¬ AwS s mo ad q → H1[q]? = H[q]?) → hM D ty (AmS mo ad) mo ad b H1 := fun H H1 h _ hq => hM_kept h (fun q hA hlt => hq q hlt (fun z => z.2 hA))
  refine g_aload_n S dL_law_644 rfl ?_
  refine g_aload_n S dL_law_645 rfl ?_
  refine g_iload S dL_law_646 rfl ?_
  refine g_iconst S (v := 1) dL_law_648 (by decide) ?_
  refine g_iadd S dL_law_649 ?_
  refine g_sld S hX hbl (j := i + 1) (by rw [show (1 : Int32) = nI 1 by decide]; exact nI_plus i 1) (by omega) hL dL_law_650 ?_
  refine g_aload_n S dL_law_651 rfl ?_
  refine g_callSWX (A' := AwS s mo ad) (Pk := hM D ty (AmS mo ad) mo ad b) (As := [.ref (el 6 0), .int (xs (i + 1)), .ref o]) (st := []) S hW (vx_cwSW 3 S.2.2.2.2 gL_law_L_takeOut rfl rfl rfl (by decide +kernel) ⟨Nat.le_of_ble_eq_true rfl, Nat.le_of_ble_eq_true rfl⟩) hK (fun q h => h.1) hE1 hk1 (fun H h => ⟨h.1, h.2⟩) rfl (Nat.le_of_ble_eq_true rfl) dL_law_652 ⟨by show _ ≤ 601024; omega, by show _ ≤ 7293034; omega⟩ ?_
  intro rr
  refine g_and (b := rr = some (.int k)) (P' := fun H => (P2 H ∧ lrow D ty o f' H) ∧ hM D ty (AmS mo ad) mo ad b H) (fun H h => ⟨h.1.1, h.1.2, h.2⟩) (fun hr9 => ?_)
  subst hr9
  refine g_ex (α := Nat → Nat → Nat) (P' := fun el' H => elX a el el' ∧ LH D ty s tE o mo ad el' a' b f' H) (fun H h => (hP2 H h.1.1).elim fun el' z => ⟨el', z.1, ⟨z.2, h.1.2⟩, h.2⟩) (fun el' => ?_)
  refine g_and (P' := LH D ty s tE o mo ad el' a' b f') (fun H h => h) (fun hel => ?_)
  have hx6 : el' 6 0 = el 6 0 := hel.ob (Or.inr ⟨rfl, rfl⟩)
  have hk2 : ∀ (H H1 : Heap), hC D ty (AcS s mo ad o) tE el' a' H ∧ lrow D ty o f' H → H.size ≤ H1.size → (∀ q : Nat, q < H.size → ¬ AmS mo ad q → H1[q]? = H[q]?) → hC D ty (AcS s mo ad o) tE el' a' H1 ∧ lrow D ty o f' H1 := fun H H1 h _ hq => ⟨hC_kept h.1 (fun q hA hlt => hq q hlt hA.1.2), va_at.kept h.2 (hq o (va_at.lt h.2) ho2)⟩
  refine g_istore S dL_law_655 (by decide) rfl ?_
  refine g_aload_n S dL_law_657 rfl ?_
  refine g_aload_n S dL_law_658 rfl ?_
  refine g_iload S dL_law_659 rfl ?_
  refine g_iconst S (v := 1) dL_law_661 (by decide) ?_
  refine g_iadd S dL_law_662 ?_
  refine g_sld S hX hbl (j := i + 1) (by rw [show (1 : Int32) = nI 1 by decide]; exact nI_plus i 1) (by omega) hL dL_law_663 ?_
  refine g_callVX (b := false) (strs := []) (tE := 0) (A' := AmS mo ad) (Pk := fun H => hC D ty (AcS s mo ad o) tE el' a' H ∧ lrow D ty o f' H) (b0 := mo) (As := [.int (xs (i + 1))]) (st := []) S hMm (cwV 1 S.2.2.2.2 gL_law_X6_takeOut rfl rfl rfl (by decide +kernel) ⟨Nat.le_of_ble_eq_true rfl, Nat.le_of_ble_eq_true rfl⟩) hK hAm (fun H locs _ _ => gE_no) hk2 (fun H h => ⟨h.2, h.1⟩) (fun H h => m_recv hK H h.2) rfl (Nat.le_of_ble_eq_true rfl) dL_law_664 ⟨by show _ ≤ 601024; omega, by show _ ≤ 7293034; omega⟩ ?_
  intro rr
  refine g_and (b := rr = r) (P' := LH D ty s tE o mo ad el' a' b' f') (fun H h => ⟨h.1.1, h.2, h.1.2⟩) (fun hr9 => ?_)
  subst hr9
  obtain ⟨v, hv9, hr⟩ := hr
  subst hv9
  refine g_istore S dL_law_667 (by decide) rfl ?_
  refine g_aload_n S dL_law_669 rfl ?_
  refine g_callVX (b := false) (strs := []) (tE := 0) (A' := AmS mo ad) (Pk := fun H => hC D ty (AcS s mo ad o) tE el' a' H ∧ lrow D ty o f' H) (b0 := mo) (As := []) (st := []) S (c_thrown l D ty (AmS mo ad) mo ad b') (cwV 0 S.2.2.2.2 gL_law_X6_thrown rfl rfl rfl (by decide +kernel) ⟨Nat.le_of_ble_eq_true rfl, Nat.le_of_ble_eq_true rfl⟩) hK hAm (fun H locs _ _ => gE_no) hk2 (fun H h => ⟨h.2, h.1⟩) (fun H h => m_recv hK H h.2) rfl (Nat.le_of_ble_eq_true rfl) dL_law_670 ⟨by show _ ≤ 601024; omega, by show _ ≤ 7293034; omega⟩ ?_
  intro rr
  refine g_and (b := rr = some (.int (gS b' 0))) (P' := LH D ty s tE o mo ad el' a' b' f') (fun H h => ⟨h.1.1, h.2, h.1.2⟩) (fun hr9 => ?_)
  subst hr9
  refine g_iload S dL_law_673 rfl ?_
  refine g_icmp_eq S (tgt := 680) dL_law_675 (by decide) (fun _ => ?_) (fun c9 => absurd h0 c9)
  refine g_iload S dL_law_680 rfl ?_
  refine g_if_ne S (tgt := 697) dL_law_682 (by decide) (fun _ => ?_) (fun c8 => ?_)
  ·
    refine g_goto S (tgt := 1556) dL_law_697 (by decide) ?_
    exact g_less (lv' := lvL b0 (el 6 0) mo o (nI i)) rfl (lvL_less rfl rfl rfl rfl rfl) (g_widen (k' := 50 + pc a' + 10 * (T + 1)) (n' := 20000 + ps a' + 400 * (T + 1)) (by omega) (by omega) (kk f' el' a' b' hj ht hx6))
  ·
    refine g_aload_n S dL_law_685 rfl ?_
    refine g_iconst S (v := 0) dL_law_686 (by decide) ?_
    refine g_lald S hK (a := o) (N' := 1) (f := f') (fun H h => h.1.2) vin_01 dL_law_687 ?_
    refine g_iload S dL_law_688 rfl ?_
    refine g_i2l S dL_law_690 ?_
    refine g_lcmp S dL_law_691 ?_
    refine g_if_eq S (tgt := 697) dL_law_692 (by decide) (fun _ => ?_) (fun c7 => absurd (by rw [show f' (0 : Int32).toNatClampNeg = f' 0 from rfl, hr c8]; exact lg_self _) c7)
    refine g_goto S (tgt := 1556) dL_law_697 (by decide) ?_
    exact g_less (lv' := lvL b0 (el 6 0) mo o (nI i)) rfl (lvL_less rfl rfl rfl rfl rfl) (g_widen (k' := 50 + pc a' + 10 * (T + 1)) (n' := 20000 + ps a' + 400 * (T + 1)) (by omega) (by omega) (kk f' el' a' b' hj ht hx6))
set_option maxHeartbeats 2000000 in
set_option maxRecDepth 100000 in
theorem L_reweigh {p : Program} {l : Launch} {e : Env} {s : State} {m : MethodId} {below : List Frame} {meth : Method} {c : Code} {b0 L : Nat} {xs : Nat → Int32} {D : va_G} {ty : Nat → ClassId} {tE o mo : Nat} {ad : Nat → Nat} {el : Nat → Nat → Nat} {a : CS} {b : MS} {f : Nat → Int64} {T D0 : Nat} (C : LCtx p l s m c b0 L xs D ty tE o mo ad) {i : Nat} (hi : i + 8 ≤ L) (j : SJ T D0 a b) (tn : TN a) (hT : T < 600) (hD : D0 ≤ 90000)
    (kk : ∀ (f' : Nat → Int64) (el' : Nat → Nat → Nat) (a' : CS) (b' : MS), SJ (T + 1) (D0 + 30) a' b' → TN a' → el' 6 0 = el 6 0 → LW p l e s m below meth c b0 (LH D ty s tE o mo ad el' a' b' f') (50 + pc a' + 10 * (T + 1)) (20000 + ps a' + 400 * (T + 1)) 1556 (lvL b0 (el 6 0) mo o (nI i)) []) :
    LW p l e s m below meth c b0 (LH D ty s tE o mo ad el a b f) (50 + pc a + 10 * T) (20000 + ps a + 400 * T) 700 (lvL b0 (el 6 0) mo o (nI i)) [] := by
  obtain ⟨S, hK, hE, hX, hbl, hL, hl, ho1, ho2, hAm⟩ := C
  have ev := ev_S (l := l) hl ho1 ho2
  have hcost := tn.cost j (by omega)
  obtain ⟨k, f', a', b', r, mc, ms, P2, hP2, hW, hMm, ⟨c1, c2⟩, h0, hr, hj, ht⟩ := o_reweigh (D := D) (ty := ty) (tE := tE) (mo := mo) (Am := AmS mo ad) (ad := ad) (el := el) ev j tn hT hD (xs (i + 1)) (xs (i + 2)) f
  have hcost2 := ht.cost hj (by omega)
  have hE1 : ∀ (H : Heap) (locs : List Loc), LH D ty s tE o mo ad el a b f H → va_S (LA s) s.heap H locs → ∀ U : State, U.heap = H → s.WarmedH U.vm → gE true cstrs (AwS s mo ad) tE U U.heap := fun H locs hP hS => gE_at hE hS (fun q h => h.1) (fun q hq => ⟨Nat.le_trans hS.1 hq, fun z => absurd (hM_lt hP.2 q z) (Nat.not_lt.mpr hq)⟩)
  have hk1 : ∀ H H1 : Heap, hM D ty (AmS mo ad) mo ad b H → H.size ≤ H1.size → (∀ q : Nat, q < H.size → ¬ AwS s mo ad q → H1[q]? = H[q]?) → hM D ty (AmS mo ad) mo ad b H1 := fun H H1 h _ hq => hM_kept h (fun q hA hlt => hq q hlt (fun z => z.2 hA))
  refine g_aload_n S dL_law_700 rfl ?_
  refine g_aload_n S dL_law_701 rfl ?_
  refine g_iload S dL_law_702 rfl ?_
  refine g_iconst S (v := 1) dL_law_704 (by decide) ?_
  refine g_iadd S dL_law_705 ?_
  refine g_sld S hX hbl (j := i + 1) (by rw [show (1 : Int32) = nI 1 by decide]; exact nI_plus i 1) (by omega) hL dL_law_706 ?_
  refine g_aload_n S dL_law_707 rfl ?_
  refine g_iload S dL_law_708 rfl ?_
  refine g_iconst S (v := 2) dL_law_710 (by decide) ?_
  refine g_iadd S dL_law_711 ?_
  refine g_sld S hX hbl (j := i + 2) (by rw [show (2 : Int32) = nI 2 by decide]; exact nI_plus i 2) (by omega) hL dL_law_712 ?_
  refine g_aload_n S dL_law_713 rfl ?_
  refine g_callSWX (A' := AwS s mo ad) (Pk := hM D ty (AmS mo ad) mo ad b) (As := [.ref (el 6 0), .int (xs (i + 1)), .int (xs (i + 2)), .ref o]) (st := []) S hW (vx_cwSW 4 S.2.2.2.2 gL_law_L_reweigh rfl rfl rfl (by decide +kernel) ⟨Nat.le_of_ble_eq_true rfl, Nat.le_of_ble_eq_true rfl⟩) hK (fun q h => h.1) hE1 hk1 (fun H h => ⟨h.1, h.2⟩) rfl (Nat.le_of_ble_eq_true rfl) dL_law_714 ⟨by show _ ≤ 601024; omega, by show _ ≤ 7293034; omega⟩ ?_
  intro rr
  refine g_and (b := rr = some (.int k)) (P' := fun H => (P2 H ∧ lrow D ty o f' H) ∧ hM D ty (AmS mo ad) mo ad b H) (fun H h => ⟨h.1.1, h.1.2, h.2⟩) (fun hr9 => ?_)
  subst hr9
  refine g_ex (α := Nat → Nat → Nat) (P' := fun el' H => elX a el el' ∧ LH D ty s tE o mo ad el' a' b f' H) (fun H h => (hP2 H h.1.1).elim fun el' z => ⟨el', z.1, ⟨z.2, h.1.2⟩, h.2⟩) (fun el' => ?_)
  refine g_and (P' := LH D ty s tE o mo ad el' a' b f') (fun H h => h) (fun hel => ?_)
  have hx6 : el' 6 0 = el 6 0 := hel.ob (Or.inr ⟨rfl, rfl⟩)
  have hk2 : ∀ (H H1 : Heap), hC D ty (AcS s mo ad o) tE el' a' H ∧ lrow D ty o f' H → H.size ≤ H1.size → (∀ q : Nat, q < H.size → ¬ AmS mo ad q → H1[q]? = H[q]?) → hC D ty (AcS s mo ad o) tE el' a' H1 ∧ lrow D ty o f' H1 := fun H H1 h _ hq => ⟨hC_kept h.1 (fun q hA hlt => hq q hlt hA.1.2), va_at.kept h.2 (hq o (va_at.lt h.2) ho2)⟩
  refine g_istore S dL_law_717 (by decide) rfl ?_
  refine g_aload_n S dL_law_719 rfl ?_
  refine g_aload_n S dL_law_720 rfl ?_
  refine g_iload S dL_law_721 rfl ?_
  refine g_iconst S (v := 1) dL_law_723 (by decide) ?_
  refine g_iadd S dL_law_724 ?_
  refine g_sld S hX hbl (j := i + 1) (by rw [show (1 : Int32) = nI 1 by decide]; exact nI_plus i 1) (by omega) hL dL_law_725 ?_
  refine g_aload_n S dL_law_726 rfl ?_
  refine g_iload S dL_law_727 rfl ?_
  refine g_iconst S (v := 2) dL_law_729 (by decide) ?_
  refine g_iadd S dL_law_730 ?_
  refine g_sld S hX hbl (j := i + 2) (by rw [show (2 : Int32) = nI 2 by decide]; exact nI_plus i 2) (by omega) hL dL_law_731 ?_
  refine g_callVX (b := false) (strs := []) (tE := 0) (A' := AmS mo ad) (Pk := fun H => hC D ty (AcS s mo ad o) tE el' a' H ∧ lrow D ty o f' H) (b0 := mo) (As := [.int (xs (i + 1)), .int (xs (i + 2))]) (st := []) S hMm (cwV 2 S.2.2.2.2 gL_law_X6_reweigh rfl rfl rfl (by decide +kernel) ⟨Nat.le_of_ble_eq_true rfl, Nat.le_of_ble_eq_true rfl⟩) hK hAm (fun H locs _ _ => gE_no) hk2 (fun H h => ⟨h.2, h.1⟩) (fun H h => m_recv hK H h.2) rfl (Nat.le_of_ble_eq_true rfl) dL_law_732 ⟨by show _ ≤ 601024; omega, by show _ ≤ 7293034; omega⟩ ?_
  intro rr
  refine g_and (b := rr = r) (P' := LH D ty s tE o mo ad el' a' b' f') (fun H h => ⟨h.1.1, h.2, h.1.2⟩) (fun hr9 => ?_)
  subst hr9
  obtain ⟨v, hv9, hr⟩ := hr
  subst hv9
  refine g_istore S dL_law_735 (by decide) rfl ?_
  refine g_aload_n S dL_law_737 rfl ?_
  refine g_callVX (b := false) (strs := []) (tE := 0) (A' := AmS mo ad) (Pk := fun H => hC D ty (AcS s mo ad o) tE el' a' H ∧ lrow D ty o f' H) (b0 := mo) (As := []) (st := []) S (c_thrown l D ty (AmS mo ad) mo ad b') (cwV 0 S.2.2.2.2 gL_law_X6_thrown rfl rfl rfl (by decide +kernel) ⟨Nat.le_of_ble_eq_true rfl, Nat.le_of_ble_eq_true rfl⟩) hK hAm (fun H locs _ _ => gE_no) hk2 (fun H h => ⟨h.2, h.1⟩) (fun H h => m_recv hK H h.2) rfl (Nat.le_of_ble_eq_true rfl) dL_law_738 ⟨by show _ ≤ 601024; omega, by show _ ≤ 7293034; omega⟩ ?_
  intro rr
  refine g_and (b := rr = some (.int (gS b' 0))) (P' := LH D ty s tE o mo ad el' a' b' f') (fun H h => ⟨h.1.1, h.2, h.1.2⟩) (fun hr9 => ?_)
  subst hr9
  refine g_iload S dL_law_741 rfl ?_
  refine g_icmp_eq S (tgt := 748) dL_law_743 (by decide) (fun _ => ?_) (fun c9 => absurd h0 c9)
  refine g_iload S dL_law_748 rfl ?_
  refine g_if_ne S (tgt := 765) dL_law_750 (by decide) (fun _ => ?_) (fun c8 => ?_)
  ·
    refine g_goto S (tgt := 1556) dL_law_765 (by decide) ?_
    exact g_less (lv' := lvL b0 (el 6 0) mo o (nI i)) rfl (lvL_less rfl rfl rfl rfl rfl) (g_widen (k' := 50 + pc a' + 10 * (T + 1)) (n' := 20000 + ps a' + 400 * (T + 1)) (by omega) (by omega) (kk f' el' a' b' hj ht hx6))
  ·
    refine g_aload_n S dL_law_753 rfl ?_
    refine g_iconst S (v := 0) dL_law_754 (by decide) ?_
    refine g_lald S hK (a := o) (N' := 1) (f := f') (fun H h => h.1.2) vin_01 dL_law_755 ?_
    refine g_iload S dL_law_756 rfl ?_
    refine g_i2l S dL_law_758 ?_
    refine g_lcmp S dL_law_759 ?_
    refine g_if_eq S (tgt := 765) dL_law_760 (by decide) (fun _ => ?_) (fun c7 => absurd (by rw [show f' (0 : Int32).toNatClampNeg = f' 0 from rfl, hr c8]; exact lg_self _) c7)
    refine g_goto S (tgt := 1556) dL_law_765 (by decide) ?_
    exact g_less (lv' := lvL b0 (el 6 0) mo o (nI i)) rfl (lvL_less rfl rfl rfl rfl rfl) (g_widen (k' := 50 + pc a' + 10 * (T + 1)) (n' := 20000 + ps a' + 400 * (T + 1)) (by omega) (by omega) (kk f' el' a' b' hj ht hx6))
set_option maxHeartbeats 2000000 in
set_option maxRecDepth 100000 in
theorem L_contract {p : Program} {l : Launch} {e : Env} {s : State} {m : MethodId} {below : List Frame} {meth : Method} {c : Code} {b0 L : Nat} {xs : Nat → Int32} {D : va_G} {ty : Nat → ClassId} {tE o mo : Nat} {ad : Nat → Nat} {el : Nat → Nat → Nat} {a : CS} {b : MS} {f : Nat → Int64} {T D0 : Nat} (C : LCtx p l s m c b0 L xs D ty tE o mo ad) {i : Nat} (hi : i + 8 ≤ L) (j : SJ T D0 a b) (tn : TN a) (hT : T < 600) (hD : D0 ≤ 90000)
    (kk : ∀ (f' : Nat → Int64) (el' : Nat → Nat → Nat) (a' : CS) (b' : MS), SJ (T + 1) (D0 + 30) a' b' → TN a' → el' 6 0 = el 6 0 → LW p l e s m below meth c b0 (LH D ty s tE o mo ad el' a' b' f') (50 + pc a' + 10 * (T + 1)) (20000 + ps a' + 400 * (T + 1)) 1556 (lvL b0 (el 6 0) mo o (nI i)) []) :
    LW p l e s m below meth c b0 (LH D ty s tE o mo ad el a b f) (50 + pc a + 10 * T) (20000 + ps a + 400 * T) 768 (lvL b0 (el 6 0) mo o (nI i)) [] := by
  obtain ⟨S, hK, hE, hX, hbl, hL, hl, ho1, ho2, hAm⟩ := C
  have ev := ev_S (l := l) hl ho1 ho2
  have hcost := tn.cost j (by omega)
  obtain ⟨k, f', a', b', r, mc, ms, P2, hP2, hW, hMm, ⟨c1, c2⟩, h0, hr, hj, ht⟩ := o_contract (D := D) (ty := ty) (tE := tE) (mo := mo) (Am := AmS mo ad) (ad := ad) (el := el) ev j tn hT hD (xs (i + 1)) (xs (i + 2)) (xs (i + 3)) (xs (i + 4)) (xs (i + 5)) (xs (i + 6)) (xs (i + 7)) f
  have hcost2 := ht.cost hj (by omega)
  have hE1 : ∀ (H : Heap) (locs : List Loc), LH D ty s tE o mo ad el a b f H → va_S (LA s) s.heap H locs → ∀ U : State, U.heap = H → s.WarmedH U.vm → gE true cstrs (AwS s mo ad) tE U U.heap := fun H locs hP hS => gE_at hE hS (fun q h => h.1) (fun q hq => ⟨Nat.le_trans hS.1 hq, fun z => absurd (hM_lt hP.2 q z) (Nat.not_lt.mpr hq)⟩)
  have hk1 : ∀ H H1 : Heap, hM D ty (AmS mo ad) mo ad b H → H.size ≤ H1.size → (∀ q : Nat, q < H.size → ¬ AwS s mo ad q → H1[q]? = H[q]?) → hM D ty (AmS mo ad) mo ad b H1 := fun H H1 h _ hq => hM_kept h (fun q hA hlt => hq q hlt (fun z => z.2 hA))
  refine g_aload_n S dL_law_768 rfl ?_
  refine g_aload_n S dL_law_769 rfl ?_
  refine g_iload S dL_law_770 rfl ?_
  refine g_iconst S (v := 1) dL_law_772 (by decide) ?_
  refine g_iadd S dL_law_773 ?_
  refine g_sld S hX hbl (j := i + 1) (by rw [show (1 : Int32) = nI 1 by decide]; exact nI_plus i 1) (by omega) hL dL_law_774 ?_
  refine g_aload_n S dL_law_775 rfl ?_
  refine g_iload S dL_law_776 rfl ?_
  refine g_iconst S (v := 2) dL_law_778 (by decide) ?_
  refine g_iadd S dL_law_779 ?_
  refine g_sld S hX hbl (j := i + 2) (by rw [show (2 : Int32) = nI 2 by decide]; exact nI_plus i 2) (by omega) hL dL_law_780 ?_
  refine g_aload_n S dL_law_781 rfl ?_
  refine g_iload S dL_law_782 rfl ?_
  refine g_iconst S (v := 3) dL_law_784 (by decide) ?_
  refine g_iadd S dL_law_785 ?_
  refine g_sld S hX hbl (j := i + 3) (by rw [show (3 : Int32) = nI 3 by decide]; exact nI_plus i 3) (by omega) hL dL_law_786 ?_
  refine g_aload_n S dL_law_787 rfl ?_
  refine g_iload S dL_law_788 rfl ?_
  refine g_iconst S (v := 4) dL_law_790 (by decide) ?_
  refine g_iadd S dL_law_791 ?_
  refine g_sld S hX hbl (j := i + 4) (by rw [show (4 : Int32) = nI 4 by decide]; exact nI_plus i 4) (by omega) hL dL_law_792 ?_
  refine g_aload_n S dL_law_793 rfl ?_
  refine g_iload S dL_law_794 rfl ?_
  refine g_iconst S (v := 5) dL_law_796 (by decide) ?_
  refine g_iadd S dL_law_797 ?_
  refine g_sld S hX hbl (j := i + 5) (by rw [show (5 : Int32) = nI 5 by decide]; exact nI_plus i 5) (by omega) hL dL_law_798 ?_
  refine g_aload_n S dL_law_799 rfl ?_
  refine g_iload S dL_law_800 rfl ?_
  refine g_bipush S (v := 6) dL_law_802 (by decide) ?_
  refine g_iadd S dL_law_804 ?_
  refine g_sld S hX hbl (j := i + 6) (by rw [show (6 : Int32) = nI 6 by decide]; exact nI_plus i 6) (by omega) hL dL_law_805 ?_
  refine g_aload_n S dL_law_806 rfl ?_
  refine g_iload S dL_law_807 rfl ?_
  refine g_bipush S (v := 7) dL_law_809 (by decide) ?_
  refine g_iadd S dL_law_811 ?_
  refine g_sld S hX hbl (j := i + 7) (by rw [show (7 : Int32) = nI 7 by decide]; exact nI_plus i 7) (by omega) hL dL_law_812 ?_
  refine g_aload_n S dL_law_813 rfl ?_
  refine g_callSWX (A' := AwS s mo ad) (Pk := hM D ty (AmS mo ad) mo ad b) (As := [.ref (el 6 0), .int (xs (i + 1)), .int (xs (i + 2)), .int (xs (i + 3)), .int (xs (i + 4)), .int (xs (i + 5)), .int (xs (i + 6)), .int (xs (i + 7)), .ref o]) (st := []) S hW (vx_cwSW 9 S.2.2.2.2 gL_law_L_contract rfl rfl rfl (by decide +kernel) ⟨Nat.le_of_ble_eq_true rfl, Nat.le_of_ble_eq_true rfl⟩) hK (fun q h => h.1) hE1 hk1 (fun H h => ⟨h.1, h.2⟩) rfl (Nat.le_of_ble_eq_true rfl) dL_law_814 ⟨by show _ ≤ 601024; omega, by show _ ≤ 7293034; omega⟩ ?_
  intro rr
  refine g_and (b := rr = some (.int k)) (P' := fun H => (P2 H ∧ lrow D ty o f' H) ∧ hM D ty (AmS mo ad) mo ad b H) (fun H h => ⟨h.1.1, h.1.2, h.2⟩) (fun hr9 => ?_)
  subst hr9
  refine g_ex (α := Nat → Nat → Nat) (P' := fun el' H => elX a el el' ∧ LH D ty s tE o mo ad el' a' b f' H) (fun H h => (hP2 H h.1.1).elim fun el' z => ⟨el', z.1, ⟨z.2, h.1.2⟩, h.2⟩) (fun el' => ?_)
  refine g_and (P' := LH D ty s tE o mo ad el' a' b f') (fun H h => h) (fun hel => ?_)
  have hx6 : el' 6 0 = el 6 0 := hel.ob (Or.inr ⟨rfl, rfl⟩)
  have hk2 : ∀ (H H1 : Heap), hC D ty (AcS s mo ad o) tE el' a' H ∧ lrow D ty o f' H → H.size ≤ H1.size → (∀ q : Nat, q < H.size → ¬ AmS mo ad q → H1[q]? = H[q]?) → hC D ty (AcS s mo ad o) tE el' a' H1 ∧ lrow D ty o f' H1 := fun H H1 h _ hq => ⟨hC_kept h.1 (fun q hA hlt => hq q hlt hA.1.2), va_at.kept h.2 (hq o (va_at.lt h.2) ho2)⟩
  refine g_istore S dL_law_817 (by decide) rfl ?_
  refine g_aload_n S dL_law_819 rfl ?_
  refine g_aload_n S dL_law_820 rfl ?_
  refine g_iload S dL_law_821 rfl ?_
  refine g_iconst S (v := 1) dL_law_823 (by decide) ?_
  refine g_iadd S dL_law_824 ?_
  refine g_sld S hX hbl (j := i + 1) (by rw [show (1 : Int32) = nI 1 by decide]; exact nI_plus i 1) (by omega) hL dL_law_825 ?_
  refine g_aload_n S dL_law_826 rfl ?_
  refine g_iload S dL_law_827 rfl ?_
  refine g_iconst S (v := 2) dL_law_829 (by decide) ?_
  refine g_iadd S dL_law_830 ?_
  refine g_sld S hX hbl (j := i + 2) (by rw [show (2 : Int32) = nI 2 by decide]; exact nI_plus i 2) (by omega) hL dL_law_831 ?_
  refine g_aload_n S dL_law_832 rfl ?_
  refine g_iload S dL_law_833 rfl ?_
  refine g_iconst S (v := 3) dL_law_835 (by decide) ?_
  refine g_iadd S dL_law_836 ?_
  refine g_sld S hX hbl (j := i + 3) (by rw [show (3 : Int32) = nI 3 by decide]; exact nI_plus i 3) (by omega) hL dL_law_837 ?_
  refine g_aload_n S dL_law_838 rfl ?_
  refine g_iload S dL_law_839 rfl ?_
  refine g_iconst S (v := 4) dL_law_841 (by decide) ?_
  refine g_iadd S dL_law_842 ?_
  refine g_sld S hX hbl (j := i + 4) (by rw [show (4 : Int32) = nI 4 by decide]; exact nI_plus i 4) (by omega) hL dL_law_843 ?_
  refine g_aload_n S dL_law_844 rfl ?_
  refine g_iload S dL_law_845 rfl ?_
  refine g_iconst S (v := 5) dL_law_847 (by decide) ?_
  refine g_iadd S dL_law_848 ?_
  refine g_sld S hX hbl (j := i + 5) (by rw [show (5 : Int32) = nI 5 by decide]; exact nI_plus i 5) (by omega) hL dL_law_849 ?_
  refine g_aload_n S dL_law_850 rfl ?_
  refine g_iload S dL_law_851 rfl ?_
  refine g_bipush S (v := 6) dL_law_853 (by decide) ?_
  refine g_iadd S dL_law_855 ?_
  refine g_sld S hX hbl (j := i + 6) (by rw [show (6 : Int32) = nI 6 by decide]; exact nI_plus i 6) (by omega) hL dL_law_856 ?_
  refine g_aload_n S dL_law_857 rfl ?_
  refine g_iload S dL_law_858 rfl ?_
  refine g_bipush S (v := 7) dL_law_860 (by decide) ?_
  refine g_iadd S dL_law_862 ?_
  refine g_sld S hX hbl (j := i + 7) (by rw [show (7 : Int32) = nI 7 by decide]; exact nI_plus i 7) (by omega) hL dL_law_863 ?_
  refine g_callVX (b := false) (strs := []) (tE := 0) (A' := AmS mo ad) (Pk := fun H => hC D ty (AcS s mo ad o) tE el' a' H ∧ lrow D ty o f' H) (b0 := mo) (As := [.int (xs (i + 1)), .int (xs (i + 2)), .int (xs (i + 3)), .int (xs (i + 4)), .int (xs (i + 5)), .int (xs (i + 6)), .int (xs (i + 7))]) (st := []) S hMm (cwV 7 S.2.2.2.2 gL_law_X6_contract rfl rfl rfl (by decide +kernel) ⟨Nat.le_of_ble_eq_true rfl, Nat.le_of_ble_eq_true rfl⟩) hK hAm (fun H locs _ _ => gE_no) hk2 (fun H h => ⟨h.2, h.1⟩) (fun H h => m_recv hK H h.2) rfl (Nat.le_of_ble_eq_true rfl) dL_law_864 ⟨by show _ ≤ 601024; omega, by show _ ≤ 7293034; omega⟩ ?_
  intro rr
  refine g_and (b := rr = r) (P' := LH D ty s tE o mo ad el' a' b' f') (fun H h => ⟨h.1.1, h.2, h.1.2⟩) (fun hr9 => ?_)
  subst hr9
  obtain ⟨v, hv9, hr⟩ := hr
  subst hv9
  refine g_istore S dL_law_867 (by decide) rfl ?_
  refine g_aload_n S dL_law_869 rfl ?_
  refine g_callVX (b := false) (strs := []) (tE := 0) (A' := AmS mo ad) (Pk := fun H => hC D ty (AcS s mo ad o) tE el' a' H ∧ lrow D ty o f' H) (b0 := mo) (As := []) (st := []) S (c_thrown l D ty (AmS mo ad) mo ad b') (cwV 0 S.2.2.2.2 gL_law_X6_thrown rfl rfl rfl (by decide +kernel) ⟨Nat.le_of_ble_eq_true rfl, Nat.le_of_ble_eq_true rfl⟩) hK hAm (fun H locs _ _ => gE_no) hk2 (fun H h => ⟨h.2, h.1⟩) (fun H h => m_recv hK H h.2) rfl (Nat.le_of_ble_eq_true rfl) dL_law_870 ⟨by show _ ≤ 601024; omega, by show _ ≤ 7293034; omega⟩ ?_
  intro rr
  refine g_and (b := rr = some (.int (gS b' 0))) (P' := LH D ty s tE o mo ad el' a' b' f') (fun H h => ⟨h.1.1, h.2, h.1.2⟩) (fun hr9 => ?_)
  subst hr9
  refine g_iload S dL_law_873 rfl ?_
  refine g_icmp_eq S (tgt := 880) dL_law_875 (by decide) (fun _ => ?_) (fun c9 => absurd h0 c9)
  refine g_iload S dL_law_880 rfl ?_
  refine g_if_ne S (tgt := 897) dL_law_882 (by decide) (fun _ => ?_) (fun c8 => ?_)
  ·
    refine g_goto S (tgt := 1556) dL_law_897 (by decide) ?_
    exact g_less (lv' := lvL b0 (el 6 0) mo o (nI i)) rfl (lvL_less rfl rfl rfl rfl rfl) (g_widen (k' := 50 + pc a' + 10 * (T + 1)) (n' := 20000 + ps a' + 400 * (T + 1)) (by omega) (by omega) (kk f' el' a' b' hj ht hx6))
  ·
    refine g_aload_n S dL_law_885 rfl ?_
    refine g_iconst S (v := 0) dL_law_886 (by decide) ?_
    refine g_lald S hK (a := o) (N' := 1) (f := f') (fun H h => h.1.2) vin_01 dL_law_887 ?_
    refine g_iload S dL_law_888 rfl ?_
    refine g_i2l S dL_law_890 ?_
    refine g_lcmp S dL_law_891 ?_
    refine g_if_eq S (tgt := 897) dL_law_892 (by decide) (fun _ => ?_) (fun c7 => absurd (by rw [show f' (0 : Int32).toNatClampNeg = f' 0 from rfl, hr c8]; exact lg_self _) c7)
    refine g_goto S (tgt := 1556) dL_law_897 (by decide) ?_
    exact g_less (lv' := lvL b0 (el 6 0) mo o (nI i)) rfl (lvL_less rfl rfl rfl rfl rfl) (g_widen (k' := 50 + pc a' + 10 * (T + 1)) (n' := 20000 + ps a' + 400 * (T + 1)) (by omega) (by omega) (kk f' el' a' b' hj ht hx6))
set_option maxHeartbeats 2000000 in
set_option maxRecDepth 100000 in
theorem L_pass {p : Program} {l : Launch} {e : Env} {s : State} {m : MethodId} {below : List Frame} {meth : Method} {c : Code} {b0 L : Nat} {xs : Nat → Int32} {D : va_G} {ty : Nat → ClassId} {tE o mo : Nat} {ad : Nat → Nat} {el : Nat → Nat → Nat} {a : CS} {b : MS} {f : Nat → Int64} {T D0 : Nat} (C : LCtx p l s m c b0 L xs D ty tE o mo ad) {i : Nat} (hi : i + 8 ≤ L) (j : SJ T D0 a b) (tn : TN a) (hT : T < 600) (hD : D0 ≤ 90000)
    (kk : ∀ (f' : Nat → Int64) (el' : Nat → Nat → Nat) (a' : CS) (b' : MS), SJ (T + 1) (D0 + 30) a' b' → TN a' → el' 6 0 = el 6 0 → LW p l e s m below meth c b0 (LH D ty s tE o mo ad el' a' b' f') (50 + pc a' + 10 * (T + 1)) (20000 + ps a' + 400 * (T + 1)) 1556 (lvL b0 (el 6 0) mo o (nI i)) []) :
    LW p l e s m below meth c b0 (LH D ty s tE o mo ad el a b f) (50 + pc a + 10 * T) (20000 + ps a + 400 * T) 900 (lvL b0 (el 6 0) mo o (nI i)) [] := by
  obtain ⟨S, hK, hE, hX, hbl, hL, hl, ho1, ho2, hAm⟩ := C
  have ev := ev_S (l := l) hl ho1 ho2
  have hcost := tn.cost j (by omega)
  obtain ⟨k, f', a', b', r, mc, ms, P2, hP2, hW, hMm, ⟨c1, c2⟩, h0, hr, hj, ht⟩ := o_pass (D := D) (ty := ty) (tE := tE) (mo := mo) (Am := AmS mo ad) (ad := ad) (el := el) ev j tn hT hD (xs (i + 1)) f
  have hcost2 := ht.cost hj (by omega)
  have hE1 : ∀ (H : Heap) (locs : List Loc), LH D ty s tE o mo ad el a b f H → va_S (LA s) s.heap H locs → ∀ U : State, U.heap = H → s.WarmedH U.vm → gE true cstrs (AwS s mo ad) tE U U.heap := fun H locs hP hS => gE_at hE hS (fun q h => h.1) (fun q hq => ⟨Nat.le_trans hS.1 hq, fun z => absurd (hM_lt hP.2 q z) (Nat.not_lt.mpr hq)⟩)
  have hk1 : ∀ H H1 : Heap, hM D ty (AmS mo ad) mo ad b H → H.size ≤ H1.size → (∀ q : Nat, q < H.size → ¬ AwS s mo ad q → H1[q]? = H[q]?) → hM D ty (AmS mo ad) mo ad b H1 := fun H H1 h _ hq => hM_kept h (fun q hA hlt => hq q hlt (fun z => z.2 hA))
  refine g_aload_n S dL_law_900 rfl ?_
  refine g_aload_n S dL_law_901 rfl ?_
  refine g_iload S dL_law_902 rfl ?_
  refine g_iconst S (v := 1) dL_law_904 (by decide) ?_
  refine g_iadd S dL_law_905 ?_
  refine g_sld S hX hbl (j := i + 1) (by rw [show (1 : Int32) = nI 1 by decide]; exact nI_plus i 1) (by omega) hL dL_law_906 ?_
  refine g_aload_n S dL_law_907 rfl ?_
  refine g_callSWX (A' := AwS s mo ad) (Pk := hM D ty (AmS mo ad) mo ad b) (As := [.ref (el 6 0), .int (xs (i + 1)), .ref o]) (st := []) S hW (vx_cwSW 3 S.2.2.2.2 gL_law_L_pass rfl rfl rfl (by decide +kernel) ⟨Nat.le_of_ble_eq_true rfl, Nat.le_of_ble_eq_true rfl⟩) hK (fun q h => h.1) hE1 hk1 (fun H h => ⟨h.1, h.2⟩) rfl (Nat.le_of_ble_eq_true rfl) dL_law_908 ⟨by show _ ≤ 601024; omega, by show _ ≤ 7293034; omega⟩ ?_
  intro rr
  refine g_and (b := rr = some (.int k)) (P' := fun H => (P2 H ∧ lrow D ty o f' H) ∧ hM D ty (AmS mo ad) mo ad b H) (fun H h => ⟨h.1.1, h.1.2, h.2⟩) (fun hr9 => ?_)
  subst hr9
  refine g_ex (α := Nat → Nat → Nat) (P' := fun el' H => elX a el el' ∧ LH D ty s tE o mo ad el' a' b f' H) (fun H h => (hP2 H h.1.1).elim fun el' z => ⟨el', z.1, ⟨z.2, h.1.2⟩, h.2⟩) (fun el' => ?_)
  refine g_and (P' := LH D ty s tE o mo ad el' a' b f') (fun H h => h) (fun hel => ?_)
  have hx6 : el' 6 0 = el 6 0 := hel.ob (Or.inr ⟨rfl, rfl⟩)
  have hk2 : ∀ (H H1 : Heap), hC D ty (AcS s mo ad o) tE el' a' H ∧ lrow D ty o f' H → H.size ≤ H1.size → (∀ q : Nat, q < H.size → ¬ AmS mo ad q → H1[q]? = H[q]?) → hC D ty (AcS s mo ad o) tE el' a' H1 ∧ lrow D ty o f' H1 := fun H H1 h _ hq => ⟨hC_kept h.1 (fun q hA hlt => hq q hlt hA.1.2), va_at.kept h.2 (hq o (va_at.lt h.2) ho2)⟩
  refine g_istore S dL_law_911 (by decide) rfl ?_
  refine g_aload_n S dL_law_913 rfl ?_
  refine g_aload_n S dL_law_914 rfl ?_
  refine g_iload S dL_law_915 rfl ?_
  refine g_iconst S (v := 1) dL_law_917 (by decide) ?_
  refine g_iadd S dL_law_918 ?_
  refine g_sld S hX hbl (j := i + 1) (by rw [show (1 : Int32) = nI 1 by decide]; exact nI_plus i 1) (by omega) hL dL_law_919 ?_
  refine g_callVX (b := false) (strs := []) (tE := 0) (A' := AmS mo ad) (Pk := fun H => hC D ty (AcS s mo ad o) tE el' a' H ∧ lrow D ty o f' H) (b0 := mo) (As := [.int (xs (i + 1))]) (st := []) S hMm (cwV 1 S.2.2.2.2 gL_law_X6_pass rfl rfl rfl (by decide +kernel) ⟨Nat.le_of_ble_eq_true rfl, Nat.le_of_ble_eq_true rfl⟩) hK hAm (fun H locs _ _ => gE_no) hk2 (fun H h => ⟨h.2, h.1⟩) (fun H h => m_recv hK H h.2) rfl (Nat.le_of_ble_eq_true rfl) dL_law_920 ⟨by show _ ≤ 601024; omega, by show _ ≤ 7293034; omega⟩ ?_
  intro rr
  refine g_and (b := rr = r) (P' := LH D ty s tE o mo ad el' a' b' f') (fun H h => ⟨h.1.1, h.2, h.1.2⟩) (fun hr9 => ?_)
  subst hr9
  obtain ⟨v, hv9, hr⟩ := hr
  subst hv9
  refine g_istore S dL_law_923 (by decide) rfl ?_
  refine g_aload_n S dL_law_925 rfl ?_
  refine g_callVX (b := false) (strs := []) (tE := 0) (A' := AmS mo ad) (Pk := fun H => hC D ty (AcS s mo ad o) tE el' a' H ∧ lrow D ty o f' H) (b0 := mo) (As := []) (st := []) S (c_thrown l D ty (AmS mo ad) mo ad b') (cwV 0 S.2.2.2.2 gL_law_X6_thrown rfl rfl rfl (by decide +kernel) ⟨Nat.le_of_ble_eq_true rfl, Nat.le_of_ble_eq_true rfl⟩) hK hAm (fun H locs _ _ => gE_no) hk2 (fun H h => ⟨h.2, h.1⟩) (fun H h => m_recv hK H h.2) rfl (Nat.le_of_ble_eq_true rfl) dL_law_926 ⟨by show _ ≤ 601024; omega, by show _ ≤ 7293034; omega⟩ ?_
  intro rr
  refine g_and (b := rr = some (.int (gS b' 0))) (P' := LH D ty s tE o mo ad el' a' b' f') (fun H h => ⟨h.1.1, h.2, h.1.2⟩) (fun hr9 => ?_)
  subst hr9
  refine g_iload S dL_law_929 rfl ?_
  refine g_icmp_eq S (tgt := 936) dL_law_931 (by decide) (fun _ => ?_) (fun c9 => absurd h0 c9)
  refine g_iload S dL_law_936 rfl ?_
  refine g_if_ne S (tgt := 953) dL_law_938 (by decide) (fun _ => ?_) (fun c8 => ?_)
  ·
    refine g_goto S (tgt := 1556) dL_law_953 (by decide) ?_
    exact g_less (lv' := lvL b0 (el 6 0) mo o (nI i)) rfl (lvL_less rfl rfl rfl rfl rfl) (g_widen (k' := 50 + pc a' + 10 * (T + 1)) (n' := 20000 + ps a' + 400 * (T + 1)) (by omega) (by omega) (kk f' el' a' b' hj ht hx6))
  ·
    refine g_aload_n S dL_law_941 rfl ?_
    refine g_iconst S (v := 0) dL_law_942 (by decide) ?_
    refine g_lald S hK (a := o) (N' := 1) (f := f') (fun H h => h.1.2) vin_01 dL_law_943 ?_
    refine g_iload S dL_law_944 rfl ?_
    refine g_i2l S dL_law_946 ?_
    refine g_lcmp S dL_law_947 ?_
    refine g_if_eq S (tgt := 953) dL_law_948 (by decide) (fun _ => ?_) (fun c7 => absurd (by rw [show f' (0 : Int32).toNatClampNeg = f' 0 from rfl, hr c8]; exact lg_self _) c7)
    refine g_goto S (tgt := 1556) dL_law_953 (by decide) ?_
    exact g_less (lv' := lvL b0 (el 6 0) mo o (nI i)) rfl (lvL_less rfl rfl rfl rfl rfl) (g_widen (k' := 50 + pc a' + 10 * (T + 1)) (n' := 20000 + ps a' + 400 * (T + 1)) (by omega) (by omega) (kk f' el' a' b' hj ht hx6))
set_option maxHeartbeats 2000000 in
set_option maxRecDepth 100000 in
theorem L_receipt {p : Program} {l : Launch} {e : Env} {s : State} {m : MethodId} {below : List Frame} {meth : Method} {c : Code} {b0 L : Nat} {xs : Nat → Int32} {D : va_G} {ty : Nat → ClassId} {tE o mo : Nat} {ad : Nat → Nat} {el : Nat → Nat → Nat} {a : CS} {b : MS} {f : Nat → Int64} {T D0 : Nat} (C : LCtx p l s m c b0 L xs D ty tE o mo ad) {i : Nat} (hi : i + 8 ≤ L) (j : SJ T D0 a b) (tn : TN a) (hT : T < 600) (hD : D0 ≤ 90000)
    (kk : ∀ (f' : Nat → Int64) (el' : Nat → Nat → Nat) (a' : CS) (b' : MS), SJ (T + 1) (D0 + 30) a' b' → TN a' → el' 6 0 = el 6 0 → LW p l e s m below meth c b0 (LH D ty s tE o mo ad el' a' b' f') (50 + pc a' + 10 * (T + 1)) (20000 + ps a' + 400 * (T + 1)) 1556 (lvL b0 (el 6 0) mo o (nI i)) []) :
    LW p l e s m below meth c b0 (LH D ty s tE o mo ad el a b f) (50 + pc a + 10 * T) (20000 + ps a + 400 * T) 956 (lvL b0 (el 6 0) mo o (nI i)) [] := by
  obtain ⟨S, hK, hE, hX, hbl, hL, hl, ho1, ho2, hAm⟩ := C
  have ev := ev_S (l := l) hl ho1 ho2
  have hcost := tn.cost j (by omega)
  obtain ⟨k, f', a', b', r, mc, ms, P2, hP2, hW, hMm, ⟨c1, c2⟩, h0, hr, hj, ht⟩ := o_receipt (D := D) (ty := ty) (tE := tE) (mo := mo) (Am := AmS mo ad) (ad := ad) (el := el) ev j tn hT hD (xs (i + 1)) (xs (i + 2)) f
  have hcost2 := ht.cost hj (by omega)
  have hE1 : ∀ (H : Heap) (locs : List Loc), LH D ty s tE o mo ad el a b f H → va_S (LA s) s.heap H locs → ∀ U : State, U.heap = H → s.WarmedH U.vm → gE true cstrs (AwS s mo ad) tE U U.heap := fun H locs hP hS => gE_at hE hS (fun q h => h.1) (fun q hq => ⟨Nat.le_trans hS.1 hq, fun z => absurd (hM_lt hP.2 q z) (Nat.not_lt.mpr hq)⟩)
  have hk1 : ∀ H H1 : Heap, hM D ty (AmS mo ad) mo ad b H → H.size ≤ H1.size → (∀ q : Nat, q < H.size → ¬ AwS s mo ad q → H1[q]? = H[q]?) → hM D ty (AmS mo ad) mo ad b H1 := fun H H1 h _ hq => hM_kept h (fun q hA hlt => hq q hlt (fun z => z.2 hA))
  refine g_aload_n S dL_law_956 rfl ?_
  refine g_aload_n S dL_law_957 rfl ?_
  refine g_iload S dL_law_958 rfl ?_
  refine g_iconst S (v := 1) dL_law_960 (by decide) ?_
  refine g_iadd S dL_law_961 ?_
  refine g_sld S hX hbl (j := i + 1) (by rw [show (1 : Int32) = nI 1 by decide]; exact nI_plus i 1) (by omega) hL dL_law_962 ?_
  refine g_aload_n S dL_law_963 rfl ?_
  refine g_iload S dL_law_964 rfl ?_
  refine g_iconst S (v := 2) dL_law_966 (by decide) ?_
  refine g_iadd S dL_law_967 ?_
  refine g_sld S hX hbl (j := i + 2) (by rw [show (2 : Int32) = nI 2 by decide]; exact nI_plus i 2) (by omega) hL dL_law_968 ?_
  refine g_aload_n S dL_law_969 rfl ?_
  refine g_callSWX (A' := AwS s mo ad) (Pk := hM D ty (AmS mo ad) mo ad b) (As := [.ref (el 6 0), .int (xs (i + 1)), .int (xs (i + 2)), .ref o]) (st := []) S hW (vx_cwSW 4 S.2.2.2.2 gL_law_L_receipt rfl rfl rfl (by decide +kernel) ⟨Nat.le_of_ble_eq_true rfl, Nat.le_of_ble_eq_true rfl⟩) hK (fun q h => h.1) hE1 hk1 (fun H h => ⟨h.1, h.2⟩) rfl (Nat.le_of_ble_eq_true rfl) dL_law_970 ⟨by show _ ≤ 601024; omega, by show _ ≤ 7293034; omega⟩ ?_
  intro rr
  refine g_and (b := rr = some (.int k)) (P' := fun H => (P2 H ∧ lrow D ty o f' H) ∧ hM D ty (AmS mo ad) mo ad b H) (fun H h => ⟨h.1.1, h.1.2, h.2⟩) (fun hr9 => ?_)
  subst hr9
  refine g_ex (α := Nat → Nat → Nat) (P' := fun el' H => elX a el el' ∧ LH D ty s tE o mo ad el' a' b f' H) (fun H h => (hP2 H h.1.1).elim fun el' z => ⟨el', z.1, ⟨z.2, h.1.2⟩, h.2⟩) (fun el' => ?_)
  refine g_and (P' := LH D ty s tE o mo ad el' a' b f') (fun H h => h) (fun hel => ?_)
  have hx6 : el' 6 0 = el 6 0 := hel.ob (Or.inr ⟨rfl, rfl⟩)
  have hk2 : ∀ (H H1 : Heap), hC D ty (AcS s mo ad o) tE el' a' H ∧ lrow D ty o f' H → H.size ≤ H1.size → (∀ q : Nat, q < H.size → ¬ AmS mo ad q → H1[q]? = H[q]?) → hC D ty (AcS s mo ad o) tE el' a' H1 ∧ lrow D ty o f' H1 := fun H H1 h _ hq => ⟨hC_kept h.1 (fun q hA hlt => hq q hlt hA.1.2), va_at.kept h.2 (hq o (va_at.lt h.2) ho2)⟩
  refine g_istore S dL_law_973 (by decide) rfl ?_
  refine g_aload_n S dL_law_975 rfl ?_
  refine g_aload_n S dL_law_976 rfl ?_
  refine g_iload S dL_law_977 rfl ?_
  refine g_iconst S (v := 1) dL_law_979 (by decide) ?_
  refine g_iadd S dL_law_980 ?_
  refine g_sld S hX hbl (j := i + 1) (by rw [show (1 : Int32) = nI 1 by decide]; exact nI_plus i 1) (by omega) hL dL_law_981 ?_
  refine g_aload_n S dL_law_982 rfl ?_
  refine g_iload S dL_law_983 rfl ?_
  refine g_iconst S (v := 2) dL_law_985 (by decide) ?_
  refine g_iadd S dL_law_986 ?_
  refine g_sld S hX hbl (j := i + 2) (by rw [show (2 : Int32) = nI 2 by decide]; exact nI_plus i 2) (by omega) hL dL_law_987 ?_
  refine g_callVX (b := false) (strs := []) (tE := 0) (A' := AmS mo ad) (Pk := fun H => hC D ty (AcS s mo ad o) tE el' a' H ∧ lrow D ty o f' H) (b0 := mo) (As := [.int (xs (i + 1)), .int (xs (i + 2))]) (st := []) S hMm (cwV 2 S.2.2.2.2 gL_law_X6_receipt rfl rfl rfl (by decide +kernel) ⟨Nat.le_of_ble_eq_true rfl, Nat.le_of_ble_eq_true rfl⟩) hK hAm (fun H locs _ _ => gE_no) hk2 (fun H h => ⟨h.2, h.1⟩) (fun H h => m_recv hK H h.2) rfl (Nat.le_of_ble_eq_true rfl) dL_law_988 ⟨by show _ ≤ 601024; omega, by show _ ≤ 7293034; omega⟩ ?_
  intro rr
  refine g_and (b := rr = r) (P' := LH D ty s tE o mo ad el' a' b' f') (fun H h => ⟨h.1.1, h.2, h.1.2⟩) (fun hr9 => ?_)
  subst hr9
  obtain ⟨v, hv9, hr⟩ := hr
  subst hv9
  refine g_istore S dL_law_991 (by decide) rfl ?_
  refine g_aload_n S dL_law_993 rfl ?_
  refine g_callVX (b := false) (strs := []) (tE := 0) (A' := AmS mo ad) (Pk := fun H => hC D ty (AcS s mo ad o) tE el' a' H ∧ lrow D ty o f' H) (b0 := mo) (As := []) (st := []) S (c_thrown l D ty (AmS mo ad) mo ad b') (cwV 0 S.2.2.2.2 gL_law_X6_thrown rfl rfl rfl (by decide +kernel) ⟨Nat.le_of_ble_eq_true rfl, Nat.le_of_ble_eq_true rfl⟩) hK hAm (fun H locs _ _ => gE_no) hk2 (fun H h => ⟨h.2, h.1⟩) (fun H h => m_recv hK H h.2) rfl (Nat.le_of_ble_eq_true rfl) dL_law_994 ⟨by show _ ≤ 601024; omega, by show _ ≤ 7293034; omega⟩ ?_
  intro rr
  refine g_and (b := rr = some (.int (gS b' 0))) (P' := LH D ty s tE o mo ad el' a' b' f') (fun H h => ⟨h.1.1, h.2, h.1.2⟩) (fun hr9 => ?_)
  subst hr9
  refine g_iload S dL_law_997 rfl ?_
  refine g_icmp_eq S (tgt := 1004) dL_law_999 (by decide) (fun _ => ?_) (fun c9 => absurd h0 c9)
  refine g_iload S dL_law_1004 rfl ?_
  refine g_if_ne S (tgt := 1021) dL_law_1006 (by decide) (fun _ => ?_) (fun c8 => ?_)
  ·
    refine g_goto S (tgt := 1556) dL_law_1021 (by decide) ?_
    exact g_less (lv' := lvL b0 (el 6 0) mo o (nI i)) rfl (lvL_less rfl rfl rfl rfl rfl) (g_widen (k' := 50 + pc a' + 10 * (T + 1)) (n' := 20000 + ps a' + 400 * (T + 1)) (by omega) (by omega) (kk f' el' a' b' hj ht hx6))
  ·
    refine g_aload_n S dL_law_1009 rfl ?_
    refine g_iconst S (v := 0) dL_law_1010 (by decide) ?_
    refine g_lald S hK (a := o) (N' := 1) (f := f') (fun H h => h.1.2) vin_01 dL_law_1011 ?_
    refine g_iload S dL_law_1012 rfl ?_
    refine g_i2l S dL_law_1014 ?_
    refine g_lcmp S dL_law_1015 ?_
    refine g_if_eq S (tgt := 1021) dL_law_1016 (by decide) (fun _ => ?_) (fun c7 => absurd (by rw [show f' (0 : Int32).toNatClampNeg = f' 0 from rfl, hr c8]; exact lg_self _) c7)
    refine g_goto S (tgt := 1556) dL_law_1021 (by decide) ?_
    exact g_less (lv' := lvL b0 (el 6 0) mo o (nI i)) rfl (lvL_less rfl rfl rfl rfl rfl) (g_widen (k' := 50 + pc a' + 10 * (T + 1)) (n' := 20000 + ps a' + 400 * (T + 1)) (by omega) (by omega) (kk f' el' a' b' hj ht hx6))
set_option maxHeartbeats 2000000 in
set_option maxRecDepth 100000 in
theorem L_receipts {p : Program} {l : Launch} {e : Env} {s : State} {m : MethodId} {below : List Frame} {meth : Method} {c : Code} {b0 L : Nat} {xs : Nat → Int32} {D : va_G} {ty : Nat → ClassId} {tE o mo : Nat} {ad : Nat → Nat} {el : Nat → Nat → Nat} {a : CS} {b : MS} {f : Nat → Int64} {T D0 : Nat} (C : LCtx p l s m c b0 L xs D ty tE o mo ad) {i : Nat} (hi : i + 8 ≤ L) (j : SJ T D0 a b) (tn : TN a) (hT : T < 600) (hD : D0 ≤ 90000)
    (kk : ∀ (f' : Nat → Int64) (el' : Nat → Nat → Nat) (a' : CS) (b' : MS), SJ (T + 1) (D0 + 30) a' b' → TN a' → el' 6 0 = el 6 0 → LW p l e s m below meth c b0 (LH D ty s tE o mo ad el' a' b' f') (50 + pc a' + 10 * (T + 1)) (20000 + ps a' + 400 * (T + 1)) 1556 (lvL b0 (el 6 0) mo o (nI i)) []) :
    LW p l e s m below meth c b0 (LH D ty s tE o mo ad el a b f) (50 + pc a + 10 * T) (20000 + ps a + 400 * T) 1024 (lvL b0 (el 6 0) mo o (nI i)) [] := by
  obtain ⟨S, hK, hE, hX, hbl, hL, hl, ho1, ho2, hAm⟩ := C
  have ev := ev_S (l := l) hl ho1 ho2
  have hcost := tn.cost j (by omega)
  refine g_aload_n S dL_law_1024 rfl ?_
  have hE1 : ∀ (H : Heap) (locs : List Loc), LH D ty s tE o mo ad el a b f H → va_S (LA s) s.heap H locs → ∀ U : State, U.heap = H → s.WarmedH U.vm → gE true cstrs (AcS s mo ad o) tE U U.heap := fun H locs hP hS => gE_at hE hS (fun q h => h.1.1) (fun q hq => ⟨⟨Nat.le_trans hS.1 hq, fun z => absurd (hM_lt hP.2 q z) (Nat.not_lt.mpr hq)⟩, fun z => absurd (va_at.lt hP.1.2) (Nat.not_lt.mpr (z ▸ hq))⟩)
  refine g_callVX (A' := AcS s mo ad o) (Pk := fun H => lrow D ty o f H ∧ hM D ty (AmS mo ad) mo ad b H) (b0 := el 6 0) (As := []) (st := []) S (k_receipts l D ty (AcS s mo ad o) tE el a (Or.inr ⟨rfl, rfl⟩)) (cwV 0 S.2.2.2.2 gL_law_X5_receipts rfl rfl rfl (by decide +kernel) ⟨Nat.le_of_ble_eq_true rfl, Nat.le_of_ble_eq_true rfl⟩) hK (fun q h => h.1.1) hE1 (fun H H1 h _ hq => ⟨va_at.kept h.1 (hq o (va_at.lt h.1) (fun z => z.2 rfl)), hM_kept h.2 (fun q hA hlt => hq q hlt (fun z => z.1.2 hA))⟩) (fun H h => ⟨h.1.1, h.1.2, h.2⟩) (fun H h => k6_recv hK (Or.inr ⟨rfl, rfl⟩) H h.1.1) rfl (Nat.le_of_ble_eq_true rfl) dL_law_1025 ⟨by show _ ≤ 601024; omega, by show _ ≤ 7293034; omega⟩ ?_
  intro rr
  refine g_and (b := rr = some (.int (nI (cL a 2)))) (P' := LH D ty s tE o mo ad el a b f) (fun H h => ⟨h.1.1, ⟨h.1.2, h.2.1⟩, h.2.2⟩) (fun hr9 => ?_)
  subst hr9
  refine g_aload_n S dL_law_1028 rfl ?_
  have hk2 : ∀ H H1 : Heap, hC D ty (AcS s mo ad o) tE el a H ∧ lrow D ty o f H → H.size ≤ H1.size → (∀ q : Nat, q < H.size → ¬ AmS mo ad q → H1[q]? = H[q]?) → hC D ty (AcS s mo ad o) tE el a H1 ∧ lrow D ty o f H1 := fun H H1 h _ hq => ⟨hC_kept h.1 (fun q hA hlt => hq q hlt hA.1.2), va_at.kept h.2 (hq o (va_at.lt h.2) ho2)⟩
  refine g_callVX (b := false) (strs := []) (tE := 0) (A' := AmS mo ad) (Pk := fun H => hC D ty (AcS s mo ad o) tE el a H ∧ lrow D ty o f H) (b0 := mo) (As := []) S (c_mreceipts l D ty (AmS mo ad) mo ad b) (cwV 0 S.2.2.2.2 gL_law_X6_receipts rfl rfl rfl (by decide +kernel) ⟨Nat.le_of_ble_eq_true rfl, Nat.le_of_ble_eq_true rfl⟩) hK hAm (fun H locs _ _ => gE_no) hk2 (fun H h => ⟨h.2, h.1⟩) (fun H h => m_recv hK H h.2) rfl (Nat.le_of_ble_eq_true rfl) dL_law_1029 ⟨by show _ ≤ 601024; omega, by show _ ≤ 7293034; omega⟩ ?_
  intro rr
  refine g_and (b := rr = some (.int (mReceipts b).1)) (P' := LH D ty s tE o mo ad el a (mReceipts b).2 f) (fun H h => ⟨h.1.1, h.2, h.1.2⟩) (fun hr9 => ?_)
  subst hr9
  refine g_icmp_eq S (tgt := 1556) dL_law_1032 (by decide) (fun _ => ?_) (fun c9 => absurd (show nI (cL a 2) = gS b 20 from j.2.2.2.2.2.1.2.2.1.symm) c9)
  exact g_widen (k' := 50 + pc a + 10 * (T + 1)) (n' := 20000 + ps a + 400 * (T + 1)) (by omega) (by omega) (kk f el a (mS b 0 0) (j.same (Nat.le_add_right _ _) 0) tn rfl)
set_option maxHeartbeats 2000000 in
set_option maxRecDepth 100000 in
theorem L_delivery {p : Program} {l : Launch} {e : Env} {s : State} {m : MethodId} {below : List Frame} {meth : Method} {c : Code} {b0 L : Nat} {xs : Nat → Int32} {D : va_G} {ty : Nat → ClassId} {tE o mo : Nat} {ad : Nat → Nat} {el : Nat → Nat → Nat} {a : CS} {b : MS} {f : Nat → Int64} {T D0 : Nat} (C : LCtx p l s m c b0 L xs D ty tE o mo ad) {i : Nat} (hi : i + 8 ≤ L) (j : SJ T D0 a b) (tn : TN a) (hT : T < 600) (hD : D0 ≤ 90000)
    (kk : ∀ (f' : Nat → Int64) (el' : Nat → Nat → Nat) (a' : CS) (b' : MS), SJ (T + 1) (D0 + 30) a' b' → TN a' → el' 6 0 = el 6 0 → LW p l e s m below meth c b0 (LH D ty s tE o mo ad el' a' b' f') (50 + pc a' + 10 * (T + 1)) (20000 + ps a' + 400 * (T + 1)) 1556 (lvL b0 (el 6 0) mo o (nI i)) []) :
    LW p l e s m below meth c b0 (LH D ty s tE o mo ad el a b f) (50 + pc a + 10 * T) (20000 + ps a + 400 * T) 1037 (lvL b0 (el 6 0) mo o (nI i)) [] := by
  obtain ⟨S, hK, hE, hX, hbl, hL, hl, ho1, ho2, hAm⟩ := C
  have ev := ev_S (l := l) hl ho1 ho2
  have hcost := tn.cost j (by omega)
  obtain ⟨k, f', a', b', r, mc, ms, P2, hP2, hW, hMm, ⟨c1, c2⟩, h0, hr, hj, ht⟩ := o_delivery (D := D) (ty := ty) (tE := tE) (mo := mo) (Am := AmS mo ad) (ad := ad) (el := el) ev j tn hT hD (xs (i + 1)) (xs (i + 2)) f
  have hcost2 := ht.cost hj (by omega)
  have hE1 : ∀ (H : Heap) (locs : List Loc), LH D ty s tE o mo ad el a b f H → va_S (LA s) s.heap H locs → ∀ U : State, U.heap = H → s.WarmedH U.vm → gE true cstrs (AwS s mo ad) tE U U.heap := fun H locs hP hS => gE_at hE hS (fun q h => h.1) (fun q hq => ⟨Nat.le_trans hS.1 hq, fun z => absurd (hM_lt hP.2 q z) (Nat.not_lt.mpr hq)⟩)
  have hk1 : ∀ H H1 : Heap, hM D ty (AmS mo ad) mo ad b H → H.size ≤ H1.size → (∀ q : Nat, q < H.size → ¬ AwS s mo ad q → H1[q]? = H[q]?) → hM D ty (AmS mo ad) mo ad b H1 := fun H H1 h _ hq => hM_kept h (fun q hA hlt => hq q hlt (fun z => z.2 hA))
  refine g_aload_n S dL_law_1037 rfl ?_
  refine g_aload_n S dL_law_1038 rfl ?_
  refine g_iload S dL_law_1039 rfl ?_
  refine g_iconst S (v := 1) dL_law_1041 (by decide) ?_
  refine g_iadd S dL_law_1042 ?_
  refine g_sld S hX hbl (j := i + 1) (by rw [show (1 : Int32) = nI 1 by decide]; exact nI_plus i 1) (by omega) hL dL_law_1043 ?_
  refine g_aload_n S dL_law_1044 rfl ?_
  refine g_iload S dL_law_1045 rfl ?_
  refine g_iconst S (v := 2) dL_law_1047 (by decide) ?_
  refine g_iadd S dL_law_1048 ?_
  refine g_sld S hX hbl (j := i + 2) (by rw [show (2 : Int32) = nI 2 by decide]; exact nI_plus i 2) (by omega) hL dL_law_1049 ?_
  refine g_aload_n S dL_law_1050 rfl ?_
  refine g_callSWX (A' := AwS s mo ad) (Pk := hM D ty (AmS mo ad) mo ad b) (As := [.ref (el 6 0), .int (xs (i + 1)), .int (xs (i + 2)), .ref o]) (st := []) S hW (vx_cwSW 4 S.2.2.2.2 gL_law_L_delivery rfl rfl rfl (by decide +kernel) ⟨Nat.le_of_ble_eq_true rfl, Nat.le_of_ble_eq_true rfl⟩) hK (fun q h => h.1) hE1 hk1 (fun H h => ⟨h.1, h.2⟩) rfl (Nat.le_of_ble_eq_true rfl) dL_law_1051 ⟨by show _ ≤ 601024; omega, by show _ ≤ 7293034; omega⟩ ?_
  intro rr
  refine g_and (b := rr = some (.int k)) (P' := fun H => (P2 H ∧ lrow D ty o f' H) ∧ hM D ty (AmS mo ad) mo ad b H) (fun H h => ⟨h.1.1, h.1.2, h.2⟩) (fun hr9 => ?_)
  subst hr9
  refine g_ex (α := Nat → Nat → Nat) (P' := fun el' H => elX a el el' ∧ LH D ty s tE o mo ad el' a' b f' H) (fun H h => (hP2 H h.1.1).elim fun el' z => ⟨el', z.1, ⟨z.2, h.1.2⟩, h.2⟩) (fun el' => ?_)
  refine g_and (P' := LH D ty s tE o mo ad el' a' b f') (fun H h => h) (fun hel => ?_)
  have hx6 : el' 6 0 = el 6 0 := hel.ob (Or.inr ⟨rfl, rfl⟩)
  have hk2 : ∀ (H H1 : Heap), hC D ty (AcS s mo ad o) tE el' a' H ∧ lrow D ty o f' H → H.size ≤ H1.size → (∀ q : Nat, q < H.size → ¬ AmS mo ad q → H1[q]? = H[q]?) → hC D ty (AcS s mo ad o) tE el' a' H1 ∧ lrow D ty o f' H1 := fun H H1 h _ hq => ⟨hC_kept h.1 (fun q hA hlt => hq q hlt hA.1.2), va_at.kept h.2 (hq o (va_at.lt h.2) ho2)⟩
  refine g_istore S dL_law_1054 (by decide) rfl ?_
  refine g_aload_n S dL_law_1056 rfl ?_
  refine g_aload_n S dL_law_1057 rfl ?_
  refine g_iload S dL_law_1058 rfl ?_
  refine g_iconst S (v := 1) dL_law_1060 (by decide) ?_
  refine g_iadd S dL_law_1061 ?_
  refine g_sld S hX hbl (j := i + 1) (by rw [show (1 : Int32) = nI 1 by decide]; exact nI_plus i 1) (by omega) hL dL_law_1062 ?_
  refine g_aload_n S dL_law_1063 rfl ?_
  refine g_iload S dL_law_1064 rfl ?_
  refine g_iconst S (v := 2) dL_law_1066 (by decide) ?_
  refine g_iadd S dL_law_1067 ?_
  refine g_sld S hX hbl (j := i + 2) (by rw [show (2 : Int32) = nI 2 by decide]; exact nI_plus i 2) (by omega) hL dL_law_1068 ?_
  refine g_callVX (b := false) (strs := []) (tE := 0) (A' := AmS mo ad) (Pk := fun H => hC D ty (AcS s mo ad o) tE el' a' H ∧ lrow D ty o f' H) (b0 := mo) (As := [.int (xs (i + 1)), .int (xs (i + 2))]) (st := []) S hMm (cwV 2 S.2.2.2.2 gL_law_X6_delivery rfl rfl rfl (by decide +kernel) ⟨Nat.le_of_ble_eq_true rfl, Nat.le_of_ble_eq_true rfl⟩) hK hAm (fun H locs _ _ => gE_no) hk2 (fun H h => ⟨h.2, h.1⟩) (fun H h => m_recv hK H h.2) rfl (Nat.le_of_ble_eq_true rfl) dL_law_1069 ⟨by show _ ≤ 601024; omega, by show _ ≤ 7293034; omega⟩ ?_
  intro rr
  refine g_and (b := rr = r) (P' := LH D ty s tE o mo ad el' a' b' f') (fun H h => ⟨h.1.1, h.2, h.1.2⟩) (fun hr9 => ?_)
  subst hr9
  obtain ⟨v, hv9, hr⟩ := hr
  subst hv9
  refine g_istore S dL_law_1072 (by decide) rfl ?_
  refine g_aload_n S dL_law_1074 rfl ?_
  refine g_callVX (b := false) (strs := []) (tE := 0) (A' := AmS mo ad) (Pk := fun H => hC D ty (AcS s mo ad o) tE el' a' H ∧ lrow D ty o f' H) (b0 := mo) (As := []) (st := []) S (c_thrown l D ty (AmS mo ad) mo ad b') (cwV 0 S.2.2.2.2 gL_law_X6_thrown rfl rfl rfl (by decide +kernel) ⟨Nat.le_of_ble_eq_true rfl, Nat.le_of_ble_eq_true rfl⟩) hK hAm (fun H locs _ _ => gE_no) hk2 (fun H h => ⟨h.2, h.1⟩) (fun H h => m_recv hK H h.2) rfl (Nat.le_of_ble_eq_true rfl) dL_law_1075 ⟨by show _ ≤ 601024; omega, by show _ ≤ 7293034; omega⟩ ?_
  intro rr
  refine g_and (b := rr = some (.int (gS b' 0))) (P' := LH D ty s tE o mo ad el' a' b' f') (fun H h => ⟨h.1.1, h.2, h.1.2⟩) (fun hr9 => ?_)
  subst hr9
  refine g_iload S dL_law_1078 rfl ?_
  refine g_icmp_eq S (tgt := 1085) dL_law_1080 (by decide) (fun _ => ?_) (fun c9 => absurd h0 c9)
  refine g_iload S dL_law_1085 rfl ?_
  refine g_if_ne S (tgt := 1102) dL_law_1087 (by decide) (fun _ => ?_) (fun c8 => ?_)
  ·
    refine g_goto S (tgt := 1556) dL_law_1102 (by decide) ?_
    exact g_less (lv' := lvL b0 (el 6 0) mo o (nI i)) rfl (lvL_less rfl rfl rfl rfl rfl) (g_widen (k' := 50 + pc a' + 10 * (T + 1)) (n' := 20000 + ps a' + 400 * (T + 1)) (by omega) (by omega) (kk f' el' a' b' hj ht hx6))
  ·
    refine g_aload_n S dL_law_1090 rfl ?_
    refine g_iconst S (v := 0) dL_law_1091 (by decide) ?_
    refine g_lald S hK (a := o) (N' := 1) (f := f') (fun H h => h.1.2) vin_01 dL_law_1092 ?_
    refine g_iload S dL_law_1093 rfl ?_
    refine g_i2l S dL_law_1095 ?_
    refine g_lcmp S dL_law_1096 ?_
    refine g_if_eq S (tgt := 1102) dL_law_1097 (by decide) (fun _ => ?_) (fun c7 => absurd (by rw [show f' (0 : Int32).toNatClampNeg = f' 0 from rfl, hr c8]; exact lg_self _) c7)
    refine g_goto S (tgt := 1556) dL_law_1102 (by decide) ?_
    exact g_less (lv' := lvL b0 (el 6 0) mo o (nI i)) rfl (lvL_less rfl rfl rfl rfl rfl) (g_widen (k' := 50 + pc a' + 10 * (T + 1)) (n' := 20000 + ps a' + 400 * (T + 1)) (by omega) (by omega) (kk f' el' a' b' hj ht hx6))
set_option maxHeartbeats 2000000 in
set_option maxRecDepth 100000 in
theorem L_ofContract {p : Program} {l : Launch} {e : Env} {s : State} {m : MethodId} {below : List Frame} {meth : Method} {c : Code} {b0 L : Nat} {xs : Nat → Int32} {D : va_G} {ty : Nat → ClassId} {tE o mo : Nat} {ad : Nat → Nat} {el : Nat → Nat → Nat} {a : CS} {b : MS} {f : Nat → Int64} {T D0 : Nat} (C : LCtx p l s m c b0 L xs D ty tE o mo ad) {i : Nat} (hi : i + 8 ≤ L) (j : SJ T D0 a b) (tn : TN a) (hT : T < 600) (hD : D0 ≤ 90000)
    (kk : ∀ (f' : Nat → Int64) (el' : Nat → Nat → Nat) (a' : CS) (b' : MS), SJ (T + 1) (D0 + 30) a' b' → TN a' → el' 6 0 = el 6 0 → LW p l e s m below meth c b0 (LH D ty s tE o mo ad el' a' b' f') (50 + pc a' + 10 * (T + 1)) (20000 + ps a' + 400 * (T + 1)) 1556 (lvL b0 (el 6 0) mo o (nI i)) []) :
    LW p l e s m below meth c b0 (LH D ty s tE o mo ad el a b f) (50 + pc a + 10 * T) (20000 + ps a + 400 * T) 1105 (lvL b0 (el 6 0) mo o (nI i)) [] := by
  obtain ⟨S, hK, hE, hX, hbl, hL, hl, ho1, ho2, hAm⟩ := C
  have ev := ev_S (l := l) hl ho1 ho2
  have hcost := tn.cost j (by omega)
  obtain ⟨k, f', a', b', r, mc, ms, P2, hP2, hW, hMm, ⟨c1, c2⟩, h0, hr, hj, ht⟩ := o_ofContract (D := D) (ty := ty) (tE := tE) (mo := mo) (Am := AmS mo ad) (ad := ad) (el := el) ev j tn hT hD (xs (i + 1)) (xs (i + 2)) f
  have hcost2 := ht.cost hj (by omega)
  have hE1 : ∀ (H : Heap) (locs : List Loc), LH D ty s tE o mo ad el a b f H → va_S (LA s) s.heap H locs → ∀ U : State, U.heap = H → s.WarmedH U.vm → gE true cstrs (AwS s mo ad) tE U U.heap := fun H locs hP hS => gE_at hE hS (fun q h => h.1) (fun q hq => ⟨Nat.le_trans hS.1 hq, fun z => absurd (hM_lt hP.2 q z) (Nat.not_lt.mpr hq)⟩)
  have hk1 : ∀ H H1 : Heap, hM D ty (AmS mo ad) mo ad b H → H.size ≤ H1.size → (∀ q : Nat, q < H.size → ¬ AwS s mo ad q → H1[q]? = H[q]?) → hM D ty (AmS mo ad) mo ad b H1 := fun H H1 h _ hq => hM_kept h (fun q hA hlt => hq q hlt (fun z => z.2 hA))
  refine g_aload_n S dL_law_1105 rfl ?_
  refine g_aload_n S dL_law_1106 rfl ?_
  refine g_iload S dL_law_1107 rfl ?_
  refine g_iconst S (v := 1) dL_law_1109 (by decide) ?_
  refine g_iadd S dL_law_1110 ?_
  refine g_sld S hX hbl (j := i + 1) (by rw [show (1 : Int32) = nI 1 by decide]; exact nI_plus i 1) (by omega) hL dL_law_1111 ?_
  refine g_aload_n S dL_law_1112 rfl ?_
  refine g_iload S dL_law_1113 rfl ?_
  refine g_iconst S (v := 2) dL_law_1115 (by decide) ?_
  refine g_iadd S dL_law_1116 ?_
  refine g_sld S hX hbl (j := i + 2) (by rw [show (2 : Int32) = nI 2 by decide]; exact nI_plus i 2) (by omega) hL dL_law_1117 ?_
  refine g_aload_n S dL_law_1118 rfl ?_
  refine g_callSWX (A' := AwS s mo ad) (Pk := hM D ty (AmS mo ad) mo ad b) (As := [.ref (el 6 0), .int (xs (i + 1)), .int (xs (i + 2)), .ref o]) (st := []) S hW (vx_cwSW 4 S.2.2.2.2 gL_law_L_ofContract rfl rfl rfl (by decide +kernel) ⟨Nat.le_of_ble_eq_true rfl, Nat.le_of_ble_eq_true rfl⟩) hK (fun q h => h.1) hE1 hk1 (fun H h => ⟨h.1, h.2⟩) rfl (Nat.le_of_ble_eq_true rfl) dL_law_1119 ⟨by show _ ≤ 601024; omega, by show _ ≤ 7293034; omega⟩ ?_
  intro rr
  refine g_and (b := rr = some (.int k)) (P' := fun H => (P2 H ∧ lrow D ty o f' H) ∧ hM D ty (AmS mo ad) mo ad b H) (fun H h => ⟨h.1.1, h.1.2, h.2⟩) (fun hr9 => ?_)
  subst hr9
  refine g_ex (α := Nat → Nat → Nat) (P' := fun el' H => elX a el el' ∧ LH D ty s tE o mo ad el' a' b f' H) (fun H h => (hP2 H h.1.1).elim fun el' z => ⟨el', z.1, ⟨z.2, h.1.2⟩, h.2⟩) (fun el' => ?_)
  refine g_and (P' := LH D ty s tE o mo ad el' a' b f') (fun H h => h) (fun hel => ?_)
  have hx6 : el' 6 0 = el 6 0 := hel.ob (Or.inr ⟨rfl, rfl⟩)
  have hk2 : ∀ (H H1 : Heap), hC D ty (AcS s mo ad o) tE el' a' H ∧ lrow D ty o f' H → H.size ≤ H1.size → (∀ q : Nat, q < H.size → ¬ AmS mo ad q → H1[q]? = H[q]?) → hC D ty (AcS s mo ad o) tE el' a' H1 ∧ lrow D ty o f' H1 := fun H H1 h _ hq => ⟨hC_kept h.1 (fun q hA hlt => hq q hlt hA.1.2), va_at.kept h.2 (hq o (va_at.lt h.2) ho2)⟩
  refine g_istore S dL_law_1122 (by decide) rfl ?_
  refine g_aload_n S dL_law_1124 rfl ?_
  refine g_aload_n S dL_law_1125 rfl ?_
  refine g_iload S dL_law_1126 rfl ?_
  refine g_iconst S (v := 1) dL_law_1128 (by decide) ?_
  refine g_iadd S dL_law_1129 ?_
  refine g_sld S hX hbl (j := i + 1) (by rw [show (1 : Int32) = nI 1 by decide]; exact nI_plus i 1) (by omega) hL dL_law_1130 ?_
  refine g_aload_n S dL_law_1131 rfl ?_
  refine g_iload S dL_law_1132 rfl ?_
  refine g_iconst S (v := 2) dL_law_1134 (by decide) ?_
  refine g_iadd S dL_law_1135 ?_
  refine g_sld S hX hbl (j := i + 2) (by rw [show (2 : Int32) = nI 2 by decide]; exact nI_plus i 2) (by omega) hL dL_law_1136 ?_
  refine g_callVX (b := false) (strs := []) (tE := 0) (A' := AmS mo ad) (Pk := fun H => hC D ty (AcS s mo ad o) tE el' a' H ∧ lrow D ty o f' H) (b0 := mo) (As := [.int (xs (i + 1)), .int (xs (i + 2))]) (st := []) S hMm (cwV 2 S.2.2.2.2 gL_law_X6_ofContract rfl rfl rfl (by decide +kernel) ⟨Nat.le_of_ble_eq_true rfl, Nat.le_of_ble_eq_true rfl⟩) hK hAm (fun H locs _ _ => gE_no) hk2 (fun H h => ⟨h.2, h.1⟩) (fun H h => m_recv hK H h.2) rfl (Nat.le_of_ble_eq_true rfl) dL_law_1137 ⟨by show _ ≤ 601024; omega, by show _ ≤ 7293034; omega⟩ ?_
  intro rr
  refine g_and (b := rr = r) (P' := LH D ty s tE o mo ad el' a' b' f') (fun H h => ⟨h.1.1, h.2, h.1.2⟩) (fun hr9 => ?_)
  subst hr9
  obtain ⟨v, hv9, hr⟩ := hr
  subst hv9
  refine g_istore S dL_law_1140 (by decide) rfl ?_
  refine g_aload_n S dL_law_1142 rfl ?_
  refine g_callVX (b := false) (strs := []) (tE := 0) (A' := AmS mo ad) (Pk := fun H => hC D ty (AcS s mo ad o) tE el' a' H ∧ lrow D ty o f' H) (b0 := mo) (As := []) (st := []) S (c_thrown l D ty (AmS mo ad) mo ad b') (cwV 0 S.2.2.2.2 gL_law_X6_thrown rfl rfl rfl (by decide +kernel) ⟨Nat.le_of_ble_eq_true rfl, Nat.le_of_ble_eq_true rfl⟩) hK hAm (fun H locs _ _ => gE_no) hk2 (fun H h => ⟨h.2, h.1⟩) (fun H h => m_recv hK H h.2) rfl (Nat.le_of_ble_eq_true rfl) dL_law_1143 ⟨by show _ ≤ 601024; omega, by show _ ≤ 7293034; omega⟩ ?_
  intro rr
  refine g_and (b := rr = some (.int (gS b' 0))) (P' := LH D ty s tE o mo ad el' a' b' f') (fun H h => ⟨h.1.1, h.2, h.1.2⟩) (fun hr9 => ?_)
  subst hr9
  refine g_iload S dL_law_1146 rfl ?_
  refine g_icmp_eq S (tgt := 1153) dL_law_1148 (by decide) (fun _ => ?_) (fun c9 => absurd h0 c9)
  refine g_iload S dL_law_1153 rfl ?_
  refine g_if_ne S (tgt := 1170) dL_law_1155 (by decide) (fun _ => ?_) (fun c8 => ?_)
  ·
    refine g_goto S (tgt := 1556) dL_law_1170 (by decide) ?_
    exact g_less (lv' := lvL b0 (el 6 0) mo o (nI i)) rfl (lvL_less rfl rfl rfl rfl rfl) (g_widen (k' := 50 + pc a' + 10 * (T + 1)) (n' := 20000 + ps a' + 400 * (T + 1)) (by omega) (by omega) (kk f' el' a' b' hj ht hx6))
  ·
    refine g_aload_n S dL_law_1158 rfl ?_
    refine g_iconst S (v := 0) dL_law_1159 (by decide) ?_
    refine g_lald S hK (a := o) (N' := 1) (f := f') (fun H h => h.1.2) vin_01 dL_law_1160 ?_
    refine g_iload S dL_law_1161 rfl ?_
    refine g_i2l S dL_law_1163 ?_
    refine g_lcmp S dL_law_1164 ?_
    refine g_if_eq S (tgt := 1170) dL_law_1165 (by decide) (fun _ => ?_) (fun c7 => absurd (by rw [show f' (0 : Int32).toNatClampNeg = f' 0 from rfl, hr c8]; exact lg_self _) c7)
    refine g_goto S (tgt := 1556) dL_law_1170 (by decide) ?_
    exact g_less (lv' := lvL b0 (el 6 0) mo o (nI i)) rfl (lvL_less rfl rfl rfl rfl rfl) (g_widen (k' := 50 + pc a' + 10 * (T + 1)) (n' := 20000 + ps a' + 400 * (T + 1)) (by omega) (by omega) (kk f' el' a' b' hj ht hx6))
set_option maxHeartbeats 2000000 in
set_option maxRecDepth 100000 in
theorem L_ofSilo {p : Program} {l : Launch} {e : Env} {s : State} {m : MethodId} {below : List Frame} {meth : Method} {c : Code} {b0 L : Nat} {xs : Nat → Int32} {D : va_G} {ty : Nat → ClassId} {tE o mo : Nat} {ad : Nat → Nat} {el : Nat → Nat → Nat} {a : CS} {b : MS} {f : Nat → Int64} {T D0 : Nat} (C : LCtx p l s m c b0 L xs D ty tE o mo ad) {i : Nat} (hi : i + 8 ≤ L) (j : SJ T D0 a b) (tn : TN a) (hT : T < 600) (hD : D0 ≤ 90000)
    (kk : ∀ (f' : Nat → Int64) (el' : Nat → Nat → Nat) (a' : CS) (b' : MS), SJ (T + 1) (D0 + 30) a' b' → TN a' → el' 6 0 = el 6 0 → LW p l e s m below meth c b0 (LH D ty s tE o mo ad el' a' b' f') (50 + pc a' + 10 * (T + 1)) (20000 + ps a' + 400 * (T + 1)) 1556 (lvL b0 (el 6 0) mo o (nI i)) []) :
    LW p l e s m below meth c b0 (LH D ty s tE o mo ad el a b f) (50 + pc a + 10 * T) (20000 + ps a + 400 * T) 1173 (lvL b0 (el 6 0) mo o (nI i)) [] := by
  obtain ⟨S, hK, hE, hX, hbl, hL, hl, ho1, ho2, hAm⟩ := C
  have ev := ev_S (l := l) hl ho1 ho2
  have hcost := tn.cost j (by omega)
  obtain ⟨k, f', a', b', r, mc, ms, P2, hP2, hW, hMm, ⟨c1, c2⟩, h0, hr, hj, ht⟩ := o_ofSilo (D := D) (ty := ty) (tE := tE) (mo := mo) (Am := AmS mo ad) (ad := ad) (el := el) ev j tn hT hD (xs (i + 1)) (xs (i + 2)) f
  have hcost2 := ht.cost hj (by omega)
  have hE1 : ∀ (H : Heap) (locs : List Loc), LH D ty s tE o mo ad el a b f H → va_S (LA s) s.heap H locs → ∀ U : State, U.heap = H → s.WarmedH U.vm → gE true cstrs (AwS s mo ad) tE U U.heap := fun H locs hP hS => gE_at hE hS (fun q h => h.1) (fun q hq => ⟨Nat.le_trans hS.1 hq, fun z => absurd (hM_lt hP.2 q z) (Nat.not_lt.mpr hq)⟩)
  have hk1 : ∀ H H1 : Heap, hM D ty (AmS mo ad) mo ad b H → H.size ≤ H1.size → (∀ q : Nat, q < H.size → ¬ AwS s mo ad q → H1[q]? = H[q]?) → hM D ty (AmS mo ad) mo ad b H1 := fun H H1 h _ hq => hM_kept h (fun q hA hlt => hq q hlt (fun z => z.2 hA))
  refine g_aload_n S dL_law_1173 rfl ?_
  refine g_aload_n S dL_law_1174 rfl ?_
  refine g_iload S dL_law_1175 rfl ?_
  refine g_iconst S (v := 1) dL_law_1177 (by decide) ?_
  refine g_iadd S dL_law_1178 ?_
  refine g_sld S hX hbl (j := i + 1) (by rw [show (1 : Int32) = nI 1 by decide]; exact nI_plus i 1) (by omega) hL dL_law_1179 ?_
  refine g_aload_n S dL_law_1180 rfl ?_
  refine g_iload S dL_law_1181 rfl ?_
  refine g_iconst S (v := 2) dL_law_1183 (by decide) ?_
  refine g_iadd S dL_law_1184 ?_
  refine g_sld S hX hbl (j := i + 2) (by rw [show (2 : Int32) = nI 2 by decide]; exact nI_plus i 2) (by omega) hL dL_law_1185 ?_
  refine g_aload_n S dL_law_1186 rfl ?_
  refine g_callSWX (A' := AwS s mo ad) (Pk := hM D ty (AmS mo ad) mo ad b) (As := [.ref (el 6 0), .int (xs (i + 1)), .int (xs (i + 2)), .ref o]) (st := []) S hW (vx_cwSW 4 S.2.2.2.2 gL_law_L_ofSilo rfl rfl rfl (by decide +kernel) ⟨Nat.le_of_ble_eq_true rfl, Nat.le_of_ble_eq_true rfl⟩) hK (fun q h => h.1) hE1 hk1 (fun H h => ⟨h.1, h.2⟩) rfl (Nat.le_of_ble_eq_true rfl) dL_law_1187 ⟨by show _ ≤ 601024; omega, by show _ ≤ 7293034; omega⟩ ?_
  intro rr
  refine g_and (b := rr = some (.int k)) (P' := fun H => (P2 H ∧ lrow D ty o f' H) ∧ hM D ty (AmS mo ad) mo ad b H) (fun H h => ⟨h.1.1, h.1.2, h.2⟩) (fun hr9 => ?_)
  subst hr9
  refine g_ex (α := Nat → Nat → Nat) (P' := fun el' H => elX a el el' ∧ LH D ty s tE o mo ad el' a' b f' H) (fun H h => (hP2 H h.1.1).elim fun el' z => ⟨el', z.1, ⟨z.2, h.1.2⟩, h.2⟩) (fun el' => ?_)
  refine g_and (P' := LH D ty s tE o mo ad el' a' b f') (fun H h => h) (fun hel => ?_)
  have hx6 : el' 6 0 = el 6 0 := hel.ob (Or.inr ⟨rfl, rfl⟩)
  have hk2 : ∀ (H H1 : Heap), hC D ty (AcS s mo ad o) tE el' a' H ∧ lrow D ty o f' H → H.size ≤ H1.size → (∀ q : Nat, q < H.size → ¬ AmS mo ad q → H1[q]? = H[q]?) → hC D ty (AcS s mo ad o) tE el' a' H1 ∧ lrow D ty o f' H1 := fun H H1 h _ hq => ⟨hC_kept h.1 (fun q hA hlt => hq q hlt hA.1.2), va_at.kept h.2 (hq o (va_at.lt h.2) ho2)⟩
  refine g_istore S dL_law_1190 (by decide) rfl ?_
  refine g_aload_n S dL_law_1192 rfl ?_
  refine g_aload_n S dL_law_1193 rfl ?_
  refine g_iload S dL_law_1194 rfl ?_
  refine g_iconst S (v := 1) dL_law_1196 (by decide) ?_
  refine g_iadd S dL_law_1197 ?_
  refine g_sld S hX hbl (j := i + 1) (by rw [show (1 : Int32) = nI 1 by decide]; exact nI_plus i 1) (by omega) hL dL_law_1198 ?_
  refine g_aload_n S dL_law_1199 rfl ?_
  refine g_iload S dL_law_1200 rfl ?_
  refine g_iconst S (v := 2) dL_law_1202 (by decide) ?_
  refine g_iadd S dL_law_1203 ?_
  refine g_sld S hX hbl (j := i + 2) (by rw [show (2 : Int32) = nI 2 by decide]; exact nI_plus i 2) (by omega) hL dL_law_1204 ?_
  refine g_callVX (b := false) (strs := []) (tE := 0) (A' := AmS mo ad) (Pk := fun H => hC D ty (AcS s mo ad o) tE el' a' H ∧ lrow D ty o f' H) (b0 := mo) (As := [.int (xs (i + 1)), .int (xs (i + 2))]) (st := []) S hMm (cwV 2 S.2.2.2.2 gL_law_X6_ofSilo rfl rfl rfl (by decide +kernel) ⟨Nat.le_of_ble_eq_true rfl, Nat.le_of_ble_eq_true rfl⟩) hK hAm (fun H locs _ _ => gE_no) hk2 (fun H h => ⟨h.2, h.1⟩) (fun H h => m_recv hK H h.2) rfl (Nat.le_of_ble_eq_true rfl) dL_law_1205 ⟨by show _ ≤ 601024; omega, by show _ ≤ 7293034; omega⟩ ?_
  intro rr
  refine g_and (b := rr = r) (P' := LH D ty s tE o mo ad el' a' b' f') (fun H h => ⟨h.1.1, h.2, h.1.2⟩) (fun hr9 => ?_)
  subst hr9
  obtain ⟨v, hv9, hr⟩ := hr
  subst hv9
  refine g_istore S dL_law_1208 (by decide) rfl ?_
  refine g_aload_n S dL_law_1210 rfl ?_
  refine g_callVX (b := false) (strs := []) (tE := 0) (A' := AmS mo ad) (Pk := fun H => hC D ty (AcS s mo ad o) tE el' a' H ∧ lrow D ty o f' H) (b0 := mo) (As := []) (st := []) S (c_thrown l D ty (AmS mo ad) mo ad b') (cwV 0 S.2.2.2.2 gL_law_X6_thrown rfl rfl rfl (by decide +kernel) ⟨Nat.le_of_ble_eq_true rfl, Nat.le_of_ble_eq_true rfl⟩) hK hAm (fun H locs _ _ => gE_no) hk2 (fun H h => ⟨h.2, h.1⟩) (fun H h => m_recv hK H h.2) rfl (Nat.le_of_ble_eq_true rfl) dL_law_1211 ⟨by show _ ≤ 601024; omega, by show _ ≤ 7293034; omega⟩ ?_
  intro rr
  refine g_and (b := rr = some (.int (gS b' 0))) (P' := LH D ty s tE o mo ad el' a' b' f') (fun H h => ⟨h.1.1, h.2, h.1.2⟩) (fun hr9 => ?_)
  subst hr9
  refine g_iload S dL_law_1214 rfl ?_
  refine g_icmp_eq S (tgt := 1221) dL_law_1216 (by decide) (fun _ => ?_) (fun c9 => absurd h0 c9)
  refine g_iload S dL_law_1221 rfl ?_
  refine g_if_ne S (tgt := 1238) dL_law_1223 (by decide) (fun _ => ?_) (fun c8 => ?_)
  ·
    refine g_goto S (tgt := 1556) dL_law_1238 (by decide) ?_
    exact g_less (lv' := lvL b0 (el 6 0) mo o (nI i)) rfl (lvL_less rfl rfl rfl rfl rfl) (g_widen (k' := 50 + pc a' + 10 * (T + 1)) (n' := 20000 + ps a' + 400 * (T + 1)) (by omega) (by omega) (kk f' el' a' b' hj ht hx6))
  ·
    refine g_aload_n S dL_law_1226 rfl ?_
    refine g_iconst S (v := 0) dL_law_1227 (by decide) ?_
    refine g_lald S hK (a := o) (N' := 1) (f := f') (fun H h => h.1.2) vin_01 dL_law_1228 ?_
    refine g_iload S dL_law_1229 rfl ?_
    refine g_i2l S dL_law_1231 ?_
    refine g_lcmp S dL_law_1232 ?_
    refine g_if_eq S (tgt := 1238) dL_law_1233 (by decide) (fun _ => ?_) (fun c7 => absurd (by rw [show f' (0 : Int32).toNatClampNeg = f' 0 from rfl, hr c8]; exact lg_self _) c7)
    refine g_goto S (tgt := 1556) dL_law_1238 (by decide) ?_
    exact g_less (lv' := lvL b0 (el 6 0) mo o (nI i)) rfl (lvL_less rfl rfl rfl rfl rfl) (g_widen (k' := 50 + pc a' + 10 * (T + 1)) (n' := 20000 + ps a' + 400 * (T + 1)) (by omega) (by omega) (kk f' el' a' b' hj ht hx6))
set_option maxHeartbeats 2000000 in
set_option maxRecDepth 100000 in
theorem L_contentAnew {p : Program} {l : Launch} {e : Env} {s : State} {m : MethodId} {below : List Frame} {meth : Method} {c : Code} {b0 L : Nat} {xs : Nat → Int32} {D : va_G} {ty : Nat → ClassId} {tE o mo : Nat} {ad : Nat → Nat} {el : Nat → Nat → Nat} {a : CS} {b : MS} {f : Nat → Int64} {T D0 : Nat} (C : LCtx p l s m c b0 L xs D ty tE o mo ad) {i : Nat} (hi : i + 8 ≤ L) (j : SJ T D0 a b) (tn : TN a) (hT : T < 600) (hD : D0 ≤ 90000)
    (kk : ∀ (f' : Nat → Int64) (el' : Nat → Nat → Nat) (a' : CS) (b' : MS), SJ (T + 1) (D0 + 30) a' b' → TN a' → el' 6 0 = el 6 0 → LW p l e s m below meth c b0 (LH D ty s tE o mo ad el' a' b' f') (50 + pc a' + 10 * (T + 1)) (20000 + ps a' + 400 * (T + 1)) 1556 (lvL b0 (el 6 0) mo o (nI i)) []) :
    LW p l e s m below meth c b0 (LH D ty s tE o mo ad el a b f) (50 + pc a + 10 * T) (20000 + ps a + 400 * T) 1241 (lvL b0 (el 6 0) mo o (nI i)) [] := by
  obtain ⟨S, hK, hE, hX, hbl, hL, hl, ho1, ho2, hAm⟩ := C
  have ev := ev_S (l := l) hl ho1 ho2
  have hcost := tn.cost j (by omega)
  obtain ⟨k, f', a', b', r, mc, ms, P2, hP2, hW, hMm, ⟨c1, c2⟩, h0, hr, hj, ht⟩ := o_contentAnew (D := D) (ty := ty) (tE := tE) (mo := mo) (Am := AmS mo ad) (ad := ad) (el := el) ev j tn hT hD (xs (i + 1)) f
  have hcost2 := ht.cost hj (by omega)
  have hE1 : ∀ (H : Heap) (locs : List Loc), LH D ty s tE o mo ad el a b f H → va_S (LA s) s.heap H locs → ∀ U : State, U.heap = H → s.WarmedH U.vm → gE true cstrs (AwS s mo ad) tE U U.heap := fun H locs hP hS => gE_at hE hS (fun q h => h.1) (fun q hq => ⟨Nat.le_trans hS.1 hq, fun z => absurd (hM_lt hP.2 q z) (Nat.not_lt.mpr hq)⟩)
  have hk1 : ∀ H H1 : Heap, hM D ty (AmS mo ad) mo ad b H → H.size ≤ H1.size → (∀ q : Nat, q < H.size → ¬ AwS s mo ad q → H1[q]? = H[q]?) → hM D ty (AmS mo ad) mo ad b H1 := fun H H1 h _ hq => hM_kept h (fun q hA hlt => hq q hlt (fun z => z.2 hA))
  refine g_aload_n S dL_law_1241 rfl ?_
  refine g_aload_n S dL_law_1242 rfl ?_
  refine g_iload S dL_law_1243 rfl ?_
  refine g_iconst S (v := 1) dL_law_1245 (by decide) ?_
  refine g_iadd S dL_law_1246 ?_
  refine g_sld S hX hbl (j := i + 1) (by rw [show (1 : Int32) = nI 1 by decide]; exact nI_plus i 1) (by omega) hL dL_law_1247 ?_
  refine g_aload_n S dL_law_1248 rfl ?_
  refine g_callSWX (A' := AwS s mo ad) (Pk := hM D ty (AmS mo ad) mo ad b) (As := [.ref (el 6 0), .int (xs (i + 1)), .ref o]) (st := []) S hW (vx_cwSW 3 S.2.2.2.2 gL_law_L_contentAnew rfl rfl rfl (by decide +kernel) ⟨Nat.le_of_ble_eq_true rfl, Nat.le_of_ble_eq_true rfl⟩) hK (fun q h => h.1) hE1 hk1 (fun H h => ⟨h.1, h.2⟩) rfl (Nat.le_of_ble_eq_true rfl) dL_law_1249 ⟨by show _ ≤ 601024; omega, by show _ ≤ 7293034; omega⟩ ?_
  intro rr
  refine g_and (b := rr = some (.int k)) (P' := fun H => (P2 H ∧ lrow D ty o f' H) ∧ hM D ty (AmS mo ad) mo ad b H) (fun H h => ⟨h.1.1, h.1.2, h.2⟩) (fun hr9 => ?_)
  subst hr9
  refine g_ex (α := Nat → Nat → Nat) (P' := fun el' H => elX a el el' ∧ LH D ty s tE o mo ad el' a' b f' H) (fun H h => (hP2 H h.1.1).elim fun el' z => ⟨el', z.1, ⟨z.2, h.1.2⟩, h.2⟩) (fun el' => ?_)
  refine g_and (P' := LH D ty s tE o mo ad el' a' b f') (fun H h => h) (fun hel => ?_)
  have hx6 : el' 6 0 = el 6 0 := hel.ob (Or.inr ⟨rfl, rfl⟩)
  have hk2 : ∀ (H H1 : Heap), hC D ty (AcS s mo ad o) tE el' a' H ∧ lrow D ty o f' H → H.size ≤ H1.size → (∀ q : Nat, q < H.size → ¬ AmS mo ad q → H1[q]? = H[q]?) → hC D ty (AcS s mo ad o) tE el' a' H1 ∧ lrow D ty o f' H1 := fun H H1 h _ hq => ⟨hC_kept h.1 (fun q hA hlt => hq q hlt hA.1.2), va_at.kept h.2 (hq o (va_at.lt h.2) ho2)⟩
  refine g_istore S dL_law_1252 (by decide) rfl ?_
  refine g_aload_n S dL_law_1254 rfl ?_
  refine g_aload_n S dL_law_1255 rfl ?_
  refine g_iload S dL_law_1256 rfl ?_
  refine g_iconst S (v := 1) dL_law_1258 (by decide) ?_
  refine g_iadd S dL_law_1259 ?_
  refine g_sld S hX hbl (j := i + 1) (by rw [show (1 : Int32) = nI 1 by decide]; exact nI_plus i 1) (by omega) hL dL_law_1260 ?_
  refine g_callVX (b := false) (strs := []) (tE := 0) (A' := AmS mo ad) (Pk := fun H => hC D ty (AcS s mo ad o) tE el' a' H ∧ lrow D ty o f' H) (b0 := mo) (As := [.int (xs (i + 1))]) (st := []) S hMm (cwV 1 S.2.2.2.2 gL_law_X6_contentAnew rfl rfl rfl (by decide +kernel) ⟨Nat.le_of_ble_eq_true rfl, Nat.le_of_ble_eq_true rfl⟩) hK hAm (fun H locs _ _ => gE_no) hk2 (fun H h => ⟨h.2, h.1⟩) (fun H h => m_recv hK H h.2) rfl (Nat.le_of_ble_eq_true rfl) dL_law_1261 ⟨by show _ ≤ 601024; omega, by show _ ≤ 7293034; omega⟩ ?_
  intro rr
  refine g_and (b := rr = r) (P' := LH D ty s tE o mo ad el' a' b' f') (fun H h => ⟨h.1.1, h.2, h.1.2⟩) (fun hr9 => ?_)
  subst hr9
  obtain ⟨v, hv9, hr⟩ := hr
  subst hv9
  refine g_istore S dL_law_1264 (by decide) rfl ?_
  refine g_aload_n S dL_law_1266 rfl ?_
  refine g_callVX (b := false) (strs := []) (tE := 0) (A' := AmS mo ad) (Pk := fun H => hC D ty (AcS s mo ad o) tE el' a' H ∧ lrow D ty o f' H) (b0 := mo) (As := []) (st := []) S (c_thrown l D ty (AmS mo ad) mo ad b') (cwV 0 S.2.2.2.2 gL_law_X6_thrown rfl rfl rfl (by decide +kernel) ⟨Nat.le_of_ble_eq_true rfl, Nat.le_of_ble_eq_true rfl⟩) hK hAm (fun H locs _ _ => gE_no) hk2 (fun H h => ⟨h.2, h.1⟩) (fun H h => m_recv hK H h.2) rfl (Nat.le_of_ble_eq_true rfl) dL_law_1267 ⟨by show _ ≤ 601024; omega, by show _ ≤ 7293034; omega⟩ ?_
  intro rr
  refine g_and (b := rr = some (.int (gS b' 0))) (P' := LH D ty s tE o mo ad el' a' b' f') (fun H h => ⟨h.1.1, h.2, h.1.2⟩) (fun hr9 => ?_)
  subst hr9
  refine g_iload S dL_law_1270 rfl ?_
  refine g_icmp_eq S (tgt := 1277) dL_law_1272 (by decide) (fun _ => ?_) (fun c9 => absurd h0 c9)
  refine g_iload S dL_law_1277 rfl ?_
  refine g_if_ne S (tgt := 1294) dL_law_1279 (by decide) (fun _ => ?_) (fun c8 => ?_)
  ·
    refine g_goto S (tgt := 1556) dL_law_1294 (by decide) ?_
    exact g_less (lv' := lvL b0 (el 6 0) mo o (nI i)) rfl (lvL_less rfl rfl rfl rfl rfl) (g_widen (k' := 50 + pc a' + 10 * (T + 1)) (n' := 20000 + ps a' + 400 * (T + 1)) (by omega) (by omega) (kk f' el' a' b' hj ht hx6))
  ·
    refine g_aload_n S dL_law_1282 rfl ?_
    refine g_iconst S (v := 0) dL_law_1283 (by decide) ?_
    refine g_lald S hK (a := o) (N' := 1) (f := f') (fun H h => h.1.2) vin_01 dL_law_1284 ?_
    refine g_iload S dL_law_1285 rfl ?_
    refine g_i2l S dL_law_1287 ?_
    refine g_lcmp S dL_law_1288 ?_
    refine g_if_eq S (tgt := 1294) dL_law_1289 (by decide) (fun _ => ?_) (fun c7 => absurd (by rw [show f' (0 : Int32).toNatClampNeg = f' 0 from rfl, hr c8]; exact lg_self _) c7)
    refine g_goto S (tgt := 1556) dL_law_1294 (by decide) ?_
    exact g_less (lv' := lvL b0 (el 6 0) mo o (nI i)) rfl (lvL_less rfl rfl rfl rfl rfl) (g_widen (k' := 50 + pc a' + 10 * (T + 1)) (n' := 20000 + ps a' + 400 * (T + 1)) (by omega) (by omega) (kk f' el' a' b' hj ht hx6))
set_option maxHeartbeats 2000000 in
set_option maxRecDepth 100000 in
theorem L_account {p : Program} {l : Launch} {e : Env} {s : State} {m : MethodId} {below : List Frame} {meth : Method} {c : Code} {b0 L : Nat} {xs : Nat → Int32} {D : va_G} {ty : Nat → ClassId} {tE o mo : Nat} {ad : Nat → Nat} {el : Nat → Nat → Nat} {a : CS} {b : MS} {f : Nat → Int64} {T D0 : Nat} (C : LCtx p l s m c b0 L xs D ty tE o mo ad) {i : Nat} (hi : i + 8 ≤ L) (j : SJ T D0 a b) (tn : TN a) (hT : T < 600) (hD : D0 ≤ 90000)
    (kk : ∀ (f' : Nat → Int64) (el' : Nat → Nat → Nat) (a' : CS) (b' : MS), SJ (T + 1) (D0 + 30) a' b' → TN a' → el' 6 0 = el 6 0 → LW p l e s m below meth c b0 (LH D ty s tE o mo ad el' a' b' f') (50 + pc a' + 10 * (T + 1)) (20000 + ps a' + 400 * (T + 1)) 1556 (lvL b0 (el 6 0) mo o (nI i)) []) :
    LW p l e s m below meth c b0 (LH D ty s tE o mo ad el a b f) (50 + pc a + 10 * T) (20000 + ps a + 400 * T) 1297 (lvL b0 (el 6 0) mo o (nI i)) [] := by
  obtain ⟨S, hK, hE, hX, hbl, hL, hl, ho1, ho2, hAm⟩ := C
  have ev := ev_S (l := l) hl ho1 ho2
  have hcost := tn.cost j (by omega)
  obtain ⟨k, f', a', b', r, mc, ms, P2, hP2, hW, hMm, ⟨c1, c2⟩, h0, hr, hj, ht⟩ := o_account (D := D) (ty := ty) (tE := tE) (mo := mo) (Am := AmS mo ad) (ad := ad) (el := el) ev j tn hT hD (xs (i + 1)) f
  have hcost2 := ht.cost hj (by omega)
  have hE1 : ∀ (H : Heap) (locs : List Loc), LH D ty s tE o mo ad el a b f H → va_S (LA s) s.heap H locs → ∀ U : State, U.heap = H → s.WarmedH U.vm → gE true cstrs (AwS s mo ad) tE U U.heap := fun H locs hP hS => gE_at hE hS (fun q h => h.1) (fun q hq => ⟨Nat.le_trans hS.1 hq, fun z => absurd (hM_lt hP.2 q z) (Nat.not_lt.mpr hq)⟩)
  have hk1 : ∀ H H1 : Heap, hM D ty (AmS mo ad) mo ad b H → H.size ≤ H1.size → (∀ q : Nat, q < H.size → ¬ AwS s mo ad q → H1[q]? = H[q]?) → hM D ty (AmS mo ad) mo ad b H1 := fun H H1 h _ hq => hM_kept h (fun q hA hlt => hq q hlt (fun z => z.2 hA))
  refine g_aload_n S dL_law_1297 rfl ?_
  refine g_aload_n S dL_law_1298 rfl ?_
  refine g_iload S dL_law_1299 rfl ?_
  refine g_iconst S (v := 1) dL_law_1301 (by decide) ?_
  refine g_iadd S dL_law_1302 ?_
  refine g_sld S hX hbl (j := i + 1) (by rw [show (1 : Int32) = nI 1 by decide]; exact nI_plus i 1) (by omega) hL dL_law_1303 ?_
  refine g_aload_n S dL_law_1304 rfl ?_
  refine g_callSWX (A' := AwS s mo ad) (Pk := hM D ty (AmS mo ad) mo ad b) (As := [.ref (el 6 0), .int (xs (i + 1)), .ref o]) (st := []) S hW (vx_cwSW 3 S.2.2.2.2 gL_law_L_account rfl rfl rfl (by decide +kernel) ⟨Nat.le_of_ble_eq_true rfl, Nat.le_of_ble_eq_true rfl⟩) hK (fun q h => h.1) hE1 hk1 (fun H h => ⟨h.1, h.2⟩) rfl (Nat.le_of_ble_eq_true rfl) dL_law_1305 ⟨by show _ ≤ 601024; omega, by show _ ≤ 7293034; omega⟩ ?_
  intro rr
  refine g_and (b := rr = some (.int k)) (P' := fun H => (P2 H ∧ lrow D ty o f' H) ∧ hM D ty (AmS mo ad) mo ad b H) (fun H h => ⟨h.1.1, h.1.2, h.2⟩) (fun hr9 => ?_)
  subst hr9
  refine g_ex (α := Nat → Nat → Nat) (P' := fun el' H => elX a el el' ∧ LH D ty s tE o mo ad el' a' b f' H) (fun H h => (hP2 H h.1.1).elim fun el' z => ⟨el', z.1, ⟨z.2, h.1.2⟩, h.2⟩) (fun el' => ?_)
  refine g_and (P' := LH D ty s tE o mo ad el' a' b f') (fun H h => h) (fun hel => ?_)
  have hx6 : el' 6 0 = el 6 0 := hel.ob (Or.inr ⟨rfl, rfl⟩)
  have hk2 : ∀ (H H1 : Heap), hC D ty (AcS s mo ad o) tE el' a' H ∧ lrow D ty o f' H → H.size ≤ H1.size → (∀ q : Nat, q < H.size → ¬ AmS mo ad q → H1[q]? = H[q]?) → hC D ty (AcS s mo ad o) tE el' a' H1 ∧ lrow D ty o f' H1 := fun H H1 h _ hq => ⟨hC_kept h.1 (fun q hA hlt => hq q hlt hA.1.2), va_at.kept h.2 (hq o (va_at.lt h.2) ho2)⟩
  refine g_istore S dL_law_1308 (by decide) rfl ?_
  refine g_aload_n S dL_law_1310 rfl ?_
  refine g_aload_n S dL_law_1311 rfl ?_
  refine g_iload S dL_law_1312 rfl ?_
  refine g_iconst S (v := 1) dL_law_1314 (by decide) ?_
  refine g_iadd S dL_law_1315 ?_
  refine g_sld S hX hbl (j := i + 1) (by rw [show (1 : Int32) = nI 1 by decide]; exact nI_plus i 1) (by omega) hL dL_law_1316 ?_
  refine g_callVX (b := false) (strs := []) (tE := 0) (A' := AmS mo ad) (Pk := fun H => hC D ty (AcS s mo ad o) tE el' a' H ∧ lrow D ty o f' H) (b0 := mo) (As := [.int (xs (i + 1))]) (st := []) S hMm (cwV 1 S.2.2.2.2 gL_law_X6_account rfl rfl rfl (by decide +kernel) ⟨Nat.le_of_ble_eq_true rfl, Nat.le_of_ble_eq_true rfl⟩) hK hAm (fun H locs _ _ => gE_no) hk2 (fun H h => ⟨h.2, h.1⟩) (fun H h => m_recv hK H h.2) rfl (Nat.le_of_ble_eq_true rfl) dL_law_1317 ⟨by show _ ≤ 601024; omega, by show _ ≤ 7293034; omega⟩ ?_
  intro rr
  refine g_and (b := rr = r) (P' := LH D ty s tE o mo ad el' a' b' f') (fun H h => ⟨h.1.1, h.2, h.1.2⟩) (fun hr9 => ?_)
  subst hr9
  obtain ⟨v, hv9, hr⟩ := hr
  subst hv9
  refine g_lstore S dL_law_1320 (by decide) rfl ?_
  refine g_aload_n S dL_law_1322 rfl ?_
  refine g_callVX (b := false) (strs := []) (tE := 0) (A' := AmS mo ad) (Pk := fun H => hC D ty (AcS s mo ad o) tE el' a' H ∧ lrow D ty o f' H) (b0 := mo) (As := []) (st := []) S (c_thrown l D ty (AmS mo ad) mo ad b') (cwV 0 S.2.2.2.2 gL_law_X6_thrown rfl rfl rfl (by decide +kernel) ⟨Nat.le_of_ble_eq_true rfl, Nat.le_of_ble_eq_true rfl⟩) hK hAm (fun H locs _ _ => gE_no) hk2 (fun H h => ⟨h.2, h.1⟩) (fun H h => m_recv hK H h.2) rfl (Nat.le_of_ble_eq_true rfl) dL_law_1323 ⟨by show _ ≤ 601024; omega, by show _ ≤ 7293034; omega⟩ ?_
  intro rr
  refine g_and (b := rr = some (.int (gS b' 0))) (P' := LH D ty s tE o mo ad el' a' b' f') (fun H h => ⟨h.1.1, h.2, h.1.2⟩) (fun hr9 => ?_)
  subst hr9
  refine g_iload S dL_law_1326 rfl ?_
  refine g_icmp_eq S (tgt := 1333) dL_law_1328 (by decide) (fun _ => ?_) (fun c9 => absurd h0 c9)
  refine g_iload S dL_law_1333 rfl ?_
  refine g_if_ne S (tgt := 1349) dL_law_1335 (by decide) (fun _ => ?_) (fun c8 => ?_)
  ·
    refine g_goto S (tgt := 1556) dL_law_1349 (by decide) ?_
    exact g_less (lv' := lvL b0 (el 6 0) mo o (nI i)) rfl (lvL_less rfl rfl rfl rfl rfl) (g_widen (k' := 50 + pc a' + 10 * (T + 1)) (n' := 20000 + ps a' + 400 * (T + 1)) (by omega) (by omega) (kk f' el' a' b' hj ht hx6))
  ·
    refine g_aload_n S dL_law_1338 rfl ?_
    refine g_iconst S (v := 0) dL_law_1339 (by decide) ?_
    refine g_lald S hK (a := o) (N' := 1) (f := f') (fun H h => h.1.2) vin_01 dL_law_1340 ?_
    refine g_lload S dL_law_1341 rfl ?_
    refine g_lcmp S dL_law_1343 ?_
    refine g_if_eq S (tgt := 1349) dL_law_1344 (by decide) (fun _ => ?_) (fun c7 => absurd (by rw [show f' (0 : Int32).toNatClampNeg = f' 0 from rfl, hr c8]; exact lg_self _) c7)
    refine g_goto S (tgt := 1556) dL_law_1349 (by decide) ?_
    exact g_less (lv' := lvL b0 (el 6 0) mo o (nI i)) rfl (lvL_less rfl rfl rfl rfl rfl) (g_widen (k' := 50 + pc a' + 10 * (T + 1)) (n' := 20000 + ps a' + 400 * (T + 1)) (by omega) (by omega) (kk f' el' a' b' hj ht hx6))
set_option maxHeartbeats 2000000 in
set_option maxRecDepth 100000 in
theorem L_owes {p : Program} {l : Launch} {e : Env} {s : State} {m : MethodId} {below : List Frame} {meth : Method} {c : Code} {b0 L : Nat} {xs : Nat → Int32} {D : va_G} {ty : Nat → ClassId} {tE o mo : Nat} {ad : Nat → Nat} {el : Nat → Nat → Nat} {a : CS} {b : MS} {f : Nat → Int64} {T D0 : Nat} (C : LCtx p l s m c b0 L xs D ty tE o mo ad) {i : Nat} (hi : i + 8 ≤ L) (j : SJ T D0 a b) (tn : TN a) (hT : T < 600) (hD : D0 ≤ 90000)
    (kk : ∀ (f' : Nat → Int64) (el' : Nat → Nat → Nat) (a' : CS) (b' : MS), SJ (T + 1) (D0 + 30) a' b' → TN a' → el' 6 0 = el 6 0 → LW p l e s m below meth c b0 (LH D ty s tE o mo ad el' a' b' f') (50 + pc a' + 10 * (T + 1)) (20000 + ps a' + 400 * (T + 1)) 1556 (lvL b0 (el 6 0) mo o (nI i)) []) :
    LW p l e s m below meth c b0 (LH D ty s tE o mo ad el a b f) (50 + pc a + 10 * T) (20000 + ps a + 400 * T) 1352 (lvL b0 (el 6 0) mo o (nI i)) [] := by
  obtain ⟨S, hK, hE, hX, hbl, hL, hl, ho1, ho2, hAm⟩ := C
  have ev := ev_S (l := l) hl ho1 ho2
  have hcost := tn.cost j (by omega)
  obtain ⟨k, f', a', b', r, mc, ms, P2, hP2, hW, hMm, ⟨c1, c2⟩, h0, hr, hj, ht⟩ := o_owes (D := D) (ty := ty) (tE := tE) (mo := mo) (Am := AmS mo ad) (ad := ad) (el := el) ev j tn hT hD (xs (i + 1)) f
  have hcost2 := ht.cost hj (by omega)
  have hE1 : ∀ (H : Heap) (locs : List Loc), LH D ty s tE o mo ad el a b f H → va_S (LA s) s.heap H locs → ∀ U : State, U.heap = H → s.WarmedH U.vm → gE true cstrs (AwS s mo ad) tE U U.heap := fun H locs hP hS => gE_at hE hS (fun q h => h.1) (fun q hq => ⟨Nat.le_trans hS.1 hq, fun z => absurd (hM_lt hP.2 q z) (Nat.not_lt.mpr hq)⟩)
  have hk1 : ∀ H H1 : Heap, hM D ty (AmS mo ad) mo ad b H → H.size ≤ H1.size → (∀ q : Nat, q < H.size → ¬ AwS s mo ad q → H1[q]? = H[q]?) → hM D ty (AmS mo ad) mo ad b H1 := fun H H1 h _ hq => hM_kept h (fun q hA hlt => hq q hlt (fun z => z.2 hA))
  refine g_aload_n S dL_law_1352 rfl ?_
  refine g_aload_n S dL_law_1353 rfl ?_
  refine g_iload S dL_law_1354 rfl ?_
  refine g_iconst S (v := 1) dL_law_1356 (by decide) ?_
  refine g_iadd S dL_law_1357 ?_
  refine g_sld S hX hbl (j := i + 1) (by rw [show (1 : Int32) = nI 1 by decide]; exact nI_plus i 1) (by omega) hL dL_law_1358 ?_
  refine g_aload_n S dL_law_1359 rfl ?_
  refine g_callSWX (A' := AwS s mo ad) (Pk := hM D ty (AmS mo ad) mo ad b) (As := [.ref (el 6 0), .int (xs (i + 1)), .ref o]) (st := []) S hW (vx_cwSW 3 S.2.2.2.2 gL_law_L_owes rfl rfl rfl (by decide +kernel) ⟨Nat.le_of_ble_eq_true rfl, Nat.le_of_ble_eq_true rfl⟩) hK (fun q h => h.1) hE1 hk1 (fun H h => ⟨h.1, h.2⟩) rfl (Nat.le_of_ble_eq_true rfl) dL_law_1360 ⟨by show _ ≤ 601024; omega, by show _ ≤ 7293034; omega⟩ ?_
  intro rr
  refine g_and (b := rr = some (.int k)) (P' := fun H => (P2 H ∧ lrow D ty o f' H) ∧ hM D ty (AmS mo ad) mo ad b H) (fun H h => ⟨h.1.1, h.1.2, h.2⟩) (fun hr9 => ?_)
  subst hr9
  refine g_ex (α := Nat → Nat → Nat) (P' := fun el' H => elX a el el' ∧ LH D ty s tE o mo ad el' a' b f' H) (fun H h => (hP2 H h.1.1).elim fun el' z => ⟨el', z.1, ⟨z.2, h.1.2⟩, h.2⟩) (fun el' => ?_)
  refine g_and (P' := LH D ty s tE o mo ad el' a' b f') (fun H h => h) (fun hel => ?_)
  have hx6 : el' 6 0 = el 6 0 := hel.ob (Or.inr ⟨rfl, rfl⟩)
  have hk2 : ∀ (H H1 : Heap), hC D ty (AcS s mo ad o) tE el' a' H ∧ lrow D ty o f' H → H.size ≤ H1.size → (∀ q : Nat, q < H.size → ¬ AmS mo ad q → H1[q]? = H[q]?) → hC D ty (AcS s mo ad o) tE el' a' H1 ∧ lrow D ty o f' H1 := fun H H1 h _ hq => ⟨hC_kept h.1 (fun q hA hlt => hq q hlt hA.1.2), va_at.kept h.2 (hq o (va_at.lt h.2) ho2)⟩
  refine g_istore S dL_law_1363 (by decide) rfl ?_
  refine g_aload_n S dL_law_1365 rfl ?_
  refine g_aload_n S dL_law_1366 rfl ?_
  refine g_iload S dL_law_1367 rfl ?_
  refine g_iconst S (v := 1) dL_law_1369 (by decide) ?_
  refine g_iadd S dL_law_1370 ?_
  refine g_sld S hX hbl (j := i + 1) (by rw [show (1 : Int32) = nI 1 by decide]; exact nI_plus i 1) (by omega) hL dL_law_1371 ?_
  refine g_callVX (b := false) (strs := []) (tE := 0) (A' := AmS mo ad) (Pk := fun H => hC D ty (AcS s mo ad o) tE el' a' H ∧ lrow D ty o f' H) (b0 := mo) (As := [.int (xs (i + 1))]) (st := []) S hMm (cwV 1 S.2.2.2.2 gL_law_X6_owes rfl rfl rfl (by decide +kernel) ⟨Nat.le_of_ble_eq_true rfl, Nat.le_of_ble_eq_true rfl⟩) hK hAm (fun H locs _ _ => gE_no) hk2 (fun H h => ⟨h.2, h.1⟩) (fun H h => m_recv hK H h.2) rfl (Nat.le_of_ble_eq_true rfl) dL_law_1372 ⟨by show _ ≤ 601024; omega, by show _ ≤ 7293034; omega⟩ ?_
  intro rr
  refine g_and (b := rr = r) (P' := LH D ty s tE o mo ad el' a' b' f') (fun H h => ⟨h.1.1, h.2, h.1.2⟩) (fun hr9 => ?_)
  subst hr9
  obtain ⟨v, hv9, hr⟩ := hr
  subst hv9
  refine g_istore S dL_law_1375 (by decide) rfl ?_
  refine g_aload_n S dL_law_1377 rfl ?_
  refine g_callVX (b := false) (strs := []) (tE := 0) (A' := AmS mo ad) (Pk := fun H => hC D ty (AcS s mo ad o) tE el' a' H ∧ lrow D ty o f' H) (b0 := mo) (As := []) (st := []) S (c_thrown l D ty (AmS mo ad) mo ad b') (cwV 0 S.2.2.2.2 gL_law_X6_thrown rfl rfl rfl (by decide +kernel) ⟨Nat.le_of_ble_eq_true rfl, Nat.le_of_ble_eq_true rfl⟩) hK hAm (fun H locs _ _ => gE_no) hk2 (fun H h => ⟨h.2, h.1⟩) (fun H h => m_recv hK H h.2) rfl (Nat.le_of_ble_eq_true rfl) dL_law_1378 ⟨by show _ ≤ 601024; omega, by show _ ≤ 7293034; omega⟩ ?_
  intro rr
  refine g_and (b := rr = some (.int (gS b' 0))) (P' := LH D ty s tE o mo ad el' a' b' f') (fun H h => ⟨h.1.1, h.2, h.1.2⟩) (fun hr9 => ?_)
  subst hr9
  refine g_iload S dL_law_1381 rfl ?_
  refine g_icmp_eq S (tgt := 1388) dL_law_1383 (by decide) (fun _ => ?_) (fun c9 => absurd h0 c9)
  refine g_iload S dL_law_1388 rfl ?_
  refine g_if_ne S (tgt := 1405) dL_law_1390 (by decide) (fun _ => ?_) (fun c8 => ?_)
  ·
    refine g_goto S (tgt := 1556) dL_law_1405 (by decide) ?_
    exact g_less (lv' := lvL b0 (el 6 0) mo o (nI i)) rfl (lvL_less rfl rfl rfl rfl rfl) (g_widen (k' := 50 + pc a' + 10 * (T + 1)) (n' := 20000 + ps a' + 400 * (T + 1)) (by omega) (by omega) (kk f' el' a' b' hj ht hx6))
  ·
    refine g_aload_n S dL_law_1393 rfl ?_
    refine g_iconst S (v := 0) dL_law_1394 (by decide) ?_
    refine g_lald S hK (a := o) (N' := 1) (f := f') (fun H h => h.1.2) vin_01 dL_law_1395 ?_
    refine g_iload S dL_law_1396 rfl ?_
    refine g_i2l S dL_law_1398 ?_
    refine g_lcmp S dL_law_1399 ?_
    refine g_if_eq S (tgt := 1405) dL_law_1400 (by decide) (fun _ => ?_) (fun c7 => absurd (by rw [show f' (0 : Int32).toNatClampNeg = f' 0 from rfl, hr c8]; exact lg_self _) c7)
    refine g_goto S (tgt := 1556) dL_law_1405 (by decide) ?_
    exact g_less (lv' := lvL b0 (el 6 0) mo o (nI i)) rfl (lvL_less rfl rfl rfl rfl rfl) (g_widen (k' := 50 + pc a' + 10 * (T + 1)) (n' := 20000 + ps a' + 400 * (T + 1)) (by omega) (by omega) (kk f' el' a' b' hj ht hx6))
set_option maxHeartbeats 2000000 in
set_option maxRecDepth 100000 in
theorem L_holds {p : Program} {l : Launch} {e : Env} {s : State} {m : MethodId} {below : List Frame} {meth : Method} {c : Code} {b0 L : Nat} {xs : Nat → Int32} {D : va_G} {ty : Nat → ClassId} {tE o mo : Nat} {ad : Nat → Nat} {el : Nat → Nat → Nat} {a : CS} {b : MS} {f : Nat → Int64} {T D0 : Nat} (C : LCtx p l s m c b0 L xs D ty tE o mo ad) {i : Nat} (hi : i + 8 ≤ L) (j : SJ T D0 a b) (tn : TN a) (hT : T < 600) (hD : D0 ≤ 90000)
    (kk : ∀ (f' : Nat → Int64) (el' : Nat → Nat → Nat) (a' : CS) (b' : MS), SJ (T + 1) (D0 + 30) a' b' → TN a' → el' 6 0 = el 6 0 → LW p l e s m below meth c b0 (LH D ty s tE o mo ad el' a' b' f') (50 + pc a' + 10 * (T + 1)) (20000 + ps a' + 400 * (T + 1)) 1556 (lvL b0 (el 6 0) mo o (nI i)) []) :
    LW p l e s m below meth c b0 (LH D ty s tE o mo ad el a b f) (50 + pc a + 10 * T) (20000 + ps a + 400 * T) 1408 (lvL b0 (el 6 0) mo o (nI i)) [] := by
  obtain ⟨S, hK, hE, hX, hbl, hL, hl, ho1, ho2, hAm⟩ := C
  have ev := ev_S (l := l) hl ho1 ho2
  have hcost := tn.cost j (by omega)
  obtain ⟨k, f', a', b', r, mc, ms, P2, hP2, hW, hMm, ⟨c1, c2⟩, h0, hr, hj, ht⟩ := o_holds (D := D) (ty := ty) (tE := tE) (mo := mo) (Am := AmS mo ad) (ad := ad) (el := el) ev j tn hT hD (xs (i + 1)) (xs (i + 2)) (xs (i + 3)) f
  have hcost2 := ht.cost hj (by omega)
  have hE1 : ∀ (H : Heap) (locs : List Loc), LH D ty s tE o mo ad el a b f H → va_S (LA s) s.heap H locs → ∀ U : State, U.heap = H → s.WarmedH U.vm → gE true cstrs (AwS s mo ad) tE U U.heap := fun H locs hP hS => gE_at hE hS (fun q h => h.1) (fun q hq => ⟨Nat.le_trans hS.1 hq, fun z => absurd (hM_lt hP.2 q z) (Nat.not_lt.mpr hq)⟩)
  have hk1 : ∀ H H1 : Heap, hM D ty (AmS mo ad) mo ad b H → H.size ≤ H1.size → (∀ q : Nat, q < H.size → ¬ AwS s mo ad q → H1[q]? = H[q]?) → hM D ty (AmS mo ad) mo ad b H1 := fun H H1 h _ hq => hM_kept h (fun q hA hlt => hq q hlt (fun z => z.2 hA))
  refine g_aload_n S dL_law_1408 rfl ?_
  refine g_aload_n S dL_law_1409 rfl ?_
  refine g_iload S dL_law_1410 rfl ?_
  refine g_iconst S (v := 1) dL_law_1412 (by decide) ?_
  refine g_iadd S dL_law_1413 ?_
  refine g_sld S hX hbl (j := i + 1) (by rw [show (1 : Int32) = nI 1 by decide]; exact nI_plus i 1) (by omega) hL dL_law_1414 ?_
  refine g_aload_n S dL_law_1415 rfl ?_
  refine g_iload S dL_law_1416 rfl ?_
  refine g_iconst S (v := 2) dL_law_1418 (by decide) ?_
  refine g_iadd S dL_law_1419 ?_
  refine g_sld S hX hbl (j := i + 2) (by rw [show (2 : Int32) = nI 2 by decide]; exact nI_plus i 2) (by omega) hL dL_law_1420 ?_
  refine g_aload_n S dL_law_1421 rfl ?_
  refine g_iload S dL_law_1422 rfl ?_
  refine g_iconst S (v := 3) dL_law_1424 (by decide) ?_
  refine g_iadd S dL_law_1425 ?_
  refine g_sld S hX hbl (j := i + 3) (by rw [show (3 : Int32) = nI 3 by decide]; exact nI_plus i 3) (by omega) hL dL_law_1426 ?_
  refine g_aload_n S dL_law_1427 rfl ?_
  refine g_callSWX (A' := AwS s mo ad) (Pk := hM D ty (AmS mo ad) mo ad b) (As := [.ref (el 6 0), .int (xs (i + 1)), .int (xs (i + 2)), .int (xs (i + 3)), .ref o]) (st := []) S hW (vx_cwSW 5 S.2.2.2.2 gL_law_L_holds rfl rfl rfl (by decide +kernel) ⟨Nat.le_of_ble_eq_true rfl, Nat.le_of_ble_eq_true rfl⟩) hK (fun q h => h.1) hE1 hk1 (fun H h => ⟨h.1, h.2⟩) rfl (Nat.le_of_ble_eq_true rfl) dL_law_1428 ⟨by show _ ≤ 601024; omega, by show _ ≤ 7293034; omega⟩ ?_
  intro rr
  refine g_and (b := rr = some (.int k)) (P' := fun H => (P2 H ∧ lrow D ty o f' H) ∧ hM D ty (AmS mo ad) mo ad b H) (fun H h => ⟨h.1.1, h.1.2, h.2⟩) (fun hr9 => ?_)
  subst hr9
  refine g_ex (α := Nat → Nat → Nat) (P' := fun el' H => elX a el el' ∧ LH D ty s tE o mo ad el' a' b f' H) (fun H h => (hP2 H h.1.1).elim fun el' z => ⟨el', z.1, ⟨z.2, h.1.2⟩, h.2⟩) (fun el' => ?_)
  refine g_and (P' := LH D ty s tE o mo ad el' a' b f') (fun H h => h) (fun hel => ?_)
  have hx6 : el' 6 0 = el 6 0 := hel.ob (Or.inr ⟨rfl, rfl⟩)
  have hk2 : ∀ (H H1 : Heap), hC D ty (AcS s mo ad o) tE el' a' H ∧ lrow D ty o f' H → H.size ≤ H1.size → (∀ q : Nat, q < H.size → ¬ AmS mo ad q → H1[q]? = H[q]?) → hC D ty (AcS s mo ad o) tE el' a' H1 ∧ lrow D ty o f' H1 := fun H H1 h _ hq => ⟨hC_kept h.1 (fun q hA hlt => hq q hlt hA.1.2), va_at.kept h.2 (hq o (va_at.lt h.2) ho2)⟩
  refine g_istore S dL_law_1431 (by decide) rfl ?_
  refine g_aload_n S dL_law_1433 rfl ?_
  refine g_aload_n S dL_law_1434 rfl ?_
  refine g_iload S dL_law_1435 rfl ?_
  refine g_iconst S (v := 1) dL_law_1437 (by decide) ?_
  refine g_iadd S dL_law_1438 ?_
  refine g_sld S hX hbl (j := i + 1) (by rw [show (1 : Int32) = nI 1 by decide]; exact nI_plus i 1) (by omega) hL dL_law_1439 ?_
  refine g_aload_n S dL_law_1440 rfl ?_
  refine g_iload S dL_law_1441 rfl ?_
  refine g_iconst S (v := 2) dL_law_1443 (by decide) ?_
  refine g_iadd S dL_law_1444 ?_
  refine g_sld S hX hbl (j := i + 2) (by rw [show (2 : Int32) = nI 2 by decide]; exact nI_plus i 2) (by omega) hL dL_law_1445 ?_
  refine g_aload_n S dL_law_1446 rfl ?_
  refine g_iload S dL_law_1447 rfl ?_
  refine g_iconst S (v := 3) dL_law_1449 (by decide) ?_
  refine g_iadd S dL_law_1450 ?_
  refine g_sld S hX hbl (j := i + 3) (by rw [show (3 : Int32) = nI 3 by decide]; exact nI_plus i 3) (by omega) hL dL_law_1451 ?_
  refine g_callVX (b := false) (strs := []) (tE := 0) (A' := AmS mo ad) (Pk := fun H => hC D ty (AcS s mo ad o) tE el' a' H ∧ lrow D ty o f' H) (b0 := mo) (As := [.int (xs (i + 1)), .int (xs (i + 2)), .int (xs (i + 3))]) (st := []) S hMm (cwV 3 S.2.2.2.2 gL_law_X6_holds rfl rfl rfl (by decide +kernel) ⟨Nat.le_of_ble_eq_true rfl, Nat.le_of_ble_eq_true rfl⟩) hK hAm (fun H locs _ _ => gE_no) hk2 (fun H h => ⟨h.2, h.1⟩) (fun H h => m_recv hK H h.2) rfl (Nat.le_of_ble_eq_true rfl) dL_law_1452 ⟨by show _ ≤ 601024; omega, by show _ ≤ 7293034; omega⟩ ?_
  intro rr
  refine g_and (b := rr = r) (P' := LH D ty s tE o mo ad el' a' b' f') (fun H h => ⟨h.1.1, h.2, h.1.2⟩) (fun hr9 => ?_)
  subst hr9
  obtain ⟨v, hv9, hr⟩ := hr
  subst hv9
  refine g_istore S dL_law_1455 (by decide) rfl ?_
  refine g_aload_n S dL_law_1457 rfl ?_
  refine g_callVX (b := false) (strs := []) (tE := 0) (A' := AmS mo ad) (Pk := fun H => hC D ty (AcS s mo ad o) tE el' a' H ∧ lrow D ty o f' H) (b0 := mo) (As := []) (st := []) S (c_thrown l D ty (AmS mo ad) mo ad b') (cwV 0 S.2.2.2.2 gL_law_X6_thrown rfl rfl rfl (by decide +kernel) ⟨Nat.le_of_ble_eq_true rfl, Nat.le_of_ble_eq_true rfl⟩) hK hAm (fun H locs _ _ => gE_no) hk2 (fun H h => ⟨h.2, h.1⟩) (fun H h => m_recv hK H h.2) rfl (Nat.le_of_ble_eq_true rfl) dL_law_1458 ⟨by show _ ≤ 601024; omega, by show _ ≤ 7293034; omega⟩ ?_
  intro rr
  refine g_and (b := rr = some (.int (gS b' 0))) (P' := LH D ty s tE o mo ad el' a' b' f') (fun H h => ⟨h.1.1, h.2, h.1.2⟩) (fun hr9 => ?_)
  subst hr9
  refine g_iload S dL_law_1461 rfl ?_
  refine g_icmp_eq S (tgt := 1468) dL_law_1463 (by decide) (fun _ => ?_) (fun c9 => absurd h0 c9)
  refine g_iload S dL_law_1468 rfl ?_
  refine g_if_ne S (tgt := 1485) dL_law_1470 (by decide) (fun _ => ?_) (fun c8 => ?_)
  ·
    refine g_goto S (tgt := 1556) dL_law_1485 (by decide) ?_
    exact g_less (lv' := lvL b0 (el 6 0) mo o (nI i)) rfl (lvL_less rfl rfl rfl rfl rfl) (g_widen (k' := 50 + pc a' + 10 * (T + 1)) (n' := 20000 + ps a' + 400 * (T + 1)) (by omega) (by omega) (kk f' el' a' b' hj ht hx6))
  ·
    refine g_aload_n S dL_law_1473 rfl ?_
    refine g_iconst S (v := 0) dL_law_1474 (by decide) ?_
    refine g_lald S hK (a := o) (N' := 1) (f := f') (fun H h => h.1.2) vin_01 dL_law_1475 ?_
    refine g_iload S dL_law_1476 rfl ?_
    refine g_i2l S dL_law_1478 ?_
    refine g_lcmp S dL_law_1479 ?_
    refine g_if_eq S (tgt := 1485) dL_law_1480 (by decide) (fun _ => ?_) (fun c7 => absurd (by rw [show f' (0 : Int32).toNatClampNeg = f' 0 from rfl, hr c8]; exact lg_self _) c7)
    refine g_goto S (tgt := 1556) dL_law_1485 (by decide) ?_
    exact g_less (lv' := lvL b0 (el 6 0) mo o (nI i)) rfl (lvL_less rfl rfl rfl rfl rfl) (g_widen (k' := 50 + pc a' + 10 * (T + 1)) (n' := 20000 + ps a' + 400 * (T + 1)) (by omega) (by omega) (kk f' el' a' b' hj ht hx6))
set_option maxHeartbeats 2000000 in
set_option maxRecDepth 100000 in
theorem L_ownerOn {p : Program} {l : Launch} {e : Env} {s : State} {m : MethodId} {below : List Frame} {meth : Method} {c : Code} {b0 L : Nat} {xs : Nat → Int32} {D : va_G} {ty : Nat → ClassId} {tE o mo : Nat} {ad : Nat → Nat} {el : Nat → Nat → Nat} {a : CS} {b : MS} {f : Nat → Int64} {T D0 : Nat} (C : LCtx p l s m c b0 L xs D ty tE o mo ad) {i : Nat} (hi : i + 8 ≤ L) (j : SJ T D0 a b) (tn : TN a) (hT : T < 600) (hD : D0 ≤ 90000)
    (kk : ∀ (f' : Nat → Int64) (el' : Nat → Nat → Nat) (a' : CS) (b' : MS), SJ (T + 1) (D0 + 30) a' b' → TN a' → el' 6 0 = el 6 0 → LW p l e s m below meth c b0 (LH D ty s tE o mo ad el' a' b' f') (50 + pc a' + 10 * (T + 1)) (20000 + ps a' + 400 * (T + 1)) 1556 (lvL b0 (el 6 0) mo o (nI i)) []) :
    LW p l e s m below meth c b0 (LH D ty s tE o mo ad el a b f) (50 + pc a + 10 * T) (20000 + ps a + 400 * T) 1488 (lvL b0 (el 6 0) mo o (nI i)) [] := by
  obtain ⟨S, hK, hE, hX, hbl, hL, hl, ho1, ho2, hAm⟩ := C
  have ev := ev_S (l := l) hl ho1 ho2
  have hcost := tn.cost j (by omega)
  obtain ⟨k, f', a', b', r, mc, ms, P2, hP2, hW, hMm, ⟨c1, c2⟩, h0, hr, hj, ht⟩ := o_ownerOn (D := D) (ty := ty) (tE := tE) (mo := mo) (Am := AmS mo ad) (ad := ad) (el := el) ev j tn hT hD (xs (i + 1)) (xs (i + 2)) f
  have hcost2 := ht.cost hj (by omega)
  have hE1 : ∀ (H : Heap) (locs : List Loc), LH D ty s tE o mo ad el a b f H → va_S (LA s) s.heap H locs → ∀ U : State, U.heap = H → s.WarmedH U.vm → gE true cstrs (AwS s mo ad) tE U U.heap := fun H locs hP hS => gE_at hE hS (fun q h => h.1) (fun q hq => ⟨Nat.le_trans hS.1 hq, fun z => absurd (hM_lt hP.2 q z) (Nat.not_lt.mpr hq)⟩)
  have hk1 : ∀ H H1 : Heap, hM D ty (AmS mo ad) mo ad b H → H.size ≤ H1.size → (∀ q : Nat, q < H.size → ¬ AwS s mo ad q → H1[q]? = H[q]?) → hM D ty (AmS mo ad) mo ad b H1 := fun H H1 h _ hq => hM_kept h (fun q hA hlt => hq q hlt (fun z => z.2 hA))
  refine g_aload_n S dL_law_1488 rfl ?_
  refine g_aload_n S dL_law_1489 rfl ?_
  refine g_iload S dL_law_1490 rfl ?_
  refine g_iconst S (v := 1) dL_law_1492 (by decide) ?_
  refine g_iadd S dL_law_1493 ?_
  refine g_sld S hX hbl (j := i + 1) (by rw [show (1 : Int32) = nI 1 by decide]; exact nI_plus i 1) (by omega) hL dL_law_1494 ?_
  refine g_aload_n S dL_law_1495 rfl ?_
  refine g_iload S dL_law_1496 rfl ?_
  refine g_iconst S (v := 2) dL_law_1498 (by decide) ?_
  refine g_iadd S dL_law_1499 ?_
  refine g_sld S hX hbl (j := i + 2) (by rw [show (2 : Int32) = nI 2 by decide]; exact nI_plus i 2) (by omega) hL dL_law_1500 ?_
  refine g_aload_n S dL_law_1501 rfl ?_
  refine g_callSWX (A' := AwS s mo ad) (Pk := hM D ty (AmS mo ad) mo ad b) (As := [.ref (el 6 0), .int (xs (i + 1)), .int (xs (i + 2)), .ref o]) (st := []) S hW (vx_cwSW 4 S.2.2.2.2 gL_law_L_ownerOn rfl rfl rfl (by decide +kernel) ⟨Nat.le_of_ble_eq_true rfl, Nat.le_of_ble_eq_true rfl⟩) hK (fun q h => h.1) hE1 hk1 (fun H h => ⟨h.1, h.2⟩) rfl (Nat.le_of_ble_eq_true rfl) dL_law_1502 ⟨by show _ ≤ 601024; omega, by show _ ≤ 7293034; omega⟩ ?_
  intro rr
  refine g_and (b := rr = some (.int k)) (P' := fun H => (P2 H ∧ lrow D ty o f' H) ∧ hM D ty (AmS mo ad) mo ad b H) (fun H h => ⟨h.1.1, h.1.2, h.2⟩) (fun hr9 => ?_)
  subst hr9
  refine g_ex (α := Nat → Nat → Nat) (P' := fun el' H => elX a el el' ∧ LH D ty s tE o mo ad el' a' b f' H) (fun H h => (hP2 H h.1.1).elim fun el' z => ⟨el', z.1, ⟨z.2, h.1.2⟩, h.2⟩) (fun el' => ?_)
  refine g_and (P' := LH D ty s tE o mo ad el' a' b f') (fun H h => h) (fun hel => ?_)
  have hx6 : el' 6 0 = el 6 0 := hel.ob (Or.inr ⟨rfl, rfl⟩)
  have hk2 : ∀ (H H1 : Heap), hC D ty (AcS s mo ad o) tE el' a' H ∧ lrow D ty o f' H → H.size ≤ H1.size → (∀ q : Nat, q < H.size → ¬ AmS mo ad q → H1[q]? = H[q]?) → hC D ty (AcS s mo ad o) tE el' a' H1 ∧ lrow D ty o f' H1 := fun H H1 h _ hq => ⟨hC_kept h.1 (fun q hA hlt => hq q hlt hA.1.2), va_at.kept h.2 (hq o (va_at.lt h.2) ho2)⟩
  refine g_istore S dL_law_1505 (by decide) rfl ?_
  refine g_aload_n S dL_law_1507 rfl ?_
  refine g_aload_n S dL_law_1508 rfl ?_
  refine g_iload S dL_law_1509 rfl ?_
  refine g_iconst S (v := 1) dL_law_1511 (by decide) ?_
  refine g_iadd S dL_law_1512 ?_
  refine g_sld S hX hbl (j := i + 1) (by rw [show (1 : Int32) = nI 1 by decide]; exact nI_plus i 1) (by omega) hL dL_law_1513 ?_
  refine g_aload_n S dL_law_1514 rfl ?_
  refine g_iload S dL_law_1515 rfl ?_
  refine g_iconst S (v := 2) dL_law_1517 (by decide) ?_
  refine g_iadd S dL_law_1518 ?_
  refine g_sld S hX hbl (j := i + 2) (by rw [show (2 : Int32) = nI 2 by decide]; exact nI_plus i 2) (by omega) hL dL_law_1519 ?_
  refine g_callVX (b := false) (strs := []) (tE := 0) (A' := AmS mo ad) (Pk := fun H => hC D ty (AcS s mo ad o) tE el' a' H ∧ lrow D ty o f' H) (b0 := mo) (As := [.int (xs (i + 1)), .int (xs (i + 2))]) (st := []) S hMm (cwV 2 S.2.2.2.2 gL_law_X6_ownerOn rfl rfl rfl (by decide +kernel) ⟨Nat.le_of_ble_eq_true rfl, Nat.le_of_ble_eq_true rfl⟩) hK hAm (fun H locs _ _ => gE_no) hk2 (fun H h => ⟨h.2, h.1⟩) (fun H h => m_recv hK H h.2) rfl (Nat.le_of_ble_eq_true rfl) dL_law_1520 ⟨by show _ ≤ 601024; omega, by show _ ≤ 7293034; omega⟩ ?_
  intro rr
  refine g_and (b := rr = r) (P' := LH D ty s tE o mo ad el' a' b' f') (fun H h => ⟨h.1.1, h.2, h.1.2⟩) (fun hr9 => ?_)
  subst hr9
  obtain ⟨v, hv9, hr⟩ := hr
  subst hv9
  refine g_istore S dL_law_1523 (by decide) rfl ?_
  refine g_aload_n S dL_law_1525 rfl ?_
  refine g_callVX (b := false) (strs := []) (tE := 0) (A' := AmS mo ad) (Pk := fun H => hC D ty (AcS s mo ad o) tE el' a' H ∧ lrow D ty o f' H) (b0 := mo) (As := []) (st := []) S (c_thrown l D ty (AmS mo ad) mo ad b') (cwV 0 S.2.2.2.2 gL_law_X6_thrown rfl rfl rfl (by decide +kernel) ⟨Nat.le_of_ble_eq_true rfl, Nat.le_of_ble_eq_true rfl⟩) hK hAm (fun H locs _ _ => gE_no) hk2 (fun H h => ⟨h.2, h.1⟩) (fun H h => m_recv hK H h.2) rfl (Nat.le_of_ble_eq_true rfl) dL_law_1526 ⟨by show _ ≤ 601024; omega, by show _ ≤ 7293034; omega⟩ ?_
  intro rr
  refine g_and (b := rr = some (.int (gS b' 0))) (P' := LH D ty s tE o mo ad el' a' b' f') (fun H h => ⟨h.1.1, h.2, h.1.2⟩) (fun hr9 => ?_)
  subst hr9
  refine g_iload S dL_law_1529 rfl ?_
  refine g_icmp_eq S (tgt := 1536) dL_law_1531 (by decide) (fun _ => ?_) (fun c9 => absurd h0 c9)
  refine g_iload S dL_law_1536 rfl ?_
  refine g_if_ne S (tgt := 1553) dL_law_1538 (by decide) (fun _ => ?_) (fun c8 => ?_)
  ·
    refine g_goto S (tgt := 1556) dL_law_1553 (by decide) ?_
    exact g_less (lv' := lvL b0 (el 6 0) mo o (nI i)) rfl (lvL_less rfl rfl rfl rfl rfl) (g_widen (k' := 50 + pc a' + 10 * (T + 1)) (n' := 20000 + ps a' + 400 * (T + 1)) (by omega) (by omega) (kk f' el' a' b' hj ht hx6))
  ·
    refine g_aload_n S dL_law_1541 rfl ?_
    refine g_iconst S (v := 0) dL_law_1542 (by decide) ?_
    refine g_lald S hK (a := o) (N' := 1) (f := f') (fun H h => h.1.2) vin_01 dL_law_1543 ?_
    refine g_iload S dL_law_1544 rfl ?_
    refine g_i2l S dL_law_1546 ?_
    refine g_lcmp S dL_law_1547 ?_
    refine g_if_eq S (tgt := 1553) dL_law_1548 (by decide) (fun _ => ?_) (fun c7 => absurd (by rw [show f' (0 : Int32).toNatClampNeg = f' 0 from rfl, hr c8]; exact lg_self _) c7)
    refine g_goto S (tgt := 1556) dL_law_1553 (by decide) ?_
    exact g_less (lv' := lvL b0 (el 6 0) mo o (nI i)) rfl (lvL_less rfl rfl rfl rfl rfl) (g_widen (k' := 50 + pc a' + 10 * (T + 1)) (n' := 20000 + ps a' + 400 * (T + 1)) (by omega) (by omega) (kk f' el' a' b' hj ht hx6))
