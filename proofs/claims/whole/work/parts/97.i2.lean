/-! the law's loop, and the whole -/
theorem hC_cut {D : va_G} {ty : Nat → ClassId} {A A' : Nat → Prop} {tE : Nat} {el : Nat → Nat → Nat} {a : CS} {H : Heap} (h : hC D ty A tE el a H) (hA : ∀ q, A q → q < H.size → A' q) : hC D ty A' tE el a H := by
  obtain ⟨md, cp, ea, h1, h2, h3⟩ := h
  exact ⟨md, cp, ea, fun j i ho => ⟨(h1 j i ho).1, hA _ (h1 j i ho).2 (va_at.lt (h1 j i ho).1)⟩, h2, h3⟩
theorem hM_own {D : va_G} {ty : Nat → ClassId} {A : Nat → Prop} {mo : Nat} {ad : Nat → Nat} {b : MS} {H : Heap} (h : hM D ty A mo ad b H) : hM D ty (AmS mo ad) mo ad b H ∧ ∀ q, AmS mo ad q → A q := by
  obtain ⟨⟨h1, h2⟩, h3, h4⟩ := h
  refine ⟨⟨⟨h1, Or.inl rfl⟩, fun k hk => ⟨(h3 k hk).1, Or.inr ⟨k, hk, rfl⟩, (h3 k hk).2.2⟩, h4⟩, ?_⟩
  rintro q (rfl | ⟨k, hk, rfl⟩)
  · exact h2
  · exact (h3 k hk).2.1
theorem sw_cases (v : Int32) : (v = 0 ∨ v = 1 ∨ v = 2 ∨ v = 3 ∨ v = 4 ∨ v = 5 ∨ v = 6 ∨ v = 7 ∨ v = 8 ∨ v = 9 ∨ v = 10 ∨ v = 11 ∨ v = 12 ∨ v = 13 ∨ v = 14 ∨ v = 15 ∨ v = 16 ∨ v = 17 ∨ v = 18 ∨ v = 19 ∨ v = 20) ∨ (v.toInt < 0 ∨ 20 < v.toInt) := by
  have e : ∀ k : Int32, v = k ↔ v.toInt = k.toInt := fun k => Int32.toInt_inj.symm
  rw [e 0, e 1, e 2, e 3, e 4, e 5, e 6, e 7, e 8, e 9, e 10, e 11, e 12, e 13, e 14, e 15, e 16, e 17, e 18, e 19, e 20, i32_0, show (1 : Int32).toInt = 1 by decide, show (2 : Int32).toInt = 2 by decide, show (3 : Int32).toInt = 3 by decide, show (4 : Int32).toInt = 4 by decide, show (5 : Int32).toInt = 5 by decide, show (6 : Int32).toInt = 6 by decide, show (7 : Int32).toInt = 7 by decide, show (8 : Int32).toInt = 8 by decide, show (9 : Int32).toInt = 9 by decide, show (10 : Int32).toInt = 10 by decide, show (11 : Int32).toInt = 11 by decide, show (12 : Int32).toInt = 12 by decide, show (13 : Int32).toInt = 13 by decide, show (14 : Int32).toInt = 14 by decide, show (15 : Int32).toInt = 15 by decide, show (16 : Int32).toInt = 16 by decide, show (17 : Int32).toInt = 17 by decide, show (18 : Int32).toInt = 18 by decide, show (19 : Int32).toInt = 19 by decide, show (20 : Int32).toInt = 20 by decide]
  omega
set_option maxHeartbeats 2000000 in
set_option maxRecDepth 100000 in
theorem law_loop {p : Program} {l : Launch} {e : Env} {s : State} {m : MethodId} {below : List Frame} {meth : Method} {c : Code} {b0 L : Nat} {xs : Nat → Int32} {D : va_G} {ty : Nat → ClassId} {tE o mo : Nat} {ad : Nat → Nat} (C : LCtx p l s m c b0 L xs D ty tE o mo ad) (hr : meth.sig.returnType = ret) (hlocks : meth.locks = false) : ∀ (fuel T : Nat), T + fuel = 513 → ∀ (el : Nat → Nat → Nat) (a : CS) (b : MS) (f : Nat → Int64), SJ T (30 * T) a b → TN a →
    LW p l e s m below meth c b0 (LH D ty s tE o mo ad el a b f) (50 + pc a + 10 * T) (20000 + ps a + 400 * T) 23 (lvL b0 (el 6 0) mo o (nI (8 * T))) [] := by
  intro fuel
  induction fuel with
  | zero =>
    intro T hT el a b f j tn
    obtain ⟨S, hK, hE, hX, hbl, hL, -⟩ := id C
    have hcost := tn.cost j (by omega)
    refine g_iload S dL_law_23 rfl ?_
    refine g_aload_n S dL_law_25 rfl ?_
    refine g_slen S hX hbl dL_law_26 ?_
    refine g_bipush S (v := 8) dL_law_27 (by decide) ?_
    refine g_isub S dL_law_29 ?_
    refine g_icmp_gt S (tgt := 1562) dL_law_30 (by decide) (fun c1 => ?_) (fun c1 => ?_)
    · refine g_iconst S (v := 1) dL_law_1562 (by decide) ?_
      exact g_lret1 S.1 S.2.1 hr hlocks (by omega) (by omega) dL_law_1563
    · exfalso
      apply c1
      have h1 : (Int32.ofNat L).toInt = L := nI_toInt (by omega)
      rw [i32_lt, i32_sub (by rw [h1, show (8 : Int32).toInt = 8 by decide]; omega) (by rw [h1, show (8 : Int32).toInt = 8 by decide]; omega), h1, show (8 : Int32).toInt = 8 by decide, nI_toInt (by omega)]
      omega
  | succ fuel ih =>
    intro T hT el a b f j tn
    obtain ⟨S, hK, hE, hX, hbl, hL, -⟩ := id C
    have hcost := tn.cost j (by omega)
    refine g_iload S dL_law_23 rfl ?_
    refine g_aload_n S dL_law_25 rfl ?_
    refine g_slen S hX hbl dL_law_26 ?_
    refine g_bipush S (v := 8) dL_law_27 (by decide) ?_
    refine g_isub S dL_law_29 ?_
    refine g_icmp_gt S (tgt := 1562) dL_law_30 (by decide) (fun c1 => ?_) (fun c1 => ?_)
    · refine g_iconst S (v := 1) dL_law_1562 (by decide) ?_
      exact g_lret1 S.1 S.2.1 hr hlocks (by omega) (by omega) dL_law_1563
    · have hi : 8 * T + 8 ≤ L := by
        have h1 : (Int32.ofNat L).toInt = L := nI_toInt (by omega)
        rw [i32_lt, i32_sub (by rw [h1, show (8 : Int32).toInt = 8 by decide]; omega) (by rw [h1, show (8 : Int32).toInt = 8 by decide]; omega), h1, show (8 : Int32).toInt = 8 by decide, nI_toInt (by omega)] at c1
        omega
      have KK : ∀ (f' : Nat → Int64) (el' : Nat → Nat → Nat) (a' : CS) (b' : MS), SJ (T + 1) (30 * T + 30) a' b' → TN a' → el' 6 0 = el 6 0 → LW p l e s m below meth c b0 (LH D ty s tE o mo ad el' a' b' f') (50 + pc a' + 10 * (T + 1)) (20000 + ps a' + 400 * (T + 1)) 1556 (lvL b0 (el 6 0) mo o (nI (8 * T))) [] := by
        intro f' el' a' b' hj ht hx6
        refine g_iinc S (x := nI (8 * T)) (v := nI (8 * (T + 1))) dL_law_1556 rfl (by rw [show Int32.ofInt 8 = nI 8 by decide, nI_plus, show 8 * T + 8 = 8 * (T + 1) by omega]) (by decide) rfl ?_
        refine g_goto S (tgt := 23) dL_law_1559 (by decide) ?_
        have q := ih (T + 1) (by omega) el' a' b' f' (by rw [show 30 * (T + 1) = 30 * T + 30 by omega]; exact hj) ht
        rw [hx6] at q
        exact q
      refine g_aload_n S dL_law_33 rfl ?_
      refine g_iload S dL_law_34 rfl ?_
      refine g_sld0 S hX hbl (i := 8 * T) (by omega) hL dL_law_36 ?_
      refine g_bipush S (v := 31) dL_law_37 (by decide) ?_
      refine g_iand S dL_law_39 ?_
      generalize xs (8 * T) &&& 31 = v
      rcases sw_cases v with (rfl | rfl | rfl | rfl | rfl | rfl | rfl | rfl | rfl | rfl | rfl | rfl | rfl | rfl | rfl | rfl | rfl | rfl | rfl | rfl | rfl) | h
      · refine g_tabIn S (off := 100) (tgt := 140) dL_law_40 (by decide) (by decide) (by decide) (by decide) ?_
        exact L_silo C hi j tn (by omega) (by omega) KK
      · refine g_tabIn S (off := 156) (tgt := 196) dL_law_40 (by decide) (by decide) (by decide) (by decide) ?_
        exact L_terms C hi j tn (by omega) (by omega) KK
      · refine g_tabIn S (off := 216) (tgt := 256) dL_law_40 (by decide) (by decide) (by decide) (by decide) ?_
        exact L_deliver C hi j tn (by omega) (by omega) KK
      · refine g_tabIn S (off := 308) (tgt := 348) dL_law_40 (by decide) (by decide) (by decide) (by decide) ?_
        exact L_split C hi j tn (by omega) (by omega) KK
      · refine g_tabIn S (off := 376) (tgt := 416) dL_law_40 (by decide) (by decide) (by decide) (by decide) ?_
        exact L_sell C hi j tn (by omega) (by omega) KK
      · refine g_tabIn S (off := 456) (tgt := 496) dL_law_40 (by decide) (by decide) (by decide) (by decide) ?_
        exact L_pledge C hi j tn (by omega) (by omega) KK
      · refine g_tabIn S (off := 548) (tgt := 588) dL_law_40 (by decide) (by decide) (by decide) (by decide) ?_
        exact L_redeem C hi j tn (by omega) (by omega) KK
      · refine g_tabIn S (off := 604) (tgt := 644) dL_law_40 (by decide) (by decide) (by decide) (by decide) ?_
        exact L_takeOut C hi j tn (by omega) (by omega) KK
      · refine g_tabIn S (off := 660) (tgt := 700) dL_law_40 (by decide) (by decide) (by decide) (by decide) ?_
        exact L_reweigh C hi j tn (by omega) (by omega) KK
      · refine g_tabIn S (off := 728) (tgt := 768) dL_law_40 (by decide) (by decide) (by decide) (by decide) ?_
        exact L_contract C hi j tn (by omega) (by omega) KK
      · refine g_tabIn S (off := 860) (tgt := 900) dL_law_40 (by decide) (by decide) (by decide) (by decide) ?_
        exact L_pass C hi j tn (by omega) (by omega) KK
      · refine g_tabIn S (off := 916) (tgt := 956) dL_law_40 (by decide) (by decide) (by decide) (by decide) ?_
        exact L_receipt C hi j tn (by omega) (by omega) KK
      · refine g_tabIn S (off := 984) (tgt := 1024) dL_law_40 (by decide) (by decide) (by decide) (by decide) ?_
        exact L_receipts C hi j tn (by omega) (by omega) KK
      · refine g_tabIn S (off := 997) (tgt := 1037) dL_law_40 (by decide) (by decide) (by decide) (by decide) ?_
        exact L_delivery C hi j tn (by omega) (by omega) KK
      · refine g_tabIn S (off := 1065) (tgt := 1105) dL_law_40 (by decide) (by decide) (by decide) (by decide) ?_
        exact L_ofContract C hi j tn (by omega) (by omega) KK
      · refine g_tabIn S (off := 1133) (tgt := 1173) dL_law_40 (by decide) (by decide) (by decide) (by decide) ?_
        exact L_ofSilo C hi j tn (by omega) (by omega) KK
      · refine g_tabIn S (off := 1201) (tgt := 1241) dL_law_40 (by decide) (by decide) (by decide) (by decide) ?_
        exact L_contentAnew C hi j tn (by omega) (by omega) KK
      · refine g_tabIn S (off := 1257) (tgt := 1297) dL_law_40 (by decide) (by decide) (by decide) (by decide) ?_
        exact L_account C hi j tn (by omega) (by omega) KK
      · refine g_tabIn S (off := 1312) (tgt := 1352) dL_law_40 (by decide) (by decide) (by decide) (by decide) ?_
        exact L_owes C hi j tn (by omega) (by omega) KK
      · refine g_tabIn S (off := 1368) (tgt := 1408) dL_law_40 (by decide) (by decide) (by decide) (by decide) ?_
        exact L_holds C hi j tn (by omega) (by omega) KK
      · refine g_tabIn S (off := 1448) (tgt := 1488) dL_law_40 (by decide) (by decide) (by decide) (by decide) ?_
        exact L_ownerOn C hi j tn (by omega) (by omega) KK
      · refine g_tabOut S (tgt := 1556) dL_law_40 h (by decide) ?_
        exact g_widen (k' := 50 + pc a + 10 * (T + 1)) (n' := 20000 + ps a + 400 * (T + 1)) (by omega) (by omega) (KK f el a b (j.step cKp.rf (Nat.le_add_right _ _) (j.2.2.mono (by omega))) tn rfl)
