/-! the law from its entry -/
/-- what holds at the law's entry: the machine, the code, the tables' words (any of lw_tbl by 'hts w (by decide +kernel)'), the script of L ints xs at the cell b, what the Statement gives of the start (any of its parts by flat_of_before) -/
def lw_At (p : Program) (s : State) (m : MethodId) (meth : Method) (c : Code) (b L : Nat) (xs : Nat → Int32) : Prop :=
  p.tables.exec = Jvm.exec ∧ c.code = code ∧ meth.sig.returnType = ret ∧ c.maxLocals = 8 ∧ s.vm.findClass R_law = some m.cls ∧ (∀ w ∈ lw_tbl, w.before #[Value.ref b] s = true) ∧ va_X b L xs s s.heap ∧ b < s.heap.size ∧ meth.locks = false ∧ (Jvm.Cond.and given_1 narrow_1).before #[Value.ref b] s = true

theorem LA_of {s : State} {D : va_G} {ty : Nat → ClassId} {tE : Nat} {el : Nat → Nat → Nat} {H : Heap} (h : hC D ty (LA s) tE el c0 H) : s.heap.size ≤ H.size := by
  obtain ⟨md, cp, ea, h1, -⟩ := h
  have q := h1 6 0 (Or.inr (Or.inr (Or.inl ⟨rfl, rfl⟩)))
  exact Nat.le_trans q.2 (Nat.le_of_lt (va_at.lt q.1))
set_option maxHeartbeats 2000000 in
set_option maxRecDepth 100000 in
theorem whole_start {p : Program} {e : Env} {s : State} {m : MethodId} {below : List Frame} {meth : Method} {c : Code} (l : Launch) (hflags : l.flags = flags0) {b L : Nat} {xs : Nat → Int32} (hL : L ≤ 4096) (C0 : lw_At p s m meth c b L xs) : W p l e room_1 s m #[Value.ref b] below meth c s.heap [] 0 0 (lw_Z below #[Value.ref b] s) (entryFrame m ([Value.ref b] : List Value).toArray 8) := by
  obtain ⟨hx, hb, hr, hml, hown, hts, hX, hbl, hlocks, hgv⟩ := C0
  obtain ⟨D, ty, hK⟩ := gK_start hts
  obtain ⟨tE, hE⟩ := gE_start hts hgv
  have hl : l.stackTraces = false := by unfold Launch.stackTraces; rw [hflags]; decide
  have S : CallFix p m c cL_law 8 s #[Value.ref b] wsL_law RL := ⟨hx, hb, hml, hown, fun w hw => hts w (wsL_law_in w hw)⟩
  obtain ⟨j0, tn0⟩ := SJ_start
  rw [lg_entry_eq]
  have body : LW p l e s m below meth c b (fun _ => True) 0 0 0 [some (.ref b), none, none, none, none, none, none, none] [] := by
    refine g_new S hK (C := RX5) (T := TX5) (N := 11) (ci := 6) (fs := [.null, .null, .null, .null, .null, .null, .int 0, .int 0, .int 0, .int 0, .int 0]) (P' := fun q => hCb D ty (LA s) tE q (fun _ => 0) (fun _ => 0) 0) tyX5 tyX5_ok rfl (S.2.2.2.2 _ (List.mem_of_getElem? (i := 0) rfl)) (S.2.2.2.2 _ (List.mem_of_getElem? (i := 1) rfl)) (S.2.2.2.2 _ (List.mem_of_getElem? (i := 2) rfl)) (fun q h => h) (fun j hj => by rcases (show j = 0 ∨ j = 1 ∨ j = 2 ∨ j = 3 ∨ j = 4 ∨ j = 5 ∨ j = 6 ∨ j = 7 ∨ j = 8 ∨ j = 9 ∨ j = 10 by omega) with rfl | rfl | rfl | rfl | rfl | rfl | rfl | rfl | rfl | rfl | rfl <;> rfl) (Nat.le_of_ble_eq_true rfl) (Nat.le_of_ble_eq_true rfl) (fun H H1 _ hat _ _ hA => ⟨⟨hat, hA⟩, fun k hk => absurd hk (Nat.not_lt_zero _), fun k k' hk => absurd hk (Nat.not_lt_zero _)⟩) dL_law_0 ?_
    intro x
    refine g_dup S dL_law_3 rfl ?_
    refine g_callI (b0 := x) (As := []) (st := [.ref x]) S (k_init l D ty (LA s) tE x (fun _ => 0)) (cwI 0 S.2.2.2.2 gL_law_X5_init rfl rfl rfl (S.2.2.2.2 _ (List.mem_of_getElem? (i := 2) rfl)) (S.2.2.2.2 _ (List.mem_of_getElem? (i := 7) rfl)) (S.2.2.2.2 _ (List.mem_of_getElem? (i := 8) rfl)) rfl (by decide +kernel) ⟨Nat.le_of_ble_eq_true rfl, Nat.le_of_ble_eq_true rfl⟩) hK hE (fun H h => h) rfl (Nat.le_of_ble_eq_true rfl) dL_law_4 ⟨Nat.le_of_ble_eq_true rfl, Nat.le_of_ble_eq_true rfl⟩ ?_
    intro r
    refine g_and (b := r = none) (P' := fun H => ∃ el, el 6 0 = x ∧ hC D ty (LA s) tE el c0 H) (fun H h => h) (fun hr9 => ?_)
    subst hr9
    refine g_ex (α := Nat → Nat → Nat) (P' := fun el H => el 6 0 = x ∧ hC D ty (LA s) tE el c0 H) (fun H h => h) (fun el => ?_)
    refine g_and (P' := hC D ty (LA s) tE el c0) (fun H h => h) (fun hel => ?_)
    subst hel
    refine g_astore_n S dL_law_7 (by decide) rfl ?_
    refine g_ex (α := Nat) (P' := fun z H => s.heap.size ≤ z ∧ hC D ty (fun q => s.heap.size ≤ q ∧ q < z) tE el c0 H ∧ z ≤ H.size) (fun H h => ⟨H.size, LA_of h, hC_cut h (fun q hA hlt => ⟨hA, hlt⟩), Nat.le_refl _⟩) (fun z => ?_)
    refine g_and (P' := fun H => hC D ty (fun q => s.heap.size ≤ q ∧ q < z) tE el c0 H ∧ z ≤ H.size) (fun H h => h) (fun hz => ?_)
    have hk1 : ∀ H H1 : Heap, hC D ty (fun q => s.heap.size ≤ q ∧ q < z) tE el c0 H ∧ z ≤ H.size → H.size ≤ H1.size → (∀ q : Nat, q < H.size → ¬ z ≤ q → H1[q]? = H[q]?) → hC D ty (fun q => s.heap.size ≤ q ∧ q < z) tE el c0 H1 ∧ z ≤ H1.size := fun H H1 h hle hq => ⟨hC_kept h.1 (fun q hA hlt => hq q hlt (Nat.not_le.mpr hA.2)), Nat.le_trans h.2 hle⟩
    refine g_new S hK (C := RX6) (T := TX6) (N := 46) (ci := 7) (fs := gObF misR 46 (fun _ => 0) (fun _ => 0) 0) (P' := fun q H => hMb D ty (fun q => z ≤ q) q (fun _ => 0) (fun _ => 0) 0 H ∧ (hC D ty (fun q => s.heap.size ≤ q ∧ q < z) tE el c0 H ∧ z ≤ H.size)) tyX6 tyX6_ok rfl (S.2.2.2.2 _ (List.mem_of_getElem? (i := 3) rfl)) (S.2.2.2.2 _ (List.mem_of_getElem? (i := 4) rfl)) (S.2.2.2.2 _ (List.mem_of_getElem? (i := 5) rfl)) (fun q h => h) (by decide +kernel) (Nat.le_of_ble_eq_true rfl) (Nat.le_of_ble_eq_true rfl) (fun H H1 hP hat hsz oq _ => ⟨⟨⟨hat, hP.2⟩, fun k hk => absurd hk (Nat.not_lt_zero _), fun k k' hk => absurd hk (Nat.not_lt_zero _)⟩, hk1 H H1 hP (by omega) (fun q hlt _ => oq q hlt)⟩) dL_law_8 ?_
    intro mo
    refine g_dup S dL_law_11 rfl ?_
    refine g_callIX (A' := fun q => z ≤ q) (Pk := fun H => hC D ty (fun q => s.heap.size ≤ q ∧ q < z) tE el c0 H ∧ z ≤ H.size) (b0 := mo) (As := []) (st := [.ref mo]) S (c_minit l D ty (fun q => z ≤ q) tE mo (fun _ => 0)) (cwI 0 S.2.2.2.2 gL_law_X6_init rfl rfl rfl (S.2.2.2.2 _ (List.mem_of_getElem? (i := 5) rfl)) (hts _ (by decide +kernel)) (hts _ (by decide +kernel)) rfl (by decide +kernel) ⟨Nat.le_of_ble_eq_true rfl, Nat.le_of_ble_eq_true rfl⟩) hK (fun q h => Nat.le_trans hz h) (fun H locs hP hS => gE_at hE hS (fun q h => Nat.le_trans hz h) (fun q hq => Nat.le_trans hP.2.2 hq)) hk1 (fun H h => h) rfl (Nat.le_of_ble_eq_true rfl) dL_law_12 ⟨Nat.le_of_ble_eq_true rfl, Nat.le_of_ble_eq_true rfl⟩ ?_
    intro r
    refine g_and (b := r = none) (P' := fun H => (∃ ad, hM D ty (fun q => z ≤ q) mo ad m0 H) ∧ (hC D ty (fun q => s.heap.size ≤ q ∧ q < z) tE el c0 H ∧ z ≤ H.size)) (fun H h => ⟨h.1.1, h.1.2, h.2⟩) (fun hr9 => ?_)
    subst hr9
    refine g_ex (α := Nat → Nat) (P' := fun ad H => hM D ty (fun q => z ≤ q) mo ad m0 H ∧ (hC D ty (fun q => s.heap.size ≤ q ∧ q < z) tE el c0 H ∧ z ≤ H.size)) (fun H h => h.1.elim fun ad q => ⟨ad, q, h.2⟩) (fun ad => ?_)
    refine g_astore_n S dL_law_15 (by decide) rfl ?_
    refine g_iconst S (v := 1) dL_law_16 (by decide) ?_
    refine g_newa S hK (atype := .long) (t0 := 1) (N' := 1) (a0 := (1, .inr (.inl (fun _ => 0)))) (P' := fun o H => (s.heap.size ≤ o ∧ ¬ AmS mo ad o ∧ ∀ q, AmS mo ad q → s.heap.size ≤ q) ∧ LH D ty s tE o mo ad el c0 m0 (fun _ => 0) H) (S.2.2.2.2 _ (List.mem_of_getElem? (i := 6) rfl)) (tt := .long) rfl rfl (fun U h => h) (fun cA => rfl) (by decide) (by decide) (by decide) (fun q h => h) (Nat.le_of_ble_eq_true rfl) (Nat.le_of_ble_eq_true rfl) ?_ dL_law_17 ?_
    · intro H H1 hP hat hsz oq _
      obtain ⟨hM9, hC9, hz9⟩ := hP
      obtain ⟨hM8, hAm⟩ := hM_own hM9
      refine ⟨⟨Nat.le_trans hz hz9, fun h => absurd (hM_lt hM8 _ h) (Nat.lt_irrefl _), fun q h => Nat.le_trans hz (hAm q h)⟩, ⟨?_, hat⟩, hM_kept hM8 (fun q _ hlt => oq q hlt)⟩
      exact hC_kept (hC_cut hC9 (fun q hA hlt => ⟨⟨hA.1, fun h => absurd (hAm q h) (Nat.not_le.mpr hA.2)⟩, Nat.ne_of_lt hlt⟩)) (fun q _ hlt => oq q hlt)
    intro o
    refine g_and (P' := LH D ty s tE o mo ad el c0 m0 (fun _ => 0)) (fun H h => h) (fun hd => ?_)
    refine g_astore_n S dL_law_19 (by decide) rfl ?_
    refine g_iconst S (v := 0) dL_law_20 (by decide) ?_
    refine g_istore S dL_law_21 (by decide) rfl ?_
    have q := law_loop (e := e) (below := below) (meth := meth) ⟨S, hK, hE, hX, hbl, hL, hl, hd.1, hd.2.1, hd.2.2⟩ hr hlocks 513 0 (by omega) el c0 m0 (fun _ => 0) j0 tn0
    exact g_less (lv' := lvL b (el 6 0) mo o (nI (8 * 0))) rfl (lvL_less rfl rfl rfl rfl rfl) (g_widen (k' := 50 + pc c0 + 10 * 0) (n' := 20000 + ps c0 + 400 * 0) (by omega) (by omega) q)
  exact body s.heap [] _ trivial va_S.rf (gl_entry (av := [.ref b]) (Nat.le_of_ble_eq_true rfl) rfl)
