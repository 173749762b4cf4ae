def cstrs : List (Nat × String) := [(126, "the receipt cannot be split"), (159, "the receipt is not pledged"), (167, "the receipt cannot be taken out"), (186, "there are eighty receipts"), (200, "the buyer is the seller"), (203, "there are thirty contracts"), (231, "what is out of range"), (270, "there is no such holder"), (290, "an argument is out of range"), (292, "the receipt cannot go to that holder"), (294, "there is no such silo"), (296, "there is no such delivery"), (298, "there is no such receipt"), (300, "there is no such contract"), (60, "there are six silos"), (91, "no delivery, no receipt or no room is left")]
/-! arrays of the class, casts, throws -/
theorem hC_grow {D : va_G} {ty : Nat → ClassId} {A : Nat → Prop} {tE : Nat} {el : Nat → Nat → Nat} {a : CS} {H H1 : Heap} (h : hC D ty A tE el a H) (hz : H.size ≤ H1.size) (hq : ∀ q : Nat, q < H.size → H1[q]? = H[q]?) : hC D ty A tE el a H1 := by
  obtain ⟨md, cp, ea, g1, g2, g3⟩ := h
  exact ⟨md, cp, ea, fun j i ho => ⟨(g1 j i ho).1.kept (hq _ (g1 j i ho).1.lt), (g1 j i ho).2⟩, g2, g3⟩
theorem hC_put8 {D : va_G} {ty : Nat → ClassId} {A : Nat → Prop} {tE : Nat} {el : Nat → Nat → Nat} {a a' : CS} {j : Nat} {H H1 : Heap} (hj : j = 8 ∨ j = 9) (h : hC D ty A tE el a H) (oq : ∀ q : Nat, q ≠ el j 0 → H1[q]? = H[q]?) (h1 : a'.1 = a.1) (h2 : a'.2.2.2.2.2 = a.2.2.2.2.2) (hi : a'.2.1 = a.2.1) (hr : a'.2.2.1 = a.2.2.1)
    (hat : ∀ md cp ea, va_at D vwCl (el j 0, cent ty tE el a' md cp ea j 0) H1) (ho : ∀ md cp ea j' i', j' ≠ j → cent ty tE el a' md cp ea j' i' = cent ty tE el a md cp ea j' i') : hC D ty A tE el a' H1 := by
  obtain ⟨md, cp, ea, g1, g2, g3⟩ := h
  have eo : ∀ j' i', cown a' cp j' i' ↔ cown a cp j' i' := fun j' i' => by simp only [cown, cN, h1]
  refine ⟨md, cp, ea, fun j' i' hq => ?_, fun x y x' y' hx hy => g2 x y x' y' ((eo _ _).mp hx) ((eo _ _).mp hy), fun q hq => by simp only [cL, cN, h1, h2]; exact g3 q hq⟩
  have hq' := (eo _ _).mp hq
  obtain ⟨f1, f2⟩ := g1 j' i' hq'
  have o8 : cown a cp j 0 := Or.inr (Or.inr (Or.inr (Or.inl ⟨hj, rfl⟩)))
  by_cases hs : j' = j
  · subst hs
    have hi0 : i' = 0 := by rcases hq' with h | h | h | h | h <;> omega
    subst hi0
    rw [cadr_ne (by omega)] at f2 ⊢
    exact ⟨hat md cp ea, f2⟩
  · rw [ho md cp ea j' i' hs]
    refine ⟨f1.kept (oq _ (fun z => hs ?_)), f2⟩
    have z2 : cadr el ea j' i' = el j 0 := z
    exact (g2 j' i' j 0 hq' o8 (by rw [z2, cadr_ne (by omega)])).1
section CLR2
variable {p : Program} {l : Launch} {e : Env} {R : Room} {s : State} {m : MethodId} {args : Array Value} {below : List Frame} {meth : Method} {c : Code} {A : Nat → Prop} {Q : State → Prop} {nL : Nat} {k n : Nat} {pc : Nat} {lv : List (Option Value)} {st : List Value} {P : Heap → Prop}
variable {cc : ByteArray} {Ts : List Cond} {own : String} {D : va_G} {ty : Nat → ClassId} {tE : Nat} {el : Nat → Nat → Nat} {a : CS}
theorem hC_at8 : ∀ H, hC D ty A tE el a H → va_at D vwCl (el 8 0, .inl (ty 1, 6, .inr (.inl a.2.2.2.1))) H := by
  rintro H ⟨md, cp, ea, g1, -⟩
  exact (g1 8 0 (Or.inr (Or.inr (Or.inr (Or.inl ⟨Or.inl rfl, rfl⟩))))).1
theorem hC_at9 : ∀ H, hC D ty A tE el a H → va_at D vwCl (el 9 0, .inl (ty 0, 6, .inl a.2.2.2.2.1)) H := by
  rintro H ⟨md, cp, ea, g1, -⟩
  exact (g1 9 0 (Or.inr (Or.inr (Or.inr (Or.inl ⟨Or.inr rfl, rfl⟩))))).1
theorem hC_A8 {j : Nat} (hj : j = 8 ∨ j = 9) : ∀ H, hC D ty A tE el a H → A (el j 0) := by
  rintro H ⟨md, cp, ea, g1, -⟩
  have := (g1 j 0 (Or.inr (Or.inr (Or.inr (Or.inl ⟨hj, rfl⟩))))).2
  rwa [cadr_ne (by omega)] at this
theorem k8_alen (S : CallFix p m c cc nL s args Ts own) (hK : gK D ty s) (hdg : decode cc pc = .ok (.arraylength, 1)) (kk : gW p l e R s m args below meth c A Q nL (hC D ty A tE el a) k n (pc + 1) lv (.int 6 :: st)) : gW p l e R s m args below meth c A Q nL (hC D ty A tE el a) k n pc lv (.ref (el 8 0) :: st) := g_alen S hK (t0 := 1) (tt := .long) hC_at8 rfl hdg kk
theorem k9_alen (S : CallFix p m c cc nL s args Ts own) (hK : gK D ty s) (hdg : decode cc pc = .ok (.arraylength, 1)) (kk : gW p l e R s m args below meth c A Q nL (hC D ty A tE el a) k n (pc + 1) lv (.int 6 :: st)) : gW p l e R s m args below meth c A Q nL (hC D ty A tE el a) k n pc lv (.ref (el 9 0) :: st) := g_alen S hK (t0 := 0) (tt := .int) hC_at9 rfl hdg kk
theorem k8_lald (S : CallFix p m c cc nL s args Ts own) (hK : gK D ty s) {i : Int32} (hin : vp_in i 6) (hdg : decode cc pc = .ok (.laload, 1)) (kk : gW p l e R s m args below meth c A Q nL (hC D ty A tE el a) k n (pc + 1) lv (.long (cA a i.toNatClampNeg) :: st)) : gW p l e R s m args below meth c A Q nL (hC D ty A tE el a) k n pc lv (.int i :: .ref (el 8 0) :: st) := g_lald S hK hC_at8 hin hdg kk
theorem k9_iald (S : CallFix p m c cc nL s args Ts own) (hK : gK D ty s) {i : Int32} (hin : vp_in i 6) (hdg : decode cc pc = .ok (.iaload, 1)) (kk : gW p l e R s m args below meth c A Q nL (hC D ty A tE el a) k n (pc + 1) lv (.int (cO a i.toNatClampNeg) :: st)) : gW p l e R s m args below meth c A Q nL (hC D ty A tE el a) k n pc lv (.int i :: .ref (el 9 0) :: st) := g_iald S hK hC_at9 hin hdg kk
theorem k8_last (S : CallFix p m c cc nL s args Ts own) (hK : gK D ty s) {i : Int32} {x : Int64} (hin : vp_in i 6) (hdg : decode cc pc = .ok (.lastore, 1)) (kk : gW p l e R s m args below meth c A Q nL (hC D ty A tE el (cSA a i x)) k n (pc + 1) lv st) : gW p l e R s m args below meth c A Q nL (hC D ty A tE el a) k n pc lv (.long x :: .int i :: .ref (el 8 0) :: st) :=
  g_last S hK (P' := hC D ty A tE el (cSA a i x)) hC_at8 (hC_A8 (Or.inl rfl)) (fun H H1 hP hat z oq => hC_put8 (Or.inl rfl) hP oq rfl rfl rfl rfl (fun _ _ _ => hat) (fun md cp ea j' i' hj => by simp only [cent, if_neg hj]; rfl)) hin hdg kk
theorem k9_iast (S : CallFix p m c cc nL s args Ts own) (hK : gK D ty s) {i x : Int32} (hin : vp_in i 6) (hdg : decode cc pc = .ok (.iastore, 1)) (kk : gW p l e R s m args below meth c A Q nL (hC D ty A tE el (cSO a i x)) k n (pc + 1) lv st) : gW p l e R s m args below meth c A Q nL (hC D ty A tE el a) k n pc lv (.int x :: .int i :: .ref (el 9 0) :: st) :=
  g_iast S hK (P' := hC D ty A tE el (cSO a i x)) hC_at9 (hC_A8 (Or.inr rfl)) (fun H H1 hP hat z oq => hC_put8 (Or.inr rfl) hP oq rfl rfl rfl rfl (fun _ _ _ => hat) (fun md cp ea j' i' hj => by simp only [cent, if_neg hj]; rfl)) hin hdg kk
theorem g_cast (S : CallFix p m c cc nL s args Ts own) (hK : gK D ty s) {index b0 ci : Nat} {q : vw_C} (hlink : (Cond.classLink own index q.1).before args s = true) (hc : vwCl[ci]? = some q) (hr : ∀ H, P H → ∃ cell : Cell, H[b0]? = some cell ∧ cell.vm.isStatics = false ∧ s.vm.findClass q.1 = some cell.cls) (hdg : decode cc pc = .ok (.checkcast index, 3))
    (kk : gW p l e R s m args below meth c A Q nL P k n (pc + 3) lv (.ref b0 :: st)) : gW p l e R s m args below meth c A Q nL P k n pc lv (.ref b0 :: st) := fun H locs ls hP hS hl => va_castS S.1 S.2.1 S.2.2.2.1 hlink (hK.1.1 ci q hc).2 (hr H hP) hdg (kk H locs ls hP hS hl)
theorem g_throwS (S : CallFix p m c cc nL s args Ts RX5) (hl : l.stackTraces = false) {cls text : String} {names : List String} {ik is ic mc ms : Nat} {PX : String → Heap → Prop} {strs : List (Nat × String)} (hcls : Bundle.fit cls = true) (hnames : ∀ n ∈ names, Bundle.fit n = true)
    (hk : (Cond.classLink RX5 ik cls).before args s = true) (hini : (Cond.initialized cls).before args s = true) (hin : ∀ w ∈ (vx_atS RX5 ic cls names).filter goodWord, w ∈ Ts) (hng : ∀ w ∈ (vx_atS RX5 ic cls names).filter (fun w => !goodWord w), w ∈ exB) (hgood : ∀ w ∈ Cond.classLink RX5 ik cls :: Cond.initialized cls :: vx_atS RX5 ic cls names, vx_ot w = true)
    (hE : gE true strs A tE s s.heap) (hstr : (is, text) ∈ strs)
    (d0 : decode cc pc = .ok (.new ik, 3)) (d3 : decode cc (pc + 3) = .ok (.dup, 1)) (d4 : decode cc (pc + 4) = .ok (.ldc is, 2)) (d6 : decode cc (pc + 6) = .ok (.invokespecial ic, 3)) (d9 : decode cc (pc + 9) = .ok (.athrow, 1))
    (hout : ∀ x ∈ c.exceptionTable.toList, False) (hst : (st.map fun v => v.category).sum = 0) (hnm : names.length = 2) (hRf : 6 ≤ R.frames ∧ 100 ≤ R.locals) (hRc : k + 1 ≤ R.cells ∧ n + 6 ≤ R.slots) (hlocks : meth.locks = false)
    (hx : ∀ H H1 : Heap, P H → H.size ≤ H1.size → (∀ q : Nat, q < H.size → H1[q]? = H[q]?) → PX cls H1) (hc : k + 1 ≤ mc) (hs : n + 6 ≤ ms) : gW p l e R s m args below meth c A (gT below A args s mc ms PX) nL P k n pc lv st := by
  intro H locs ls hP hS hL
  obtain ⟨hU, hN, hstrs, -, -, -, -, -, -, hB⟩ := hE rfl
  have hat : ∀ w ∈ vx_atS RX5 ic cls names, w.before args s = true := vx_hat (fun w hw => S.2.2.2.2 w (hin w hw)) hng (exB_use hB args)
  obtain ⟨sa, hsa⟩ := hstrs _ hstr
  exact vx_throwS S.1 S.2.1 hl S.2.2.2.1 hcls hnames hk hini hsa hat hgood hU hN hS (by rw [S.2.2.1]; exact gl_size hL) d0 d3 d4 d6 d9 (fun x hx => (hout x hx).elim) (by omega) (by omega) hRc.1 hRc.2 hlocks
    (fun t hal hz hq => ⟨hx H t.heap hP hz hq, Nat.le_trans hS.1 hz, fun q h1 h2 => (hq q (Nat.lt_of_lt_of_le h1 hS.1)).trans (hS.2.1 q h1 h2)⟩) hS.2.2 hc hs
theorem g_throwSW (S : CallFix p m c cc nL s args Ts RX5) (hl : l.stackTraces = false) {cls text : String} {names : List String} {ik is ic mc ms : Nat} {PX : String → Heap → Prop} {strs : List (Nat × String)} (hcls : Bundle.fit cls = true) (hnames : ∀ n ∈ names, Bundle.fit n = true)
    (hk : (Cond.classLink RX5 ik cls).before args s = true) (hini : (Cond.initialized cls).before args s = true) (hin : ∀ w ∈ (vx_atS RX5 ic cls names).filter goodWord, w ∈ Ts) (hng : ∀ w ∈ (vx_atS RX5 ic cls names).filter (fun w => !goodWord w), w ∈ exB) (hgood : ∀ w ∈ Cond.classLink RX5 ik cls :: Cond.initialized cls :: vx_atS RX5 ic cls names, vx_ot w = true)
    (hE : gE true strs A tE s s.heap) (hstr : (is, text) ∈ strs)
    (d0 : decode cc pc = .ok (.new ik, 3)) (d3 : decode cc (pc + 3) = .ok (.dup, 1)) (d4 : decode cc (pc + 4) = .ok (.ldc_w is, 3)) (d6 : decode cc (pc + 7) = .ok (.invokespecial ic, 3)) (d9 : decode cc (pc + 10) = .ok (.athrow, 1))
    (hout : ∀ x ∈ c.exceptionTable.toList, False) (hst : (st.map fun v => v.category).sum = 0) (hnm : names.length = 2) (hRf : 6 ≤ R.frames ∧ 100 ≤ R.locals) (hRc : k + 1 ≤ R.cells ∧ n + 6 ≤ R.slots) (hlocks : meth.locks = false)
    (hx : ∀ H H1 : Heap, P H → H.size ≤ H1.size → (∀ q : Nat, q < H.size → H1[q]? = H[q]?) → PX cls H1) (hc : k + 1 ≤ mc) (hs : n + 6 ≤ ms) : gW p l e R s m args below meth c A (gT below A args s mc ms PX) nL P k n pc lv st := by
  intro H locs ls hP hS hL
  obtain ⟨hU, hN, hstrs, -, -, -, -, -, -, hB⟩ := hE rfl
  have hat : ∀ w ∈ vx_atS RX5 ic cls names, w.before args s = true := vx_hat (fun w hw => S.2.2.2.2 w (hin w hw)) hng (exB_use hB args)
  obtain ⟨sa, hsa⟩ := hstrs _ hstr
  exact vx_throwSW S.1 S.2.1 hl S.2.2.2.1 hcls hnames hk hini hsa hat hgood hU hN hS (by rw [S.2.2.1]; exact gl_size hL) d0 d3 d4 d6 d9 (fun x hx => (hout x hx).elim) (by omega) (by omega) hRc.1 hRc.2 hlocks
    (fun t hal hz hq => ⟨hx H t.heap hP hz hq, Nat.le_trans hS.1 hz, fun q h1 h2 => (hq q (Nat.lt_of_lt_of_le h1 hS.1)).trans (hS.2.1 q h1 h2)⟩) hS.2.2 hc hs
end CLR2
