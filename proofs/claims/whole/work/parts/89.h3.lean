/-! the law's own calls, with what they catch -/
abbrev rmW (mc ms : Nat) : Room := { frames := 13, cells := mc, slots := ms, locals := 460 }
def lrow (D : va_G) (ty : Nat → ClassId) (o : Nat) (f : Nat → Int64) : Heap → Prop := fun H => va_at D vwCl (o, .inl (ty 1, 1, .inr (.inl f))) H
theorem vin_01 : vp_in 0 1 := by
  rw [vp_in_iff, i32_0]
  omega
theorem exB_in (E : String) (h : E = "java/lang/IllegalArgumentException" ∨ E = "java/lang/IllegalStateException" ∨ E = "java/lang/IndexOutOfBoundsException") : Cond.castable E E ∈ exB := by
  rcases h with rfl | rfl | rfl <;> simp [exB]
set_option maxHeartbeats 1500000 in
set_option maxRecDepth 100000 in
theorem w_silo {l : Launch} {D : va_G} {ty : Nat → ClassId} {tE x o : Nat} {f : Nat → Int64} {Ac Aw : Nat → Prop} (hsub : ∀ q, Ac q → Aw q) (ho : Aw o) (hno : ¬ Ac o) (hfr : ∀ q, Aw q → q ≠ o → Ac q) {P1 P2 : Heap → Prop} (p1 : Int32) {rm : Room} {mc ms : Nat} {v : Int32} (hM : Met l yX5_silo wsX5_silo rm (gPc D ty true cstrs tE Ac [.ref x, .int p1] P1) (gQ Ac (gRet (some (.int v)) P2)) mc ms Ac) (hrm : rm.cells = mc ∧ rm.slots = ms ∧ rm.frames ≤ 12 ∧ rm.locals ≤ 400) (hrc : ∀ {s : State}, gK D ty s → ∀ H, P1 H → ∃ cellB : Cell, H[x]? = some cellB ∧ cellB.vm.isStatics = false ∧ s.vm.findClass RX5 = some cellB.cls) (hk2 : ∀ H H1 : Heap, P2 H → (∀ q : Nat, q ≠ o → H1[q]? = H[q]?) → P2 H1) : Met l yL_silo wsL_silo (rmW mc ms) (gPc D ty true cstrs tE Aw [.ref x, .int p1, .ref o] (fun H => P1 H ∧ lrow D ty o f H)) (gQ Aw (gRet (some (.int 0)) (fun H => P2 H ∧ lrow D ty o (vp_updL f 0 v.toInt64) H))) mc ms Aw := by
  refine g_MetH (cc := cL_silo) (maxL := 4) (ret := some .int) (hh := [(0, 9, 12, 13), (0, 9, 15, 15)]) [some (.ref x), some (.int p1), some (.ref o), none] (by decide) rfl (Nat.le_of_ble_eq_true rfl) rfl ?_
  intro p e s m args below meth c S hlk hr htb hK hE hP0
  have S : CallFix p m c cL_silo 4 s args wsL_silo RL := S
  have ho9 : o < s.heap.size := hP0.2.lt
  have hE' : ∀ (H : Heap) (locs : List Loc), P1 H ∧ lrow D ty o f H → va_S Aw s.heap H locs → ∀ U : State, U.heap = H → s.WarmedH U.vm → gE true cstrs Ac tE U U.heap := fun H locs hP hS => gE_at hE hS hsub (fun q hq => hfr q ((hE rfl).2.2.2.1 q (Nat.le_trans hS.1 hq)) (Nat.ne_of_gt (Nat.lt_of_lt_of_le ho9 (Nat.le_trans hS.1 hq))))
  have hkp : ∀ H H1 : Heap, lrow D ty o f H → H.size ≤ H1.size → (∀ q : Nat, q < H.size → ¬ Ac q → H1[q]? = H[q]?) → lrow D ty o f H1 := fun H H1 h _ hq => va_at.kept h (hq o (va_at.lt h) hno)
  refine g_aload_n S dL_silo_0 rfl ?_
  refine g_iconst S (v := 0) dL_silo_1 (by decide) ?_
  refine g_aload_n S dL_silo_2 rfl ?_
  refine g_iload_n S dL_silo_3 rfl ?_
  refine g_callVX (b0 := x) (As := [.int p1]) (st := [.int 0, .ref o]) S hM (cwV 1 S.2.2.2.2 gL_silo_X5_silo rfl hrm.1 hrm.2.1 (by decide +kernel) ⟨Nat.succ_le_succ hrm.2.2.1, (by show 8 + (_ + 11) + rm.locals ≤ 460; have := hrm.2.2.2; omega)⟩) hK hsub hE' hkp (fun H h => h) (fun H h => hrc hK H h.1) rfl (Nat.le_of_ble_eq_true rfl) dL_silo_4 ⟨(by show 0 + mc ≤ mc; omega), (by show 0 + ms ≤ ms; omega)⟩ ?_
  intro r
  refine g_and (b := r = some (.int v)) (P' := fun H => P2 H ∧ lrow D ty o f H) (fun H h => ⟨h.1.1, h.1.2, h.2⟩) (fun hr9 => ?_)
  subst hr9
  refine g_i2l S dL_silo_7 ?_
  refine g_last S hK (a := o) (N' := 1) (f := f) (i := 0) (x := v.toInt64) (P' := fun H => P2 H ∧ lrow D ty o (vp_updL f 0 v.toInt64) H) (fun H h => h.2) (fun H h => ho) (fun H H1 h hat _ oq => ⟨hk2 H H1 h.1 oq, hat⟩) vin_01 dL_silo_8 ?_
  refine g_goto S (tgt := 18) dL_silo_9 (by decide) ?_
  refine g_iconst S (v := 0) dL_silo_18 (by decide) ?_
  exact g_iret S hlk hr (fun H h => ⟨rfl, h⟩) (by omega) (by omega) dL_silo_19
set_option maxHeartbeats 1500000 in
set_option maxRecDepth 100000 in
theorem x_silo_A {l : Launch} {D : va_G} {ty : Nat → ClassId} {tE x o : Nat} {f : Nat → Int64} {Ac Aw : Nat → Prop} (hsub : ∀ q, Ac q → Aw q) (ho : Aw o) (hno : ¬ Ac o) (hfr : ∀ q, Aw q → q ≠ o → Ac q) {P1 P2 : Heap → Prop} (p1 : Int32) {rm : Room} {mc ms : Nat} (hM : vx_Met l yX5_silo wsX5_silo rm (gPc D ty true cstrs tE Ac [.ref x, .int p1] P1) (gQ Ac (fun _ _ => False)) (gX Ac (fun E H => E = "java/lang/IllegalArgumentException" ∧ P2 H)) mc ms Ac) (hrm : rm.cells = mc ∧ rm.slots = ms ∧ rm.frames ≤ 12 ∧ rm.locals ≤ 400) (hrc : ∀ {s : State}, gK D ty s → ∀ H, P1 H → ∃ cellB : Cell, H[x]? = some cellB ∧ cellB.vm.isStatics = false ∧ s.vm.findClass RX5 = some cellB.cls) : Met l yL_silo wsL_silo (rmW mc ms) (gPc D ty true cstrs tE Aw [.ref x, .int p1, .ref o] (fun H => P1 H ∧ lrow D ty o f H)) (gQ Aw (gRet (some (.int 1)) (fun H => P2 H ∧ lrow D ty o f H))) mc ms Aw := by
  refine g_MetH (cc := cL_silo) (maxL := 4) (ret := some .int) (hh := [(0, 9, 12, 13), (0, 9, 15, 15)]) [some (.ref x), some (.int p1), some (.ref o), none] (by decide) rfl (Nat.le_of_ble_eq_true rfl) rfl ?_
  intro p e s m args below meth c S hlk hr htb hK hE hP0
  have S : CallFix p m c cL_silo 4 s args wsL_silo RL := S
  have ho9 : o < s.heap.size := hP0.2.lt
  have hE' : ∀ (H : Heap) (locs : List Loc), P1 H ∧ lrow D ty o f H → va_S Aw s.heap H locs → ∀ U : State, U.heap = H → s.WarmedH U.vm → gE true cstrs Ac tE U U.heap := fun H locs hP hS => gE_at hE hS hsub (fun q hq => hfr q ((hE rfl).2.2.2.1 q (Nat.le_trans hS.1 hq)) (Nat.ne_of_gt (Nat.lt_of_lt_of_le ho9 (Nat.le_trans hS.1 hq))))
  have hkp : ∀ H H1 : Heap, lrow D ty o f H → H.size ≤ H1.size → (∀ q : Nat, q < H.size → ¬ Ac q → H1[q]? = H[q]?) → lrow D ty o f H1 := fun H H1 h _ hq => va_at.kept h (hq o (va_at.lt h) hno)
  refine g_aload_n S dL_silo_0 rfl ?_
  refine g_iconst S (v := 0) dL_silo_1 (by decide) ?_
  refine g_aload_n S dL_silo_2 rfl ?_
  refine g_iload_n S dL_silo_3 rfl ?_
  refine g_tcallVX (b0 := x) (As := [.int p1]) (st := [.int 0, .ref o]) S hM (cwV 1 S.2.2.2.2 gL_silo_X5_silo rfl hrm.1 hrm.2.1 (by decide +kernel) ⟨Nat.succ_le_succ hrm.2.2.1, (by show 8 + (_ + 11) + rm.locals ≤ 460; have := hrm.2.2.2; omega)⟩) hK hsub hE' hkp (fun H h => h) (fun H h => hrc hK H h.1) rfl (Nat.le_of_ble_eq_true rfl) dL_silo_4 ⟨(by show 0 + mc ≤ mc; omega), (by show 0 + ms ≤ ms; omega)⟩ ?_
  intro E
  by_cases hE9 : E = "java/lang/IllegalArgumentException"
  · subst hE9
    refine g_catch (name := "java/lang/IllegalArgumentException") S.2.2.2.1 [] ⟨0, 9, 12, 13⟩ [⟨0, 9, 15, 15⟩] htb (fun z hz => by cases hz) (by decide) (by decide) (S.2.2.2.2 _ (List.mem_of_getElem? (i := 1) rfl)) (exB_use (hE rfl).2.2.2.2.2.2.2.2.2 args _ (exB_in _ (by simp))) ?_
    intro q
    refine g_P (P' := fun H => P2 H ∧ lrow D ty o f H) (fun H h => ⟨h.1.2, h.2⟩) ?_
    refine g_astore_n S dL_silo_12 (by decide) rfl ?_
    refine g_iconst S (v := 1) dL_silo_13 (by decide) ?_
    exact g_iret S hlk hr (fun H h => ⟨rfl, h⟩) (by omega) (by omega) dL_silo_14
  · exact g_noX (fun H h => hE9 h.1.1)
set_option maxHeartbeats 1500000 in
set_option maxRecDepth 100000 in
theorem x_silo_S {l : Launch} {D : va_G} {ty : Nat → ClassId} {tE x o : Nat} {f : Nat → Int64} {Ac Aw : Nat → Prop} (hsub : ∀ q, Ac q → Aw q) (ho : Aw o) (hno : ¬ Ac o) (hfr : ∀ q, Aw q → q ≠ o → Ac q) {P1 P2 : Heap → Prop} (p1 : Int32) {rm : Room} {mc ms : Nat} (hM : vx_Met l yX5_silo wsX5_silo rm (gPc D ty true cstrs tE Ac [.ref x, .int p1] P1) (gQ Ac (fun _ _ => False)) (gX Ac (fun E H => E = "java/lang/IllegalStateException" ∧ P2 H)) mc ms Ac) (hrm : rm.cells = mc ∧ rm.slots = ms ∧ rm.frames ≤ 12 ∧ rm.locals ≤ 400) (hrc : ∀ {s : State}, gK D ty s → ∀ H, P1 H → ∃ cellB : Cell, H[x]? = some cellB ∧ cellB.vm.isStatics = false ∧ s.vm.findClass RX5 = some cellB.cls) : Met l yL_silo wsL_silo (rmW mc ms) (gPc D ty true cstrs tE Aw [.ref x, .int p1, .ref o] (fun H => P1 H ∧ lrow D ty o f H)) (gQ Aw (gRet (some (.int 2)) (fun H => P2 H ∧ lrow D ty o f H))) mc ms Aw := by
  refine g_MetH (cc := cL_silo) (maxL := 4) (ret := some .int) (hh := [(0, 9, 12, 13), (0, 9, 15, 15)]) [some (.ref x), some (.int p1), some (.ref o), none] (by decide) rfl (Nat.le_of_ble_eq_true rfl) rfl ?_
  intro p e s m args below meth c S hlk hr htb hK hE hP0
  have S : CallFix p m c cL_silo 4 s args wsL_silo RL := S
  have ho9 : o < s.heap.size := hP0.2.lt
  have hE' : ∀ (H : Heap) (locs : List Loc), P1 H ∧ lrow D ty o f H → va_S Aw s.heap H locs → ∀ U : State, U.heap = H → s.WarmedH U.vm → gE true cstrs Ac tE U U.heap := fun H locs hP hS => gE_at hE hS hsub (fun q hq => hfr q ((hE rfl).2.2.2.1 q (Nat.le_trans hS.1 hq)) (Nat.ne_of_gt (Nat.lt_of_lt_of_le ho9 (Nat.le_trans hS.1 hq))))
  have hkp : ∀ H H1 : Heap, lrow D ty o f H → H.size ≤ H1.size → (∀ q : Nat, q < H.size → ¬ Ac q → H1[q]? = H[q]?) → lrow D ty o f H1 := fun H H1 h _ hq => va_at.kept h (hq o (va_at.lt h) hno)
  refine g_aload_n S dL_silo_0 rfl ?_
  refine g_iconst S (v := 0) dL_silo_1 (by decide) ?_
  refine g_aload_n S dL_silo_2 rfl ?_
  refine g_iload_n S dL_silo_3 rfl ?_
  refine g_tcallVX (b0 := x) (As := [.int p1]) (st := [.int 0, .ref o]) S hM (cwV 1 S.2.2.2.2 gL_silo_X5_silo rfl hrm.1 hrm.2.1 (by decide +kernel) ⟨Nat.succ_le_succ hrm.2.2.1, (by show 8 + (_ + 11) + rm.locals ≤ 460; have := hrm.2.2.2; omega)⟩) hK hsub hE' hkp (fun H h => h) (fun H h => hrc hK H h.1) rfl (Nat.le_of_ble_eq_true rfl) dL_silo_4 ⟨(by show 0 + mc ≤ mc; omega), (by show 0 + ms ≤ ms; omega)⟩ ?_
  intro E
  by_cases hE9 : E = "java/lang/IllegalStateException"
  · subst hE9
    refine g_catch (name := "java/lang/IllegalStateException") S.2.2.2.1 [⟨0, 9, 12, 13⟩] ⟨0, 9, 15, 15⟩ [] htb (fun z hz => by
      simp only [List.mem_cons, List.not_mem_nil, or_false] at hz
      subst hz
      exact Or.inr ⟨by decide, "java/lang/IllegalArgumentException", S.2.2.2.2 _ (List.mem_of_getElem? (i := 1) rfl), (hE rfl).2.2.2.2.2.2.2.2.1.2 ("java/lang/IllegalStateException", "java/lang/IllegalArgumentException") (by simp [ncB])⟩) (by decide) (by decide) (S.2.2.2.2 _ (List.mem_of_getElem? (i := 2) rfl)) (exB_use (hE rfl).2.2.2.2.2.2.2.2.2 args _ (exB_in _ (by simp))) ?_
    intro q
    refine g_P (P' := fun H => P2 H ∧ lrow D ty o f H) (fun H h => ⟨h.1.2, h.2⟩) ?_
    refine g_astore_n S dL_silo_15 (by decide) rfl ?_
    refine g_iconst S (v := 2) dL_silo_16 (by decide) ?_
    exact g_iret S hlk hr (fun H h => ⟨rfl, h⟩) (by omega) (by omega) dL_silo_17
  · exact g_noX (fun H h => hE9 h.1.1)
set_option maxHeartbeats 1500000 in
set_option maxRecDepth 100000 in
theorem w_terms {l : Launch} {D : va_G} {ty : Nat → ClassId} {tE x o : Nat} {f : Nat → Int64} {Ac Aw : Nat → Prop} (hsub : ∀ q, Ac q → Aw q) (ho : Aw o) (hno : ¬ Ac o) (hfr : ∀ q, Aw q → q ≠ o → Ac q) {P1 P2 : Heap → Prop} (p1 p2 p3 : Int32) {rm : Room} {mc ms : Nat}  (hM : Met l yX5_terms wsX5_terms rm (gPc D ty true cstrs tE Ac [.ref x, .int p1, .int p2, .int p3] P1) (gQ Ac (gRet (none) P2)) mc ms Ac) (hrm : rm.cells = mc ∧ rm.slots = ms ∧ rm.frames ≤ 12 ∧ rm.locals ≤ 400) (hrc : ∀ {s : State}, gK D ty s → ∀ H, P1 H → ∃ cellB : Cell, H[x]? = some cellB ∧ cellB.vm.isStatics = false ∧ s.vm.findClass RX5 = some cellB.cls)  : Met l yL_terms wsL_terms (rmW mc ms) (gPc D ty true cstrs tE Aw [.ref x, .int p1, .int p2, .int p3] (fun H => P1 H ∧ lrow D ty o f H)) (gQ Aw (gRet (some (.int 0)) (fun H => P2 H ∧ lrow D ty o f H))) mc ms Aw := by
  refine g_MetH (cc := cL_terms) (maxL := 5) (ret := some .int) (hh := [(0, 7, 10, 13)]) [some (.ref x), some (.int p1), some (.int p2), some (.int p3), none] (by decide) rfl (Nat.le_of_ble_eq_true rfl) rfl ?_
  intro p e s m args below meth c S hlk hr htb hK hE hP0
  have S : CallFix p m c cL_terms 5 s args wsL_terms RL := S
  have ho9 : o < s.heap.size := hP0.2.lt
  have hE' : ∀ (H : Heap) (locs : List Loc), P1 H ∧ lrow D ty o f H → va_S Aw s.heap H locs → ∀ U : State, U.heap = H → s.WarmedH U.vm → gE true cstrs Ac tE U U.heap := fun H locs hP hS => gE_at hE hS hsub (fun q hq => hfr q ((hE rfl).2.2.2.1 q (Nat.le_trans hS.1 hq)) (Nat.ne_of_gt (Nat.lt_of_lt_of_le ho9 (Nat.le_trans hS.1 hq))))
  have hkp : ∀ H H1 : Heap, lrow D ty o f H → H.size ≤ H1.size → (∀ q : Nat, q < H.size → ¬ Ac q → H1[q]? = H[q]?) → lrow D ty o f H1 := fun H H1 h _ hq => va_at.kept h (hq o (va_at.lt h) hno)
  refine g_aload_n S dL_terms_0 rfl ?_
  refine g_iload_n S dL_terms_1 rfl ?_
  refine g_iload_n S dL_terms_2 rfl ?_
  refine g_iload_n S dL_terms_3 rfl ?_
  refine g_callVX (b0 := x) (As := [.int p1, .int p2, .int p3]) (st := []) S hM (cwV 3 S.2.2.2.2 gL_terms_X5_terms rfl hrm.1 hrm.2.1 (by decide +kernel) ⟨Nat.succ_le_succ hrm.2.2.1, (by show 8 + (_ + 11) + rm.locals ≤ 460; have := hrm.2.2.2; omega)⟩) hK hsub hE' hkp (fun H h => h) (fun H h => hrc hK H h.1) rfl (Nat.le_of_ble_eq_true rfl) dL_terms_4 ⟨(by show 0 + mc ≤ mc; omega), (by show 0 + ms ≤ ms; omega)⟩ ?_
  intro r
  refine g_and (b := r = none) (P' := fun H => P2 H ∧ lrow D ty o f H) (fun H h => ⟨h.1.1, h.1.2, h.2⟩) (fun hr9 => ?_)
  subst hr9
  refine g_goto S (tgt := 14) dL_terms_7 (by decide) ?_
  refine g_iconst S (v := 0) dL_terms_14 (by decide) ?_
  exact g_iret S hlk hr (fun H h => ⟨rfl, h⟩) (by omega) (by omega) dL_terms_15
set_option maxHeartbeats 1500000 in
set_option maxRecDepth 100000 in
theorem x_terms_A {l : Launch} {D : va_G} {ty : Nat → ClassId} {tE x o : Nat} {f : Nat → Int64} {Ac Aw : Nat → Prop} (hsub : ∀ q, Ac q → Aw q) (ho : Aw o) (hno : ¬ Ac o) (hfr : ∀ q, Aw q → q ≠ o → Ac q) {P1 P2 : Heap → Prop} (p1 p2 p3 : Int32) {rm : Room} {mc ms : Nat} (hM : vx_Met l yX5_terms wsX5_terms rm (gPc D ty true cstrs tE Ac [.ref x, .int p1, .int p2, .int p3] P1) (gQ Ac (fun _ _ => False)) (gX Ac (fun E H => E = "java/lang/IllegalArgumentException" ∧ P2 H)) mc ms Ac) (hrm : rm.cells = mc ∧ rm.slots = ms ∧ rm.frames ≤ 12 ∧ rm.locals ≤ 400) (hrc : ∀ {s : State}, gK D ty s → ∀ H, P1 H → ∃ cellB : Cell, H[x]? = some cellB ∧ cellB.vm.isStatics = false ∧ s.vm.findClass RX5 = some cellB.cls) : Met l yL_terms wsL_terms (rmW mc ms) (gPc D ty true cstrs tE Aw [.ref x, .int p1, .int p2, .int p3] (fun H => P1 H ∧ lrow D ty o f H)) (gQ Aw (gRet (some (.int 1)) (fun H => P2 H ∧ lrow D ty o f H))) mc ms Aw := by
  refine g_MetH (cc := cL_terms) (maxL := 5) (ret := some .int) (hh := [(0, 7, 10, 13)]) [some (.ref x), some (.int p1), some (.int p2), some (.int p3), none] (by decide) rfl (Nat.le_of_ble_eq_true rfl) rfl ?_
  intro p e s m args below meth c S hlk hr htb hK hE hP0
  have S : CallFix p m c cL_terms 5 s args wsL_terms RL := S
  have ho9 : o < s.heap.size := hP0.2.lt
  have hE' : ∀ (H : Heap) (locs : List Loc), P1 H ∧ lrow D ty o f H → va_S Aw s.heap H locs → ∀ U : State, U.heap = H → s.WarmedH U.vm → gE true cstrs Ac tE U U.heap := fun H locs hP hS => gE_at hE hS hsub (fun q hq => hfr q ((hE rfl).2.2.2.1 q (Nat.le_trans hS.1 hq)) (Nat.ne_of_gt (Nat.lt_of_lt_of_le ho9 (Nat.le_trans hS.1 hq))))
  have hkp : ∀ H H1 : Heap, lrow D ty o f H → H.size ≤ H1.size → (∀ q : Nat, q < H.size → ¬ Ac q → H1[q]? = H[q]?) → lrow D ty o f H1 := fun H H1 h _ hq => va_at.kept h (hq o (va_at.lt h) hno)
  refine g_aload_n S dL_terms_0 rfl ?_
  refine g_iload_n S dL_terms_1 rfl ?_
  refine g_iload_n S dL_terms_2 rfl ?_
  refine g_iload_n S dL_terms_3 rfl ?_
  refine g_tcallVX (b0 := x) (As := [.int p1, .int p2, .int p3]) (st := []) S hM (cwV 3 S.2.2.2.2 gL_terms_X5_terms rfl hrm.1 hrm.2.1 (by decide +kernel) ⟨Nat.succ_le_succ hrm.2.2.1, (by show 8 + (_ + 11) + rm.locals ≤ 460; have := hrm.2.2.2; omega)⟩) hK hsub hE' hkp (fun H h => h) (fun H h => hrc hK H h.1) rfl (Nat.le_of_ble_eq_true rfl) dL_terms_4 ⟨(by show 0 + mc ≤ mc; omega), (by show 0 + ms ≤ ms; omega)⟩ ?_
  intro E
  by_cases hE9 : E = "java/lang/IllegalArgumentException"
  · subst hE9
    refine g_catch (name := "java/lang/IllegalArgumentException") S.2.2.2.1 [] ⟨0, 7, 10, 13⟩ [] htb (fun z hz => by cases hz) (by decide) (by decide) (S.2.2.2.2 _ (List.mem_of_getElem? (i := 1) rfl)) (exB_use (hE rfl).2.2.2.2.2.2.2.2.2 args _ (exB_in _ (by simp))) ?_
    intro q
    refine g_P (P' := fun H => P2 H ∧ lrow D ty o f H) (fun H h => ⟨h.1.2, h.2⟩) ?_
    refine g_astore S dL_terms_10 (by decide) rfl ?_
    refine g_iconst S (v := 1) dL_terms_12 (by decide) ?_
    exact g_iret S hlk hr (fun H h => ⟨rfl, h⟩) (by omega) (by omega) dL_terms_13
  · exact g_noX (fun H h => hE9 h.1.1)
set_option maxHeartbeats 1500000 in
set_option maxRecDepth 100000 in
theorem w_deliver {l : Launch} {D : va_G} {ty : Nat → ClassId} {tE x o : Nat} {f : Nat → Int64} {Ac Aw : Nat → Prop} (hsub : ∀ q, Ac q → Aw q) (ho : Aw o) (hno : ¬ Ac o) (hfr : ∀ q, Aw q → q ≠ o → Ac q) {P1 P2 : Heap → Prop} (p1 p2 p3 p4 : Int32) {rm : Room} {mc ms : Nat} {v : Int32} (hM : Met l yX5_deliver wsX5_deliver rm (gPc D ty true cstrs tE Ac [.ref x, .int p1, .int p2, .int p3, .int p4] P1) (gQ Ac (gRet (some (.int v)) P2)) mc ms Ac) (hrm : rm.cells = mc ∧ rm.slots = ms ∧ rm.frames ≤ 12 ∧ rm.locals ≤ 400) (hrc : ∀ {s : State}, gK D ty s → ∀ H, P1 H → ∃ cellB : Cell, H[x]? = some cellB ∧ cellB.vm.isStatics = false ∧ s.vm.findClass RX5 = some cellB.cls) (hk2 : ∀ H H1 : Heap, P2 H → (∀ q : Nat, q ≠ o → H1[q]? = H[q]?) → P2 H1) : Met l yL_deliver wsL_deliver (rmW mc ms) (gPc D ty true cstrs tE Aw [.ref x, .int p1, .int p2, .int p3, .int p4, .ref o] (fun H => P1 H ∧ lrow D ty o f H)) (gQ Aw (gRet (some (.int 0)) (fun H => P2 H ∧ lrow D ty o (vp_updL f 0 v.toInt64) H))) mc ms Aw := by
  refine g_MetH (cc := cL_deliver) (maxL := 7) (ret := some .int) (hh := [(0, 14, 17, 13), (0, 14, 21, 15)]) [some (.ref x), some (.int p1), some (.int p2), some (.int p3), some (.int p4), some (.ref o), none] (by decide) rfl (Nat.le_of_ble_eq_true rfl) rfl ?_
  intro p e s m args below meth c S hlk hr htb hK hE hP0
  have S : CallFix p m c cL_deliver 7 s args wsL_deliver RL := S
  have ho9 : o < s.heap.size := hP0.2.lt
  have hE' : ∀ (H : Heap) (locs : List Loc), P1 H ∧ lrow D ty o f H → va_S Aw s.heap H locs → ∀ U : State, U.heap = H → s.WarmedH U.vm → gE true cstrs Ac tE U U.heap := fun H locs hP hS => gE_at hE hS hsub (fun q hq => hfr q ((hE rfl).2.2.2.1 q (Nat.le_trans hS.1 hq)) (Nat.ne_of_gt (Nat.lt_of_lt_of_le ho9 (Nat.le_trans hS.1 hq))))
  have hkp : ∀ H H1 : Heap, lrow D ty o f H → H.size ≤ H1.size → (∀ q : Nat, q < H.size → ¬ Ac q → H1[q]? = H[q]?) → lrow D ty o f H1 := fun H H1 h _ hq => va_at.kept h (hq o (va_at.lt h) hno)
  refine g_aload S dL_deliver_0 rfl ?_
  refine g_iconst S (v := 0) dL_deliver_2 (by decide) ?_
  refine g_aload_n S dL_deliver_3 rfl ?_
  refine g_iload_n S dL_deliver_4 rfl ?_
  refine g_iload_n S dL_deliver_5 rfl ?_
  refine g_iload_n S dL_deliver_6 rfl ?_
  refine g_iload S dL_deliver_7 rfl ?_
  refine g_callVX (b0 := x) (As := [.int p1, .int p2, .int p3, .int p4]) (st := [.int 0, .ref o]) S hM (cwV 4 S.2.2.2.2 gL_deliver_X5_deliver rfl hrm.1 hrm.2.1 (by decide +kernel) ⟨Nat.succ_le_succ hrm.2.2.1, (by show 8 + (_ + 11) + rm.locals ≤ 460; have := hrm.2.2.2; omega)⟩) hK hsub hE' hkp (fun H h => h) (fun H h => hrc hK H h.1) rfl (Nat.le_of_ble_eq_true rfl) dL_deliver_9 ⟨(by show 0 + mc ≤ mc; omega), (by show 0 + ms ≤ ms; omega)⟩ ?_
  intro r
  refine g_and (b := r = some (.int v)) (P' := fun H => P2 H ∧ lrow D ty o f H) (fun H h => ⟨h.1.1, h.1.2, h.2⟩) (fun hr9 => ?_)
  subst hr9
  refine g_i2l S dL_deliver_12 ?_
  refine g_last S hK (a := o) (N' := 1) (f := f) (i := 0) (x := v.toInt64) (P' := fun H => P2 H ∧ lrow D ty o (vp_updL f 0 v.toInt64) H) (fun H h => h.2) (fun H h => ho) (fun H H1 h hat _ oq => ⟨hk2 H H1 h.1 oq, hat⟩) vin_01 dL_deliver_13 ?_
  refine g_goto S (tgt := 25) dL_deliver_14 (by decide) ?_
  refine g_iconst S (v := 0) dL_deliver_25 (by decide) ?_
  exact g_iret S hlk hr (fun H h => ⟨rfl, h⟩) (by omega) (by omega) dL_deliver_26
set_option maxHeartbeats 1500000 in
set_option maxRecDepth 100000 in
theorem x_deliver_A {l : Launch} {D : va_G} {ty : Nat → ClassId} {tE x o : Nat} {f : Nat → Int64} {Ac Aw : Nat → Prop} (hsub : ∀ q, Ac q → Aw q) (ho : Aw o) (hno : ¬ Ac o) (hfr : ∀ q, Aw q → q ≠ o → Ac q) {P1 P2 : Heap → Prop} (p1 p2 p3 p4 : Int32) {rm : Room} {mc ms : Nat} (hM : vx_Met l yX5_deliver wsX5_deliver rm (gPc D ty true cstrs tE Ac [.ref x, .int p1, .int p2, .int p3, .int p4] P1) (gQ Ac (fun _ _ => False)) (gX Ac (fun E H => E = "java/lang/IllegalArgumentException" ∧ P2 H)) mc ms Ac) (hrm : rm.cells = mc ∧ rm.slots = ms ∧ rm.frames ≤ 12 ∧ rm.locals ≤ 400) (hrc : ∀ {s : State}, gK D ty s → ∀ H, P1 H → ∃ cellB : Cell, H[x]? = some cellB ∧ cellB.vm.isStatics = false ∧ s.vm.findClass RX5 = some cellB.cls) : Met l yL_deliver wsL_deliver (rmW mc ms) (gPc D ty true cstrs tE Aw [.ref x, .int p1, .int p2, .int p3, .int p4, .ref o] (fun H => P1 H ∧ lrow D ty o f H)) (gQ Aw (gRet (some (.int 1)) (fun H => P2 H ∧ lrow D ty o f H))) mc ms Aw := by
  refine g_MetH (cc := cL_deliver) (maxL := 7) (ret := some .int) (hh := [(0, 14, 17, 13), (0, 14, 21, 15)]) [some (.ref x), some (.int p1), some (.int p2), some (.int p3), some (.int p4), some (.ref o), none] (by decide) rfl (Nat.le_of_ble_eq_true rfl) rfl ?_
  intro p e s m args below meth c S hlk hr htb hK hE hP0
  have S : CallFix p m c cL_deliver 7 s args wsL_deliver RL := S
  have ho9 : o < s.heap.size := hP0.2.lt
  have hE' : ∀ (H : Heap) (locs : List Loc), P1 H ∧ lrow D ty o f H → va_S Aw s.heap H locs → ∀ U : State, U.heap = H → s.WarmedH U.vm → gE true cstrs Ac tE U U.heap := fun H locs hP hS => gE_at hE hS hsub (fun q hq => hfr q ((hE rfl).2.2.2.1 q (Nat.le_trans hS.1 hq)) (Nat.ne_of_gt (Nat.lt_of_lt_of_le ho9 (Nat.le_trans hS.1 hq))))
  have hkp : ∀ H H1 : Heap, lrow D ty o f H → H.size ≤ H1.size → (∀ q : Nat, q < H.size → ¬ Ac q → H1[q]? = H[q]?) → lrow D ty o f H1 := fun H H1 h _ hq => va_at.kept h (hq o (va_at.lt h) hno)
  refine g_aload S dL_deliver_0 rfl ?_
  refine g_iconst S (v := 0) dL_deliver_2 (by decide) ?_
  refine g_aload_n S dL_deliver_3 rfl ?_
  refine g_iload_n S dL_deliver_4 rfl ?_
  refine g_iload_n S dL_deliver_5 rfl ?_
  refine g_iload_n S dL_deliver_6 rfl ?_
  refine g_iload S dL_deliver_7 rfl ?_
  refine g_tcallVX (b0 := x) (As := [.int p1, .int p2, .int p3, .int p4]) (st := [.int 0, .ref o]) S hM (cwV 4 S.2.2.2.2 gL_deliver_X5_deliver rfl hrm.1 hrm.2.1 (by decide +kernel) ⟨Nat.succ_le_succ hrm.2.2.1, (by show 8 + (_ + 11) + rm.locals ≤ 460; have := hrm.2.2.2; omega)⟩) hK hsub hE' hkp (fun H h => h) (fun H h => hrc hK H h.1) rfl (Nat.le_of_ble_eq_true rfl) dL_deliver_9 ⟨(by show 0 + mc ≤ mc; omega), (by show 0 + ms ≤ ms; omega)⟩ ?_
  intro E
  by_cases hE9 : E = "java/lang/IllegalArgumentException"
  · subst hE9
    refine g_catch (name := "java/lang/IllegalArgumentException") S.2.2.2.1 [] ⟨0, 14, 17, 13⟩ [⟨0, 14, 21, 15⟩] htb (fun z hz => by cases hz) (by decide) (by decide) (S.2.2.2.2 _ (List.mem_of_getElem? (i := 1) rfl)) (exB_use (hE rfl).2.2.2.2.2.2.2.2.2 args _ (exB_in _ (by simp))) ?_
    intro q
    refine g_P (P' := fun H => P2 H ∧ lrow D ty o f H) (fun H h => ⟨h.1.2, h.2⟩) ?_
    refine g_astore S dL_deliver_17 (by decide) rfl ?_
    refine g_iconst S (v := 1) dL_deliver_19 (by decide) ?_
    exact g_iret S hlk hr (fun H h => ⟨rfl, h⟩) (by omega) (by omega) dL_deliver_20
  · exact g_noX (fun H h => hE9 h.1.1)
set_option maxHeartbeats 1500000 in
set_option maxRecDepth 100000 in
theorem x_deliver_S {l : Launch} {D : va_G} {ty : Nat → ClassId} {tE x o : Nat} {f : Nat → Int64} {Ac Aw : Nat → Prop} (hsub : ∀ q, Ac q → Aw q) (ho : Aw o) (hno : ¬ Ac o) (hfr : ∀ q, Aw q → q ≠ o → Ac q) {P1 P2 : Heap → Prop} (p1 p2 p3 p4 : Int32) {rm : Room} {mc ms : Nat} (hM : vx_Met l yX5_deliver wsX5_deliver rm (gPc D ty true cstrs tE Ac [.ref x, .int p1, .int p2, .int p3, .int p4] P1) (gQ Ac (fun _ _ => False)) (gX Ac (fun E H => E = "java/lang/IllegalStateException" ∧ P2 H)) mc ms Ac) (hrm : rm.cells = mc ∧ rm.slots = ms ∧ rm.frames ≤ 12 ∧ rm.locals ≤ 400) (hrc : ∀ {s : State}, gK D ty s → ∀ H, P1 H → ∃ cellB : Cell, H[x]? = some cellB ∧ cellB.vm.isStatics = false ∧ s.vm.findClass RX5 = some cellB.cls) : Met l yL_deliver wsL_deliver (rmW mc ms) (gPc D ty true cstrs tE Aw [.ref x, .int p1, .int p2, .int p3, .int p4, .ref o] (fun H => P1 H ∧ lrow D ty o f H)) (gQ Aw (gRet (some (.int 2)) (fun H => P2 H ∧ lrow D ty o f H))) mc ms Aw := by
  refine g_MetH (cc := cL_deliver) (maxL := 7) (ret := some .int) (hh := [(0, 14, 17, 13), (0, 14, 21, 15)]) [some (.ref x), some (.int p1), some (.int p2), some (.int p3), some (.int p4), some (.ref o), none] (by decide) rfl (Nat.le_of_ble_eq_true rfl) rfl ?_
  intro p e s m args below meth c S hlk hr htb hK hE hP0
  have S : CallFix p m c cL_deliver 7 s args wsL_deliver RL := S
  have ho9 : o < s.heap.size := hP0.2.lt
  have hE' : ∀ (H : Heap) (locs : List Loc), P1 H ∧ lrow D ty o f H → va_S Aw s.heap H locs → ∀ U : State, U.heap = H → s.WarmedH U.vm → gE true cstrs Ac tE U U.heap := fun H locs hP hS => gE_at hE hS hsub (fun q hq => hfr q ((hE rfl).2.2.2.1 q (Nat.le_trans hS.1 hq)) (Nat.ne_of_gt (Nat.lt_of_lt_of_le ho9 (Nat.le_trans hS.1 hq))))
  have hkp : ∀ H H1 : Heap, lrow D ty o f H → H.size ≤ H1.size → (∀ q : Nat, q < H.size → ¬ Ac q → H1[q]? = H[q]?) → lrow D ty o f H1 := fun H H1 h _ hq => va_at.kept h (hq o (va_at.lt h) hno)
  refine g_aload S dL_deliver_0 rfl ?_
  refine g_iconst S (v := 0) dL_deliver_2 (by decide) ?_
  refine g_aload_n S dL_deliver_3 rfl ?_
  refine g_iload_n S dL_deliver_4 rfl ?_
  refine g_iload_n S dL_deliver_5 rfl ?_
  refine g_iload_n S dL_deliver_6 rfl ?_
  refine g_iload S dL_deliver_7 rfl ?_
  refine g_tcallVX (b0 := x) (As := [.int p1, .int p2, .int p3, .int p4]) (st := [.int 0, .ref o]) S hM (cwV 4 S.2.2.2.2 gL_deliver_X5_deliver rfl hrm.1 hrm.2.1 (by decide +kernel) ⟨Nat.succ_le_succ hrm.2.2.1, (by show 8 + (_ + 11) + rm.locals ≤ 460; have := hrm.2.2.2; omega)⟩) hK hsub hE' hkp (fun H h => h) (fun H h => hrc hK H h.1) rfl (Nat.le_of_ble_eq_true rfl) dL_deliver_9 ⟨(by show 0 + mc ≤ mc; omega), (by show 0 + ms ≤ ms; omega)⟩ ?_
  intro E
  by_cases hE9 : E = "java/lang/IllegalStateException"
  · subst hE9
    refine g_catch (name := "java/lang/IllegalStateException") S.2.2.2.1 [⟨0, 14, 17, 13⟩] ⟨0, 14, 21, 15⟩ [] htb (fun z hz => by
      simp only [List.mem_cons, List.not_mem_nil, or_false] at hz
      subst hz
      exact Or.inr ⟨by decide, "java/lang/IllegalArgumentException", S.2.2.2.2 _ (List.mem_of_getElem? (i := 1) rfl), (hE rfl).2.2.2.2.2.2.2.2.1.2 ("java/lang/IllegalStateException", "java/lang/IllegalArgumentException") (by simp [ncB])⟩) (by decide) (by decide) (S.2.2.2.2 _ (List.mem_of_getElem? (i := 2) rfl)) (exB_use (hE rfl).2.2.2.2.2.2.2.2.2 args _ (exB_in _ (by simp))) ?_
    intro q
    refine g_P (P' := fun H => P2 H ∧ lrow D ty o f H) (fun H h => ⟨h.1.2, h.2⟩) ?_
    refine g_astore S dL_deliver_21 (by decide) rfl ?_
    refine g_iconst S (v := 2) dL_deliver_23 (by decide) ?_
    exact g_iret S hlk hr (fun H h => ⟨rfl, h⟩) (by omega) (by omega) dL_deliver_24
  · exact g_noX (fun H h => hE9 h.1.1)
set_option maxHeartbeats 1500000 in
set_option maxRecDepth 100000 in
theorem w_split {l : Launch} {D : va_G} {ty : Nat → ClassId} {tE x o : Nat} {f : Nat → Int64} {Ac Aw : Nat → Prop} (hsub : ∀ q, Ac q → Aw q) (ho : Aw o) (hno : ¬ Ac o) (hfr : ∀ q, Aw q → q ≠ o → Ac q) {P1 P2 : Heap → Prop} (p1 p2 : Int32) {rm : Room} {mc ms : Nat} {v : Int32} (hM : Met l yX5_split wsX5_split rm (gPc D ty true cstrs tE Ac [.ref x, .int p1, .int p2] P1) (gQ Ac (gRet (some (.int v)) P2)) mc ms Ac) (hrm : rm.cells = mc ∧ rm.slots = ms ∧ rm.frames ≤ 12 ∧ rm.locals ≤ 400) (hrc : ∀ {s : State}, gK D ty s → ∀ H, P1 H → ∃ cellB : Cell, H[x]? = some cellB ∧ cellB.vm.isStatics = false ∧ s.vm.findClass RX5 = some cellB.cls) (hk2 : ∀ H H1 : Heap, P2 H → (∀ q : Nat, q ≠ o → H1[q]? = H[q]?) → P2 H1) : Met l yL_split wsL_split (rmW mc ms) (gPc D ty true cstrs tE Aw [.ref x, .int p1, .int p2, .ref o] (fun H => P1 H ∧ lrow D ty o f H)) (gQ Aw (gRet (some (.int 0)) (fun H => P2 H ∧ lrow D ty o (vp_updL f 0 v.toInt64) H))) mc ms Aw := by
  refine g_MetH (cc := cL_split) (maxL := 5) (ret := some .int) (hh := [(0, 10, 13, 29), (0, 10, 17, 13), (0, 10, 21, 15)]) [some (.ref x), some (.int p1), some (.int p2), some (.ref o), none] (by decide) rfl (Nat.le_of_ble_eq_true rfl) rfl ?_
  intro p e s m args below meth c S hlk hr htb hK hE hP0
  have S : CallFix p m c cL_split 5 s args wsL_split RL := S
  have ho9 : o < s.heap.size := hP0.2.lt
  have hE' : ∀ (H : Heap) (locs : List Loc), P1 H ∧ lrow D ty o f H → va_S Aw s.heap H locs → ∀ U : State, U.heap = H → s.WarmedH U.vm → gE true cstrs Ac tE U U.heap := fun H locs hP hS => gE_at hE hS hsub (fun q hq => hfr q ((hE rfl).2.2.2.1 q (Nat.le_trans hS.1 hq)) (Nat.ne_of_gt (Nat.lt_of_lt_of_le ho9 (Nat.le_trans hS.1 hq))))
  have hkp : ∀ H H1 : Heap, lrow D ty o f H → H.size ≤ H1.size → (∀ q : Nat, q < H.size → ¬ Ac q → H1[q]? = H[q]?) → lrow D ty o f H1 := fun H H1 h _ hq => va_at.kept h (hq o (va_at.lt h) hno)
  refine g_aload_n S dL_split_0 rfl ?_
  refine g_iconst S (v := 0) dL_split_1 (by decide) ?_
  refine g_aload_n S dL_split_2 rfl ?_
  refine g_iload_n S dL_split_3 rfl ?_
  refine g_iload_n S dL_split_4 rfl ?_
  refine g_callVX (b0 := x) (As := [.int p1, .int p2]) (st := [.int 0, .ref o]) S hM (cwV 2 S.2.2.2.2 gL_split_X5_split rfl hrm.1 hrm.2.1 (by decide +kernel) ⟨Nat.succ_le_succ hrm.2.2.1, (by show 8 + (_ + 11) + rm.locals ≤ 460; have := hrm.2.2.2; omega)⟩) hK hsub hE' hkp (fun H h => h) (fun H h => hrc hK H h.1) rfl (Nat.le_of_ble_eq_true rfl) dL_split_5 ⟨(by show 0 + mc ≤ mc; omega), (by show 0 + ms ≤ ms; omega)⟩ ?_
  intro r
  refine g_and (b := r = some (.int v)) (P' := fun H => P2 H ∧ lrow D ty o f H) (fun H h => ⟨h.1.1, h.1.2, h.2⟩) (fun hr9 => ?_)
  subst hr9
  refine g_i2l S dL_split_8 ?_
  refine g_last S hK (a := o) (N' := 1) (f := f) (i := 0) (x := v.toInt64) (P' := fun H => P2 H ∧ lrow D ty o (vp_updL f 0 v.toInt64) H) (fun H h => h.2) (fun H h => ho) (fun H H1 h hat _ oq => ⟨hk2 H H1 h.1 oq, hat⟩) vin_01 dL_split_9 ?_
  refine g_goto S (tgt := 25) dL_split_10 (by decide) ?_
  refine g_iconst S (v := 0) dL_split_25 (by decide) ?_
  exact g_iret S hlk hr (fun H h => ⟨rfl, h⟩) (by omega) (by omega) dL_split_26
set_option maxHeartbeats 1500000 in
set_option maxRecDepth 100000 in
theorem x_split_B {l : Launch} {D : va_G} {ty : Nat → ClassId} {tE x o : Nat} {f : Nat → Int64} {Ac Aw : Nat → Prop} (hsub : ∀ q, Ac q → Aw q) (ho : Aw o) (hno : ¬ Ac o) (hfr : ∀ q, Aw q → q ≠ o → Ac q) {P1 P2 : Heap → Prop} (p1 p2 : Int32) {rm : Room} {mc ms : Nat} (hM : vx_Met l yX5_split wsX5_split rm (gPc D ty true cstrs tE Ac [.ref x, .int p1, .int p2] P1) (gQ Ac (fun _ _ => False)) (gX Ac (fun E H => E = "java/lang/IndexOutOfBoundsException" ∧ P2 H)) mc ms Ac) (hrm : rm.cells = mc ∧ rm.slots = ms ∧ rm.frames ≤ 12 ∧ rm.locals ≤ 400) (hrc : ∀ {s : State}, gK D ty s → ∀ H, P1 H → ∃ cellB : Cell, H[x]? = some cellB ∧ cellB.vm.isStatics = false ∧ s.vm.findClass RX5 = some cellB.cls) : Met l yL_split wsL_split (rmW mc ms) (gPc D ty true cstrs tE Aw [.ref x, .int p1, .int p2, .ref o] (fun H => P1 H ∧ lrow D ty o f H)) (gQ Aw (gRet (some (.int 1)) (fun H => P2 H ∧ lrow D ty o f H))) mc ms Aw := by
  refine g_MetH (cc := cL_split) (maxL := 5) (ret := some .int) (hh := [(0, 10, 13, 29), (0, 10, 17, 13), (0, 10, 21, 15)]) [some (.ref x), some (.int p1), some (.int p2), some (.ref o), none] (by decide) rfl (Nat.le_of_ble_eq_true rfl) rfl ?_
  intro p e s m args below meth c S hlk hr htb hK hE hP0
  have S : CallFix p m c cL_split 5 s args wsL_split RL := S
  have ho9 : o < s.heap.size := hP0.2.lt
  have hE' : ∀ (H : Heap) (locs : List Loc), P1 H ∧ lrow D ty o f H → va_S Aw s.heap H locs → ∀ U : State, U.heap = H → s.WarmedH U.vm → gE true cstrs Ac tE U U.heap := fun H locs hP hS => gE_at hE hS hsub (fun q hq => hfr q ((hE rfl).2.2.2.1 q (Nat.le_trans hS.1 hq)) (Nat.ne_of_gt (Nat.lt_of_lt_of_le ho9 (Nat.le_trans hS.1 hq))))
  have hkp : ∀ H H1 : Heap, lrow D ty o f H → H.size ≤ H1.size → (∀ q : Nat, q < H.size → ¬ Ac q → H1[q]? = H[q]?) → lrow D ty o f H1 := fun H H1 h _ hq => va_at.kept h (hq o (va_at.lt h) hno)
  refine g_aload_n S dL_split_0 rfl ?_
  refine g_iconst S (v := 0) dL_split_1 (by decide) ?_
  refine g_aload_n S dL_split_2 rfl ?_
  refine g_iload_n S dL_split_3 rfl ?_
  refine g_iload_n S dL_split_4 rfl ?_
  refine g_tcallVX (b0 := x) (As := [.int p1, .int p2]) (st := [.int 0, .ref o]) S hM (cwV 2 S.2.2.2.2 gL_split_X5_split rfl hrm.1 hrm.2.1 (by decide +kernel) ⟨Nat.succ_le_succ hrm.2.2.1, (by show 8 + (_ + 11) + rm.locals ≤ 460; have := hrm.2.2.2; omega)⟩) hK hsub hE' hkp (fun H h => h) (fun H h => hrc hK H h.1) rfl (Nat.le_of_ble_eq_true rfl) dL_split_5 ⟨(by show 0 + mc ≤ mc; omega), (by show 0 + ms ≤ ms; omega)⟩ ?_
  intro E
  by_cases hE9 : E = "java/lang/IndexOutOfBoundsException"
  · subst hE9
    refine g_catch (name := "java/lang/IndexOutOfBoundsException") S.2.2.2.1 [] ⟨0, 10, 13, 29⟩ [⟨0, 10, 17, 13⟩, ⟨0, 10, 21, 15⟩] htb (fun z hz => by cases hz) (by decide) (by decide) (S.2.2.2.2 _ (List.mem_of_getElem? (i := 1) rfl)) (exB_use (hE rfl).2.2.2.2.2.2.2.2.2 args _ (exB_in _ (by simp))) ?_
    intro q
    refine g_P (P' := fun H => P2 H ∧ lrow D ty o f H) (fun H h => ⟨h.1.2, h.2⟩) ?_
    refine g_astore S dL_split_13 (by decide) rfl ?_
    refine g_iconst S (v := 1) dL_split_15 (by decide) ?_
    exact g_iret S hlk hr (fun H h => ⟨rfl, h⟩) (by omega) (by omega) dL_split_16
  · exact g_noX (fun H h => hE9 h.1.1)
set_option maxHeartbeats 1500000 in
set_option maxRecDepth 100000 in
theorem x_split_A {l : Launch} {D : va_G} {ty : Nat → ClassId} {tE x o : Nat} {f : Nat → Int64} {Ac Aw : Nat → Prop} (hsub : ∀ q, Ac q → Aw q) (ho : Aw o) (hno : ¬ Ac o) (hfr : ∀ q, Aw q → q ≠ o → Ac q) {P1 P2 : Heap → Prop} (p1 p2 : Int32) {rm : Room} {mc ms : Nat} (hM : vx_Met l yX5_split wsX5_split rm (gPc D ty true cstrs tE Ac [.ref x, .int p1, .int p2] P1) (gQ Ac (fun _ _ => False)) (gX Ac (fun E H => E = "java/lang/IllegalArgumentException" ∧ P2 H)) mc ms Ac) (hrm : rm.cells = mc ∧ rm.slots = ms ∧ rm.frames ≤ 12 ∧ rm.locals ≤ 400) (hrc : ∀ {s : State}, gK D ty s → ∀ H, P1 H → ∃ cellB : Cell, H[x]? = some cellB ∧ cellB.vm.isStatics = false ∧ s.vm.findClass RX5 = some cellB.cls) : Met l yL_split wsL_split (rmW mc ms) (gPc D ty true cstrs tE Aw [.ref x, .int p1, .int p2, .ref o] (fun H => P1 H ∧ lrow D ty o f H)) (gQ Aw (gRet (some (.int 2)) (fun H => P2 H ∧ lrow D ty o f H))) mc ms Aw := by
  refine g_MetH (cc := cL_split) (maxL := 5) (ret := some .int) (hh := [(0, 10, 13, 29), (0, 10, 17, 13), (0, 10, 21, 15)]) [some (.ref x), some (.int p1), some (.int p2), some (.ref o), none] (by decide) rfl (Nat.le_of_ble_eq_true rfl) rfl ?_
  intro p e s m args below meth c S hlk hr htb hK hE hP0
  have S : CallFix p m c cL_split 5 s args wsL_split RL := S
  have ho9 : o < s.heap.size := hP0.2.lt
  have hE' : ∀ (H : Heap) (locs : List Loc), P1 H ∧ lrow D ty o f H → va_S Aw s.heap H locs → ∀ U : State, U.heap = H → s.WarmedH U.vm → gE true cstrs Ac tE U U.heap := fun H locs hP hS => gE_at hE hS hsub (fun q hq => hfr q ((hE rfl).2.2.2.1 q (Nat.le_trans hS.1 hq)) (Nat.ne_of_gt (Nat.lt_of_lt_of_le ho9 (Nat.le_trans hS.1 hq))))
  have hkp : ∀ H H1 : Heap, lrow D ty o f H → H.size ≤ H1.size → (∀ q : Nat, q < H.size → ¬ Ac q → H1[q]? = H[q]?) → lrow D ty o f H1 := fun H H1 h _ hq => va_at.kept h (hq o (va_at.lt h) hno)
  refine g_aload_n S dL_split_0 rfl ?_
  refine g_iconst S (v := 0) dL_split_1 (by decide) ?_
  refine g_aload_n S dL_split_2 rfl ?_
  refine g_iload_n S dL_split_3 rfl ?_
  refine g_iload_n S dL_split_4 rfl ?_
  refine g_tcallVX (b0 := x) (As := [.int p1, .int p2]) (st := [.int 0, .ref o]) S hM (cwV 2 S.2.2.2.2 gL_split_X5_split rfl hrm.1 hrm.2.1 (by decide +kernel) ⟨Nat.succ_le_succ hrm.2.2.1, (by show 8 + (_ + 11) + rm.locals ≤ 460; have := hrm.2.2.2; omega)⟩) hK hsub hE' hkp (fun H h => h) (fun H h => hrc hK H h.1) rfl (Nat.le_of_ble_eq_true rfl) dL_split_5 ⟨(by show 0 + mc ≤ mc; omega), (by show 0 + ms ≤ ms; omega)⟩ ?_
  intro E
  by_cases hE9 : E = "java/lang/IllegalArgumentException"
  · subst hE9
    refine g_catch (name := "java/lang/IllegalArgumentException") S.2.2.2.1 [⟨0, 10, 13, 29⟩] ⟨0, 10, 17, 13⟩ [⟨0, 10, 21, 15⟩] htb (fun z hz => by
      simp only [List.mem_cons, List.not_mem_nil, or_false] at hz
      subst hz
      exact Or.inr ⟨by decide, "java/lang/IndexOutOfBoundsException", S.2.2.2.2 _ (List.mem_of_getElem? (i := 1) rfl), (hE rfl).2.2.2.2.2.2.2.2.1.2 ("java/lang/IllegalArgumentException", "java/lang/IndexOutOfBoundsException") (by simp [ncB])⟩) (by decide) (by decide) (S.2.2.2.2 _ (List.mem_of_getElem? (i := 2) rfl)) (exB_use (hE rfl).2.2.2.2.2.2.2.2.2 args _ (exB_in _ (by simp))) ?_
    intro q
    refine g_P (P' := fun H => P2 H ∧ lrow D ty o f H) (fun H h => ⟨h.1.2, h.2⟩) ?_
    refine g_astore S dL_split_17 (by decide) rfl ?_
    refine g_iconst S (v := 2) dL_split_19 (by decide) ?_
    exact g_iret S hlk hr (fun H h => ⟨rfl, h⟩) (by omega) (by omega) dL_split_20
  · exact g_noX (fun H h => hE9 h.1.1)
set_option maxHeartbeats 1500000 in
set_option maxRecDepth 100000 in
theorem x_split_S {l : Launch} {D : va_G} {ty : Nat → ClassId} {tE x o : Nat} {f : Nat → Int64} {Ac Aw : Nat → Prop} (hsub : ∀ q, Ac q → Aw q) (ho : Aw o) (hno : ¬ Ac o) (hfr : ∀ q, Aw q → q ≠ o → Ac q) {P1 P2 : Heap → Prop} (p1 p2 : Int32) {rm : Room} {mc ms : Nat} (hM : vx_Met l yX5_split wsX5_split rm (gPc D ty true cstrs tE Ac [.ref x, .int p1, .int p2] P1) (gQ Ac (fun _ _ => False)) (gX Ac (fun E H => E = "java/lang/IllegalStateException" ∧ P2 H)) mc ms Ac) (hrm : rm.cells = mc ∧ rm.slots = ms ∧ rm.frames ≤ 12 ∧ rm.locals ≤ 400) (hrc : ∀ {s : State}, gK D ty s → ∀ H, P1 H → ∃ cellB : Cell, H[x]? = some cellB ∧ cellB.vm.isStatics = false ∧ s.vm.findClass RX5 = some cellB.cls) : Met l yL_split wsL_split (rmW mc ms) (gPc D ty true cstrs tE Aw [.ref x, .int p1, .int p2, .ref o] (fun H => P1 H ∧ lrow D ty o f H)) (gQ Aw (gRet (some (.int 3)) (fun H => P2 H ∧ lrow D ty o f H))) mc ms Aw := by
  refine g_MetH (cc := cL_split) (maxL := 5) (ret := some .int) (hh := [(0, 10, 13, 29), (0, 10, 17, 13), (0, 10, 21, 15)]) [some (.ref x), some (.int p1), some (.int p2), some (.ref o), none] (by decide) rfl (Nat.le_of_ble_eq_true rfl) rfl ?_
  intro p e s m args below meth c S hlk hr htb hK hE hP0
  have S : CallFix p m c cL_split 5 s args wsL_split RL := S
  have ho9 : o < s.heap.size := hP0.2.lt
  have hE' : ∀ (H : Heap) (locs : List Loc), P1 H ∧ lrow D ty o f H → va_S Aw s.heap H locs → ∀ U : State, U.heap = H → s.WarmedH U.vm → gE true cstrs Ac tE U U.heap := fun H locs hP hS => gE_at hE hS hsub (fun q hq => hfr q ((hE rfl).2.2.2.1 q (Nat.le_trans hS.1 hq)) (Nat.ne_of_gt (Nat.lt_of_lt_of_le ho9 (Nat.le_trans hS.1 hq))))
  have hkp : ∀ H H1 : Heap, lrow D ty o f H → H.size ≤ H1.size → (∀ q : Nat, q < H.size → ¬ Ac q → H1[q]? = H[q]?) → lrow D ty o f H1 := fun H H1 h _ hq => va_at.kept h (hq o (va_at.lt h) hno)
  refine g_aload_n S dL_split_0 rfl ?_
  refine g_iconst S (v := 0) dL_split_1 (by decide) ?_
  refine g_aload_n S dL_split_2 rfl ?_
  refine g_iload_n S dL_split_3 rfl ?_
  refine g_iload_n S dL_split_4 rfl ?_
  refine g_tcallVX (b0 := x) (As := [.int p1, .int p2]) (st := [.int 0, .ref o]) S hM (cwV 2 S.2.2.2.2 gL_split_X5_split rfl hrm.1 hrm.2.1 (by decide +kernel) ⟨Nat.succ_le_succ hrm.2.2.1, (by show 8 + (_ + 11) + rm.locals ≤ 460; have := hrm.2.2.2; omega)⟩) hK hsub hE' hkp (fun H h => h) (fun H h => hrc hK H h.1) rfl (Nat.le_of_ble_eq_true rfl) dL_split_5 ⟨(by show 0 + mc ≤ mc; omega), (by show 0 + ms ≤ ms; omega)⟩ ?_
  intro E
  by_cases hE9 : E = "java/lang/IllegalStateException"
  · subst hE9
    refine g_catch (name := "java/lang/IllegalStateException") S.2.2.2.1 [⟨0, 10, 13, 29⟩, ⟨0, 10, 17, 13⟩] ⟨0, 10, 21, 15⟩ [] htb (fun z hz => by
      simp only [List.mem_cons, List.not_mem_nil, or_false] at hz
      rcases hz with rfl | rfl
      · exact Or.inr ⟨by decide, "java/lang/IndexOutOfBoundsException", S.2.2.2.2 _ (List.mem_of_getElem? (i := 1) rfl), (hE rfl).2.2.2.2.2.2.2.2.1.2 ("java/lang/IllegalStateException", "java/lang/IndexOutOfBoundsException") (by simp [ncB])⟩
      · exact Or.inr ⟨by decide, "java/lang/IllegalArgumentException", S.2.2.2.2 _ (List.mem_of_getElem? (i := 2) rfl), (hE rfl).2.2.2.2.2.2.2.2.1.2 ("java/lang/IllegalStateException", "java/lang/IllegalArgumentException") (by simp [ncB])⟩) (by decide) (by decide) (S.2.2.2.2 _ (List.mem_of_getElem? (i := 3) rfl)) (exB_use (hE rfl).2.2.2.2.2.2.2.2.2 args _ (exB_in _ (by simp))) ?_
    intro q
    refine g_P (P' := fun H => P2 H ∧ lrow D ty o f H) (fun H h => ⟨h.1.2, h.2⟩) ?_
    refine g_astore S dL_split_21 (by decide) rfl ?_
    refine g_iconst S (v := 3) dL_split_23 (by decide) ?_
    exact g_iret S hlk hr (fun H h => ⟨rfl, h⟩) (by omega) (by omega) dL_split_24
  · exact g_noX (fun H h => hE9 h.1.1)
set_option maxHeartbeats 1500000 in
set_option maxRecDepth 100000 in
theorem w_sell {l : Launch} {D : va_G} {ty : Nat → ClassId} {tE x o : Nat} {f : Nat → Int64} {Ac Aw : Nat → Prop} (hsub : ∀ q, Ac q → Aw q) (ho : Aw o) (hno : ¬ Ac o) (hfr : ∀ q, Aw q → q ≠ o → Ac q) {P1 P2 : Heap → Prop} (p1 p2 p3 : Int32) {rm : Room} {mc ms : Nat} {v : Int32} (hM : Met l yX5_sell wsX5_sell rm (gPc D ty true cstrs tE Ac [.ref x, .int p1, .int p2, .int p3] P1) (gQ Ac (gRet (some (.int v)) P2)) mc ms Ac) (hrm : rm.cells = mc ∧ rm.slots = ms ∧ rm.frames ≤ 12 ∧ rm.locals ≤ 400) (hrc : ∀ {s : State}, gK D ty s → ∀ H, P1 H → ∃ cellB : Cell, H[x]? = some cellB ∧ cellB.vm.isStatics = false ∧ s.vm.findClass RX5 = some cellB.cls) (hk2 : ∀ H H1 : Heap, P2 H → (∀ q : Nat, q ≠ o → H1[q]? = H[q]?) → P2 H1) : Met l yL_sell wsL_sell (rmW mc ms) (gPc D ty true cstrs tE Aw [.ref x, .int p1, .int p2, .int p3, .ref o] (fun H => P1 H ∧ lrow D ty o f H)) (gQ Aw (gRet (some (.int 0)) (fun H => P2 H ∧ lrow D ty o (vp_updL f 0 v.toInt64) H))) mc ms Aw := by
  refine g_MetH (cc := cL_sell) (maxL := 6) (ret := some .int) (hh := [(0, 12, 15, 29), (0, 12, 19, 13), (0, 12, 23, 15)]) [some (.ref x), some (.int p1), some (.int p2), some (.int p3), some (.ref o), none] (by decide) rfl (Nat.le_of_ble_eq_true rfl) rfl ?_
  intro p e s m args below meth c S hlk hr htb hK hE hP0
  have S : CallFix p m c cL_sell 6 s args wsL_sell RL := S
  have ho9 : o < s.heap.size := hP0.2.lt
  have hE' : ∀ (H : Heap) (locs : List Loc), P1 H ∧ lrow D ty o f H → va_S Aw s.heap H locs → ∀ U : State, U.heap = H → s.WarmedH U.vm → gE true cstrs Ac tE U U.heap := fun H locs hP hS => gE_at hE hS hsub (fun q hq => hfr q ((hE rfl).2.2.2.1 q (Nat.le_trans hS.1 hq)) (Nat.ne_of_gt (Nat.lt_of_lt_of_le ho9 (Nat.le_trans hS.1 hq))))
  have hkp : ∀ H H1 : Heap, lrow D ty o f H → H.size ≤ H1.size → (∀ q : Nat, q < H.size → ¬ Ac q → H1[q]? = H[q]?) → lrow D ty o f H1 := fun H H1 h _ hq => va_at.kept h (hq o (va_at.lt h) hno)
  refine g_aload S dL_sell_0 rfl ?_
  refine g_iconst S (v := 0) dL_sell_2 (by decide) ?_
  refine g_aload_n S dL_sell_3 rfl ?_
  refine g_iload_n S dL_sell_4 rfl ?_
  refine g_iload_n S dL_sell_5 rfl ?_
  refine g_iload_n S dL_sell_6 rfl ?_
  refine g_callVX (b0 := x) (As := [.int p1, .int p2, .int p3]) (st := [.int 0, .ref o]) S hM (cwV 3 S.2.2.2.2 gL_sell_X5_sell rfl hrm.1 hrm.2.1 (by decide +kernel) ⟨Nat.succ_le_succ hrm.2.2.1, (by show 8 + (_ + 11) + rm.locals ≤ 460; have := hrm.2.2.2; omega)⟩) hK hsub hE' hkp (fun H h => h) (fun H h => hrc hK H h.1) rfl (Nat.le_of_ble_eq_true rfl) dL_sell_7 ⟨(by show 0 + mc ≤ mc; omega), (by show 0 + ms ≤ ms; omega)⟩ ?_
  intro r
  refine g_and (b := r = some (.int v)) (P' := fun H => P2 H ∧ lrow D ty o f H) (fun H h => ⟨h.1.1, h.1.2, h.2⟩) (fun hr9 => ?_)
  subst hr9
  refine g_i2l S dL_sell_10 ?_
  refine g_last S hK (a := o) (N' := 1) (f := f) (i := 0) (x := v.toInt64) (P' := fun H => P2 H ∧ lrow D ty o (vp_updL f 0 v.toInt64) H) (fun H h => h.2) (fun H h => ho) (fun H H1 h hat _ oq => ⟨hk2 H H1 h.1 oq, hat⟩) vin_01 dL_sell_11 ?_
  refine g_goto S (tgt := 27) dL_sell_12 (by decide) ?_
  refine g_iconst S (v := 0) dL_sell_27 (by decide) ?_
  exact g_iret S hlk hr (fun H h => ⟨rfl, h⟩) (by omega) (by omega) dL_sell_28
set_option maxHeartbeats 1500000 in
set_option maxRecDepth 100000 in
theorem x_sell_B {l : Launch} {D : va_G} {ty : Nat → ClassId} {tE x o : Nat} {f : Nat → Int64} {Ac Aw : Nat → Prop} (hsub : ∀ q, Ac q → Aw q) (ho : Aw o) (hno : ¬ Ac o) (hfr : ∀ q, Aw q → q ≠ o → Ac q) {P1 P2 : Heap → Prop} (p1 p2 p3 : Int32) {rm : Room} {mc ms : Nat} (hM : vx_Met l yX5_sell wsX5_sell rm (gPc D ty true cstrs tE Ac [.ref x, .int p1, .int p2, .int p3] P1) (gQ Ac (fun _ _ => False)) (gX Ac (fun E H => E = "java/lang/IndexOutOfBoundsException" ∧ P2 H)) mc ms Ac) (hrm : rm.cells = mc ∧ rm.slots = ms ∧ rm.frames ≤ 12 ∧ rm.locals ≤ 400) (hrc : ∀ {s : State}, gK D ty s → ∀ H, P1 H → ∃ cellB : Cell, H[x]? = some cellB ∧ cellB.vm.isStatics = false ∧ s.vm.findClass RX5 = some cellB.cls) : Met l yL_sell wsL_sell (rmW mc ms) (gPc D ty true cstrs tE Aw [.ref x, .int p1, .int p2, .int p3, .ref o] (fun H => P1 H ∧ lrow D ty o f H)) (gQ Aw (gRet (some (.int 1)) (fun H => P2 H ∧ lrow D ty o f H))) mc ms Aw := by
  refine g_MetH (cc := cL_sell) (maxL := 6) (ret := some .int) (hh := [(0, 12, 15, 29), (0, 12, 19, 13), (0, 12, 23, 15)]) [some (.ref x), some (.int p1), some (.int p2), some (.int p3), some (.ref o), none] (by decide) rfl (Nat.le_of_ble_eq_true rfl) rfl ?_
  intro p e s m args below meth c S hlk hr htb hK hE hP0
  have S : CallFix p m c cL_sell 6 s args wsL_sell RL := S
  have ho9 : o < s.heap.size := hP0.2.lt
  have hE' : ∀ (H : Heap) (locs : List Loc), P1 H ∧ lrow D ty o f H → va_S Aw s.heap H locs → ∀ U : State, U.heap = H → s.WarmedH U.vm → gE true cstrs Ac tE U U.heap := fun H locs hP hS => gE_at hE hS hsub (fun q hq => hfr q ((hE rfl).2.2.2.1 q (Nat.le_trans hS.1 hq)) (Nat.ne_of_gt (Nat.lt_of_lt_of_le ho9 (Nat.le_trans hS.1 hq))))
  have hkp : ∀ H H1 : Heap, lrow D ty o f H → H.size ≤ H1.size → (∀ q : Nat, q < H.size → ¬ Ac q → H1[q]? = H[q]?) → lrow D ty o f H1 := fun H H1 h _ hq => va_at.kept h (hq o (va_at.lt h) hno)
  refine g_aload S dL_sell_0 rfl ?_
  refine g_iconst S (v := 0) dL_sell_2 (by decide) ?_
  refine g_aload_n S dL_sell_3 rfl ?_
  refine g_iload_n S dL_sell_4 rfl ?_
  refine g_iload_n S dL_sell_5 rfl ?_
  refine g_iload_n S dL_sell_6 rfl ?_
  refine g_tcallVX (b0 := x) (As := [.int p1, .int p2, .int p3]) (st := [.int 0, .ref o]) S hM (cwV 3 S.2.2.2.2 gL_sell_X5_sell rfl hrm.1 hrm.2.1 (by decide +kernel) ⟨Nat.succ_le_succ hrm.2.2.1, (by show 8 + (_ + 11) + rm.locals ≤ 460; have := hrm.2.2.2; omega)⟩) hK hsub hE' hkp (fun H h => h) (fun H h => hrc hK H h.1) rfl (Nat.le_of_ble_eq_true rfl) dL_sell_7 ⟨(by show 0 + mc ≤ mc; omega), (by show 0 + ms ≤ ms; omega)⟩ ?_
  intro E
  by_cases hE9 : E = "java/lang/IndexOutOfBoundsException"
  · subst hE9
    refine g_catch (name := "java/lang/IndexOutOfBoundsException") S.2.2.2.1 [] ⟨0, 12, 15, 29⟩ [⟨0, 12, 19, 13⟩, ⟨0, 12, 23, 15⟩] htb (fun z hz => by cases hz) (by decide) (by decide) (S.2.2.2.2 _ (List.mem_of_getElem? (i := 1) rfl)) (exB_use (hE rfl).2.2.2.2.2.2.2.2.2 args _ (exB_in _ (by simp))) ?_
    intro q
    refine g_P (P' := fun H => P2 H ∧ lrow D ty o f H) (fun H h => ⟨h.1.2, h.2⟩) ?_
    refine g_astore S dL_sell_15 (by decide) rfl ?_
    refine g_iconst S (v := 1) dL_sell_17 (by decide) ?_
    exact g_iret S hlk hr (fun H h => ⟨rfl, h⟩) (by omega) (by omega) dL_sell_18
  · exact g_noX (fun H h => hE9 h.1.1)
set_option maxHeartbeats 1500000 in
set_option maxRecDepth 100000 in
theorem x_sell_A {l : Launch} {D : va_G} {ty : Nat → ClassId} {tE x o : Nat} {f : Nat → Int64} {Ac Aw : Nat → Prop} (hsub : ∀ q, Ac q → Aw q) (ho : Aw o) (hno : ¬ Ac o) (hfr : ∀ q, Aw q → q ≠ o → Ac q) {P1 P2 : Heap → Prop} (p1 p2 p3 : Int32) {rm : Room} {mc ms : Nat} (hM : vx_Met l yX5_sell wsX5_sell rm (gPc D ty true cstrs tE Ac [.ref x, .int p1, .int p2, .int p3] P1) (gQ Ac (fun _ _ => False)) (gX Ac (fun E H => E = "java/lang/IllegalArgumentException" ∧ P2 H)) mc ms Ac) (hrm : rm.cells = mc ∧ rm.slots = ms ∧ rm.frames ≤ 12 ∧ rm.locals ≤ 400) (hrc : ∀ {s : State}, gK D ty s → ∀ H, P1 H → ∃ cellB : Cell, H[x]? = some cellB ∧ cellB.vm.isStatics = false ∧ s.vm.findClass RX5 = some cellB.cls) : Met l yL_sell wsL_sell (rmW mc ms) (gPc D ty true cstrs tE Aw [.ref x, .int p1, .int p2, .int p3, .ref o] (fun H => P1 H ∧ lrow D ty o f H)) (gQ Aw (gRet (some (.int 2)) (fun H => P2 H ∧ lrow D ty o f H))) mc ms Aw := by
  refine g_MetH (cc := cL_sell) (maxL := 6) (ret := some .int) (hh := [(0, 12, 15, 29), (0, 12, 19, 13), (0, 12, 23, 15)]) [some (.ref x), some (.int p1), some (.int p2), some (.int p3), some (.ref o), none] (by decide) rfl (Nat.le_of_ble_eq_true rfl) rfl ?_
  intro p e s m args below meth c S hlk hr htb hK hE hP0
  have S : CallFix p m c cL_sell 6 s args wsL_sell RL := S
  have ho9 : o < s.heap.size := hP0.2.lt
  have hE' : ∀ (H : Heap) (locs : List Loc), P1 H ∧ lrow D ty o f H → va_S Aw s.heap H locs → ∀ U : State, U.heap = H → s.WarmedH U.vm → gE true cstrs Ac tE U U.heap := fun H locs hP hS => gE_at hE hS hsub (fun q hq => hfr q ((hE rfl).2.2.2.1 q (Nat.le_trans hS.1 hq)) (Nat.ne_of_gt (Nat.lt_of_lt_of_le ho9 (Nat.le_trans hS.1 hq))))
  have hkp : ∀ H H1 : Heap, lrow D ty o f H → H.size ≤ H1.size → (∀ q : Nat, q < H.size → ¬ Ac q → H1[q]? = H[q]?) → lrow D ty o f H1 := fun H H1 h _ hq => va_at.kept h (hq o (va_at.lt h) hno)
  refine g_aload S dL_sell_0 rfl ?_
  refine g_iconst S (v := 0) dL_sell_2 (by decide) ?_
  refine g_aload_n S dL_sell_3 rfl ?_
  refine g_iload_n S dL_sell_4 rfl ?_
  refine g_iload_n S dL_sell_5 rfl ?_
  refine g_iload_n S dL_sell_6 rfl ?_
  refine g_tcallVX (b0 := x) (As := [.int p1, .int p2, .int p3]) (st := [.int 0, .ref o]) S hM (cwV 3 S.2.2.2.2 gL_sell_X5_sell rfl hrm.1 hrm.2.1 (by decide +kernel) ⟨Nat.succ_le_succ hrm.2.2.1, (by show 8 + (_ + 11) + rm.locals ≤ 460; have := hrm.2.2.2; omega)⟩) hK hsub hE' hkp (fun H h => h) (fun H h => hrc hK H h.1) rfl (Nat.le_of_ble_eq_true rfl) dL_sell_7 ⟨(by show 0 + mc ≤ mc; omega), (by show 0 + ms ≤ ms; omega)⟩ ?_
  intro E
  by_cases hE9 : E = "java/lang/IllegalArgumentException"
  · subst hE9
    refine g_catch (name := "java/lang/IllegalArgumentException") S.2.2.2.1 [⟨0, 12, 15, 29⟩] ⟨0, 12, 19, 13⟩ [⟨0, 12, 23, 15⟩] htb (fun z hz => by
      simp only [List.mem_cons, List.not_mem_nil, or_false] at hz
      subst hz
      exact Or.inr ⟨by decide, "java/lang/IndexOutOfBoundsException", S.2.2.2.2 _ (List.mem_of_getElem? (i := 1) rfl), (hE rfl).2.2.2.2.2.2.2.2.1.2 ("java/lang/IllegalArgumentException", "java/lang/IndexOutOfBoundsException") (by simp [ncB])⟩) (by decide) (by decide) (S.2.2.2.2 _ (List.mem_of_getElem? (i := 2) rfl)) (exB_use (hE rfl).2.2.2.2.2.2.2.2.2 args _ (exB_in _ (by simp))) ?_
    intro q
    refine g_P (P' := fun H => P2 H ∧ lrow D ty o f H) (fun H h => ⟨h.1.2, h.2⟩) ?_
    refine g_astore S dL_sell_19 (by decide) rfl ?_
    refine g_iconst S (v := 2) dL_sell_21 (by decide) ?_
    exact g_iret S hlk hr (fun H h => ⟨rfl, h⟩) (by omega) (by omega) dL_sell_22
  · exact g_noX (fun H h => hE9 h.1.1)
set_option maxHeartbeats 1500000 in
set_option maxRecDepth 100000 in
theorem x_sell_S {l : Launch} {D : va_G} {ty : Nat → ClassId} {tE x o : Nat} {f : Nat → Int64} {Ac Aw : Nat → Prop} (hsub : ∀ q, Ac q → Aw q) (ho : Aw o) (hno : ¬ Ac o) (hfr : ∀ q, Aw q → q ≠ o → Ac q) {P1 P2 : Heap → Prop} (p1 p2 p3 : Int32) {rm : Room} {mc ms : Nat} (hM : vx_Met l yX5_sell wsX5_sell rm (gPc D ty true cstrs tE Ac [.ref x, .int p1, .int p2, .int p3] P1) (gQ Ac (fun _ _ => False)) (gX Ac (fun E H => E = "java/lang/IllegalStateException" ∧ P2 H)) mc ms Ac) (hrm : rm.cells = mc ∧ rm.slots = ms ∧ rm.frames ≤ 12 ∧ rm.locals ≤ 400) (hrc : ∀ {s : State}, gK D ty s → ∀ H, P1 H → ∃ cellB : Cell, H[x]? = some cellB ∧ cellB.vm.isStatics = false ∧ s.vm.findClass RX5 = some cellB.cls) : Met l yL_sell wsL_sell (rmW mc ms) (gPc D ty true cstrs tE Aw [.ref x, .int p1, .int p2, .int p3, .ref o] (fun H => P1 H ∧ lrow D ty o f H)) (gQ Aw (gRet (some (.int 3)) (fun H => P2 H ∧ lrow D ty o f H))) mc ms Aw := by
  refine g_MetH (cc := cL_sell) (maxL := 6) (ret := some .int) (hh := [(0, 12, 15, 29), (0, 12, 19, 13), (0, 12, 23, 15)]) [some (.ref x), some (.int p1), some (.int p2), some (.int p3), some (.ref o), none] (by decide) rfl (Nat.le_of_ble_eq_true rfl) rfl ?_
  intro p e s m args below meth c S hlk hr htb hK hE hP0
  have S : CallFix p m c cL_sell 6 s args wsL_sell RL := S
  have ho9 : o < s.heap.size := hP0.2.lt
  have hE' : ∀ (H : Heap) (locs : List Loc), P1 H ∧ lrow D ty o f H → va_S Aw s.heap H locs → ∀ U : State, U.heap = H → s.WarmedH U.vm → gE true cstrs Ac tE U U.heap := fun H locs hP hS => gE_at hE hS hsub (fun q hq => hfr q ((hE rfl).2.2.2.1 q (Nat.le_trans hS.1 hq)) (Nat.ne_of_gt (Nat.lt_of_lt_of_le ho9 (Nat.le_trans hS.1 hq))))
  have hkp : ∀ H H1 : Heap, lrow D ty o f H → H.size ≤ H1.size → (∀ q : Nat, q < H.size → ¬ Ac q → H1[q]? = H[q]?) → lrow D ty o f H1 := fun H H1 h _ hq => va_at.kept h (hq o (va_at.lt h) hno)
  refine g_aload S dL_sell_0 rfl ?_
  refine g_iconst S (v := 0) dL_sell_2 (by decide) ?_
  refine g_aload_n S dL_sell_3 rfl ?_
  refine g_iload_n S dL_sell_4 rfl ?_
  refine g_iload_n S dL_sell_5 rfl ?_
  refine g_iload_n S dL_sell_6 rfl ?_
  refine g_tcallVX (b0 := x) (As := [.int p1, .int p2, .int p3]) (st := [.int 0, .ref o]) S hM (cwV 3 S.2.2.2.2 gL_sell_X5_sell rfl hrm.1 hrm.2.1 (by decide +kernel) ⟨Nat.succ_le_succ hrm.2.2.1, (by show 8 + (_ + 11) + rm.locals ≤ 460; have := hrm.2.2.2; omega)⟩) hK hsub hE' hkp (fun H h => h) (fun H h => hrc hK H h.1) rfl (Nat.le_of_ble_eq_true rfl) dL_sell_7 ⟨(by show 0 + mc ≤ mc; omega), (by show 0 + ms ≤ ms; omega)⟩ ?_
  intro E
  by_cases hE9 : E = "java/lang/IllegalStateException"
  · subst hE9
    refine g_catch (name := "java/lang/IllegalStateException") S.2.2.2.1 [⟨0, 12, 15, 29⟩, ⟨0, 12, 19, 13⟩] ⟨0, 12, 23, 15⟩ [] htb (fun z hz => by
      simp only [List.mem_cons, List.not_mem_nil, or_false] at hz
      rcases hz with rfl | rfl
      · exact Or.inr ⟨by decide, "java/lang/IndexOutOfBoundsException", S.2.2.2.2 _ (List.mem_of_getElem? (i := 1) rfl), (hE rfl).2.2.2.2.2.2.2.2.1.2 ("java/lang/IllegalStateException", "java/lang/IndexOutOfBoundsException") (by simp [ncB])⟩
      · exact Or.inr ⟨by decide, "java/lang/IllegalArgumentException", S.2.2.2.2 _ (List.mem_of_getElem? (i := 2) rfl), (hE rfl).2.2.2.2.2.2.2.2.1.2 ("java/lang/IllegalStateException", "java/lang/IllegalArgumentException") (by simp [ncB])⟩) (by decide) (by decide) (S.2.2.2.2 _ (List.mem_of_getElem? (i := 3) rfl)) (exB_use (hE rfl).2.2.2.2.2.2.2.2.2 args _ (exB_in _ (by simp))) ?_
    intro q
    refine g_P (P' := fun H => P2 H ∧ lrow D ty o f H) (fun H h => ⟨h.1.2, h.2⟩) ?_
    refine g_astore S dL_sell_23 (by decide) rfl ?_
    refine g_iconst S (v := 3) dL_sell_25 (by decide) ?_
    exact g_iret S hlk hr (fun H h => ⟨rfl, h⟩) (by omega) (by omega) dL_sell_26
  · exact g_noX (fun H h => hE9 h.1.1)
set_option maxHeartbeats 1500000 in
set_option maxRecDepth 100000 in
theorem w_pledge {l : Launch} {D : va_G} {ty : Nat → ClassId} {tE x o : Nat} {f : Nat → Int64} {Ac Aw : Nat → Prop} (hsub : ∀ q, Ac q → Aw q) (ho : Aw o) (hno : ¬ Ac o) (hfr : ∀ q, Aw q → q ≠ o → Ac q) {P1 P2 : Heap → Prop} (p1 p2 p3 p4 : Int32) {rm : Room} {mc ms : Nat} {v : Int32} (hM : Met l yX5_pledge wsX5_pledge rm (gPc D ty true cstrs tE Ac [.ref x, .int p1, .int p2, .int p3, .int p4] P1) (gQ Ac (gRet (some (.int v)) P2)) mc ms Ac) (hrm : rm.cells = mc ∧ rm.slots = ms ∧ rm.frames ≤ 12 ∧ rm.locals ≤ 400) (hrc : ∀ {s : State}, gK D ty s → ∀ H, P1 H → ∃ cellB : Cell, H[x]? = some cellB ∧ cellB.vm.isStatics = false ∧ s.vm.findClass RX5 = some cellB.cls) (hk2 : ∀ H H1 : Heap, P2 H → (∀ q : Nat, q ≠ o → H1[q]? = H[q]?) → P2 H1) : Met l yL_pledge wsL_pledge (rmW mc ms) (gPc D ty true cstrs tE Aw [.ref x, .int p1, .int p2, .int p3, .int p4, .ref o] (fun H => P1 H ∧ lrow D ty o f H)) (gQ Aw (gRet (some (.int 0)) (fun H => P2 H ∧ lrow D ty o (vp_updL f 0 v.toInt64) H))) mc ms Aw := by
  refine g_MetH (cc := cL_pledge) (maxL := 7) (ret := some .int) (hh := [(0, 14, 17, 29), (0, 14, 21, 13), (0, 14, 25, 15)]) [some (.ref x), some (.int p1), some (.int p2), some (.int p3), some (.int p4), some (.ref o), none] (by decide) rfl (Nat.le_of_ble_eq_true rfl) rfl ?_
  intro p e s m args below meth c S hlk hr htb hK hE hP0
  have S : CallFix p m c cL_pledge 7 s args wsL_pledge RL := S
  have ho9 : o < s.heap.size := hP0.2.lt
  have hE' : ∀ (H : Heap) (locs : List Loc), P1 H ∧ lrow D ty o f H → va_S Aw s.heap H locs → ∀ U : State, U.heap = H → s.WarmedH U.vm → gE true cstrs Ac tE U U.heap := fun H locs hP hS => gE_at hE hS hsub (fun q hq => hfr q ((hE rfl).2.2.2.1 q (Nat.le_trans hS.1 hq)) (Nat.ne_of_gt (Nat.lt_of_lt_of_le ho9 (Nat.le_trans hS.1 hq))))
  have hkp : ∀ H H1 : Heap, lrow D ty o f H → H.size ≤ H1.size → (∀ q : Nat, q < H.size → ¬ Ac q → H1[q]? = H[q]?) → lrow D ty o f H1 := fun H H1 h _ hq => va_at.kept h (hq o (va_at.lt h) hno)
  refine g_aload S dL_pledge_0 rfl ?_
  refine g_iconst S (v := 0) dL_pledge_2 (by decide) ?_
  refine g_aload_n S dL_pledge_3 rfl ?_
  refine g_iload_n S dL_pledge_4 rfl ?_
  refine g_iload_n S dL_pledge_5 rfl ?_
  refine g_iload_n S dL_pledge_6 rfl ?_
  refine g_iload S dL_pledge_7 rfl ?_
  refine g_callVX (b0 := x) (As := [.int p1, .int p2, .int p3, .int p4]) (st := [.int 0, .ref o]) S hM (cwV 4 S.2.2.2.2 gL_pledge_X5_pledge rfl hrm.1 hrm.2.1 (by decide +kernel) ⟨Nat.succ_le_succ hrm.2.2.1, (by show 8 + (_ + 11) + rm.locals ≤ 460; have := hrm.2.2.2; omega)⟩) hK hsub hE' hkp (fun H h => h) (fun H h => hrc hK H h.1) rfl (Nat.le_of_ble_eq_true rfl) dL_pledge_9 ⟨(by show 0 + mc ≤ mc; omega), (by show 0 + ms ≤ ms; omega)⟩ ?_
  intro r
  refine g_and (b := r = some (.int v)) (P' := fun H => P2 H ∧ lrow D ty o f H) (fun H h => ⟨h.1.1, h.1.2, h.2⟩) (fun hr9 => ?_)
  subst hr9
  refine g_i2l S dL_pledge_12 ?_
  refine g_last S hK (a := o) (N' := 1) (f := f) (i := 0) (x := v.toInt64) (P' := fun H => P2 H ∧ lrow D ty o (vp_updL f 0 v.toInt64) H) (fun H h => h.2) (fun H h => ho) (fun H H1 h hat _ oq => ⟨hk2 H H1 h.1 oq, hat⟩) vin_01 dL_pledge_13 ?_
  refine g_goto S (tgt := 29) dL_pledge_14 (by decide) ?_
  refine g_iconst S (v := 0) dL_pledge_29 (by decide) ?_
  exact g_iret S hlk hr (fun H h => ⟨rfl, h⟩) (by omega) (by omega) dL_pledge_30
set_option maxHeartbeats 1500000 in
set_option maxRecDepth 100000 in
theorem x_pledge_B {l : Launch} {D : va_G} {ty : Nat → ClassId} {tE x o : Nat} {f : Nat → Int64} {Ac Aw : Nat → Prop} (hsub : ∀ q, Ac q → Aw q) (ho : Aw o) (hno : ¬ Ac o) (hfr : ∀ q, Aw q → q ≠ o → Ac q) {P1 P2 : Heap → Prop} (p1 p2 p3 p4 : Int32) {rm : Room} {mc ms : Nat} (hM : vx_Met l yX5_pledge wsX5_pledge rm (gPc D ty true cstrs tE Ac [.ref x, .int p1, .int p2, .int p3, .int p4] P1) (gQ Ac (fun _ _ => False)) (gX Ac (fun E H => E = "java/lang/IndexOutOfBoundsException" ∧ P2 H)) mc ms Ac) (hrm : rm.cells = mc ∧ rm.slots = ms ∧ rm.frames ≤ 12 ∧ rm.locals ≤ 400) (hrc : ∀ {s : State}, gK D ty s → ∀ H, P1 H → ∃ cellB : Cell, H[x]? = some cellB ∧ cellB.vm.isStatics = false ∧ s.vm.findClass RX5 = some cellB.cls) : Met l yL_pledge wsL_pledge (rmW mc ms) (gPc D ty true cstrs tE Aw [.ref x, .int p1, .int p2, .int p3, .int p4, .ref o] (fun H => P1 H ∧ lrow D ty o f H)) (gQ Aw (gRet (some (.int 1)) (fun H => P2 H ∧ lrow D ty o f H))) mc ms Aw := by
  refine g_MetH (cc := cL_pledge) (maxL := 7) (ret := some .int) (hh := [(0, 14, 17, 29), (0, 14, 21, 13), (0, 14, 25, 15)]) [some (.ref x), some (.int p1), some (.int p2), some (.int p3), some (.int p4), some (.ref o), none] (by decide) rfl (Nat.le_of_ble_eq_true rfl) rfl ?_
  intro p e s m args below meth c S hlk hr htb hK hE hP0
  have S : CallFix p m c cL_pledge 7 s args wsL_pledge RL := S
  have ho9 : o < s.heap.size := hP0.2.lt
  have hE' : ∀ (H : Heap) (locs : List Loc), P1 H ∧ lrow D ty o f H → va_S Aw s.heap H locs → ∀ U : State, U.heap = H → s.WarmedH U.vm → gE true cstrs Ac tE U U.heap := fun H locs hP hS => gE_at hE hS hsub (fun q hq => hfr q ((hE rfl).2.2.2.1 q (Nat.le_trans hS.1 hq)) (Nat.ne_of_gt (Nat.lt_of_lt_of_le ho9 (Nat.le_trans hS.1 hq))))
  have hkp : ∀ H H1 : Heap, lrow D ty o f H → H.size ≤ H1.size → (∀ q : Nat, q < H.size → ¬ Ac q → H1[q]? = H[q]?) → lrow D ty o f H1 := fun H H1 h _ hq => va_at.kept h (hq o (va_at.lt h) hno)
  refine g_aload S dL_pledge_0 rfl ?_
  refine g_iconst S (v := 0) dL_pledge_2 (by decide) ?_
  refine g_aload_n S dL_pledge_3 rfl ?_
  refine g_iload_n S dL_pledge_4 rfl ?_
  refine g_iload_n S dL_pledge_5 rfl ?_
  refine g_iload_n S dL_pledge_6 rfl ?_
  refine g_iload S dL_pledge_7 rfl ?_
  refine g_tcallVX (b0 := x) (As := [.int p1, .int p2, .int p3, .int p4]) (st := [.int 0, .ref o]) S hM (cwV 4 S.2.2.2.2 gL_pledge_X5_pledge rfl hrm.1 hrm.2.1 (by decide +kernel) ⟨Nat.succ_le_succ hrm.2.2.1, (by show 8 + (_ + 11) + rm.locals ≤ 460; have := hrm.2.2.2; omega)⟩) hK hsub hE' hkp (fun H h => h) (fun H h => hrc hK H h.1) rfl (Nat.le_of_ble_eq_true rfl) dL_pledge_9 ⟨(by show 0 + mc ≤ mc; omega), (by show 0 + ms ≤ ms; omega)⟩ ?_
  intro E
  by_cases hE9 : E = "java/lang/IndexOutOfBoundsException"
  · subst hE9
    refine g_catch (name := "java/lang/IndexOutOfBoundsException") S.2.2.2.1 [] ⟨0, 14, 17, 29⟩ [⟨0, 14, 21, 13⟩, ⟨0, 14, 25, 15⟩] htb (fun z hz => by cases hz) (by decide) (by decide) (S.2.2.2.2 _ (List.mem_of_getElem? (i := 1) rfl)) (exB_use (hE rfl).2.2.2.2.2.2.2.2.2 args _ (exB_in _ (by simp))) ?_
    intro q
    refine g_P (P' := fun H => P2 H ∧ lrow D ty o f H) (fun H h => ⟨h.1.2, h.2⟩) ?_
    refine g_astore S dL_pledge_17 (by decide) rfl ?_
    refine g_iconst S (v := 1) dL_pledge_19 (by decide) ?_
    exact g_iret S hlk hr (fun H h => ⟨rfl, h⟩) (by omega) (by omega) dL_pledge_20
  · exact g_noX (fun H h => hE9 h.1.1)
set_option maxHeartbeats 1500000 in
set_option maxRecDepth 100000 in
theorem x_pledge_A {l : Launch} {D : va_G} {ty : Nat → ClassId} {tE x o : Nat} {f : Nat → Int64} {Ac Aw : Nat → Prop} (hsub : ∀ q, Ac q → Aw q) (ho : Aw o) (hno : ¬ Ac o) (hfr : ∀ q, Aw q → q ≠ o → Ac q) {P1 P2 : Heap → Prop} (p1 p2 p3 p4 : Int32) {rm : Room} {mc ms : Nat} (hM : vx_Met l yX5_pledge wsX5_pledge rm (gPc D ty true cstrs tE Ac [.ref x, .int p1, .int p2, .int p3, .int p4] P1) (gQ Ac (fun _ _ => False)) (gX Ac (fun E H => E = "java/lang/IllegalArgumentException" ∧ P2 H)) mc ms Ac) (hrm : rm.cells = mc ∧ rm.slots = ms ∧ rm.frames ≤ 12 ∧ rm.locals ≤ 400) (hrc : ∀ {s : State}, gK D ty s → ∀ H, P1 H → ∃ cellB : Cell, H[x]? = some cellB ∧ cellB.vm.isStatics = false ∧ s.vm.findClass RX5 = some cellB.cls) : Met l yL_pledge wsL_pledge (rmW mc ms) (gPc D ty true cstrs tE Aw [.ref x, .int p1, .int p2, .int p3, .int p4, .ref o] (fun H => P1 H ∧ lrow D ty o f H)) (gQ Aw (gRet (some (.int 2)) (fun H => P2 H ∧ lrow D ty o f H))) mc ms Aw := by
  refine g_MetH (cc := cL_pledge) (maxL := 7) (ret := some .int) (hh := [(0, 14, 17, 29), (0, 14, 21, 13), (0, 14, 25, 15)]) [some (.ref x), some (.int p1), some (.int p2), some (.int p3), some (.int p4), some (.ref o), none] (by decide) rfl (Nat.le_of_ble_eq_true rfl) rfl ?_
  intro p e s m args below meth c S hlk hr htb hK hE hP0
  have S : CallFix p m c cL_pledge 7 s args wsL_pledge RL := S
  have ho9 : o < s.heap.size := hP0.2.lt
  have hE' : ∀ (H : Heap) (locs : List Loc), P1 H ∧ lrow D ty o f H → va_S Aw s.heap H locs → ∀ U : State, U.heap = H → s.WarmedH U.vm → gE true cstrs Ac tE U U.heap := fun H locs hP hS => gE_at hE hS hsub (fun q hq => hfr q ((hE rfl).2.2.2.1 q (Nat.le_trans hS.1 hq)) (Nat.ne_of_gt (Nat.lt_of_lt_of_le ho9 (Nat.le_trans hS.1 hq))))
  have hkp : ∀ H H1 : Heap, lrow D ty o f H → H.size ≤ H1.size → (∀ q : Nat, q < H.size → ¬ Ac q → H1[q]? = H[q]?) → lrow D ty o f H1 := fun H H1 h _ hq => va_at.kept h (hq o (va_at.lt h) hno)
  refine g_aload S dL_pledge_0 rfl ?_
  refine g_iconst S (v := 0) dL_pledge_2 (by decide) ?_
  refine g_aload_n S dL_pledge_3 rfl ?_
  refine g_iload_n S dL_pledge_4 rfl ?_
  refine g_iload_n S dL_pledge_5 rfl ?_
  refine g_iload_n S dL_pledge_6 rfl ?_
  refine g_iload S dL_pledge_7 rfl ?_
  refine g_tcallVX (b0 := x) (As := [.int p1, .int p2, .int p3, .int p4]) (st := [.int 0, .ref o]) S hM (cwV 4 S.2.2.2.2 gL_pledge_X5_pledge rfl hrm.1 hrm.2.1 (by decide +kernel) ⟨Nat.succ_le_succ hrm.2.2.1, (by show 8 + (_ + 11) + rm.locals ≤ 460; have := hrm.2.2.2; omega)⟩) hK hsub hE' hkp (fun H h => h) (fun H h => hrc hK H h.1) rfl (Nat.le_of_ble_eq_true rfl) dL_pledge_9 ⟨(by show 0 + mc ≤ mc; omega), (by show 0 + ms ≤ ms; omega)⟩ ?_
  intro E
  by_cases hE9 : E = "java/lang/IllegalArgumentException"
  · subst hE9
    refine g_catch (name := "java/lang/IllegalArgumentException") S.2.2.2.1 [⟨0, 14, 17, 29⟩] ⟨0, 14, 21, 13⟩ [⟨0, 14, 25, 15⟩] htb (fun z hz => by
      simp only [List.mem_cons, List.not_mem_nil, or_false] at hz
      subst hz
      exact Or.inr ⟨by decide, "java/lang/IndexOutOfBoundsException", S.2.2.2.2 _ (List.mem_of_getElem? (i := 1) rfl), (hE rfl).2.2.2.2.2.2.2.2.1.2 ("java/lang/IllegalArgumentException", "java/lang/IndexOutOfBoundsException") (by simp [ncB])⟩) (by decide) (by decide) (S.2.2.2.2 _ (List.mem_of_getElem? (i := 2) rfl)) (exB_use (hE rfl).2.2.2.2.2.2.2.2.2 args _ (exB_in _ (by simp))) ?_
    intro q
    refine g_P (P' := fun H => P2 H ∧ lrow D ty o f H) (fun H h => ⟨h.1.2, h.2⟩) ?_
    refine g_astore S dL_pledge_21 (by decide) rfl ?_
    refine g_iconst S (v := 2) dL_pledge_23 (by decide) ?_
    exact g_iret S hlk hr (fun H h => ⟨rfl, h⟩) (by omega) (by omega) dL_pledge_24
  · exact g_noX (fun H h => hE9 h.1.1)
set_option maxHeartbeats 1500000 in
set_option maxRecDepth 100000 in
theorem x_pledge_S {l : Launch} {D : va_G} {ty : Nat → ClassId} {tE x o : Nat} {f : Nat → Int64} {Ac Aw : Nat → Prop} (hsub : ∀ q, Ac q → Aw q) (ho : Aw o) (hno : ¬ Ac o) (hfr : ∀ q, Aw q → q ≠ o → Ac q) {P1 P2 : Heap → Prop} (p1 p2 p3 p4 : Int32) {rm : Room} {mc ms : Nat} (hM : vx_Met l yX5_pledge wsX5_pledge rm (gPc D ty true cstrs tE Ac [.ref x, .int p1, .int p2, .int p3, .int p4] P1) (gQ Ac (fun _ _ => False)) (gX Ac (fun E H => E = "java/lang/IllegalStateException" ∧ P2 H)) mc ms Ac) (hrm : rm.cells = mc ∧ rm.slots = ms ∧ rm.frames ≤ 12 ∧ rm.locals ≤ 400) (hrc : ∀ {s : State}, gK D ty s → ∀ H, P1 H → ∃ cellB : Cell, H[x]? = some cellB ∧ cellB.vm.isStatics = false ∧ s.vm.findClass RX5 = some cellB.cls) : Met l yL_pledge wsL_pledge (rmW mc ms) (gPc D ty true cstrs tE Aw [.ref x, .int p1, .int p2, .int p3, .int p4, .ref o] (fun H => P1 H ∧ lrow D ty o f H)) (gQ Aw (gRet (some (.int 3)) (fun H => P2 H ∧ lrow D ty o f H))) mc ms Aw := by
  refine g_MetH (cc := cL_pledge) (maxL := 7) (ret := some .int) (hh := [(0, 14, 17, 29), (0, 14, 21, 13), (0, 14, 25, 15)]) [some (.ref x), some (.int p1), some (.int p2), some (.int p3), some (.int p4), some (.ref o), none] (by decide) rfl (Nat.le_of_ble_eq_true rfl) rfl ?_
  intro p e s m args below meth c S hlk hr htb hK hE hP0
  have S : CallFix p m c cL_pledge 7 s args wsL_pledge RL := S
  have ho9 : o < s.heap.size := hP0.2.lt
  have hE' : ∀ (H : Heap) (locs : List Loc), P1 H ∧ lrow D ty o f H → va_S Aw s.heap H locs → ∀ U : State, U.heap = H → s.WarmedH U.vm → gE true cstrs Ac tE U U.heap := fun H locs hP hS => gE_at hE hS hsub (fun q hq => hfr q ((hE rfl).2.2.2.1 q (Nat.le_trans hS.1 hq)) (Nat.ne_of_gt (Nat.lt_of_lt_of_le ho9 (Nat.le_trans hS.1 hq))))
  have hkp : ∀ H H1 : Heap, lrow D ty o f H → H.size ≤ H1.size → (∀ q : Nat, q < H.size → ¬ Ac q → H1[q]? = H[q]?) → lrow D ty o f H1 := fun H H1 h _ hq => va_at.kept h (hq o (va_at.lt h) hno)
  refine g_aload S dL_pledge_0 rfl ?_
  refine g_iconst S (v := 0) dL_pledge_2 (by decide) ?_
  refine g_aload_n S dL_pledge_3 rfl ?_
  refine g_iload_n S dL_pledge_4 rfl ?_
  refine g_iload_n S dL_pledge_5 rfl ?_
  refine g_iload_n S dL_pledge_6 rfl ?_
  refine g_iload S dL_pledge_7 rfl ?_
  refine g_tcallVX (b0 := x) (As := [.int p1, .int p2, .int p3, .int p4]) (st := [.int 0, .ref o]) S hM (cwV 4 S.2.2.2.2 gL_pledge_X5_pledge rfl hrm.1 hrm.2.1 (by decide +kernel) ⟨Nat.succ_le_succ hrm.2.2.1, (by show 8 + (_ + 11) + rm.locals ≤ 460; have := hrm.2.2.2; omega)⟩) hK hsub hE' hkp (fun H h => h) (fun H h => hrc hK H h.1) rfl (Nat.le_of_ble_eq_true rfl) dL_pledge_9 ⟨(by show 0 + mc ≤ mc; omega), (by show 0 + ms ≤ ms; omega)⟩ ?_
  intro E
  by_cases hE9 : E = "java/lang/IllegalStateException"
  · subst hE9
    refine g_catch (name := "java/lang/IllegalStateException") S.2.2.2.1 [⟨0, 14, 17, 29⟩, ⟨0, 14, 21, 13⟩] ⟨0, 14, 25, 15⟩ [] htb (fun z hz => by
      simp only [List.mem_cons, List.not_mem_nil, or_false] at hz
      rcases hz with rfl | rfl
      · exact Or.inr ⟨by decide, "java/lang/IndexOutOfBoundsException", S.2.2.2.2 _ (List.mem_of_getElem? (i := 1) rfl), (hE rfl).2.2.2.2.2.2.2.2.1.2 ("java/lang/IllegalStateException", "java/lang/IndexOutOfBoundsException") (by simp [ncB])⟩
      · exact Or.inr ⟨by decide, "java/lang/IllegalArgumentException", S.2.2.2.2 _ (List.mem_of_getElem? (i := 2) rfl), (hE rfl).2.2.2.2.2.2.2.2.1.2 ("java/lang/IllegalStateException", "java/lang/IllegalArgumentException") (by simp [ncB])⟩) (by decide) (by decide) (S.2.2.2.2 _ (List.mem_of_getElem? (i := 3) rfl)) (exB_use (hE rfl).2.2.2.2.2.2.2.2.2 args _ (exB_in _ (by simp))) ?_
    intro q
    refine g_P (P' := fun H => P2 H ∧ lrow D ty o f H) (fun H h => ⟨h.1.2, h.2⟩) ?_
    refine g_astore S dL_pledge_25 (by decide) rfl ?_
    refine g_iconst S (v := 3) dL_pledge_27 (by decide) ?_
    exact g_iret S hlk hr (fun H h => ⟨rfl, h⟩) (by omega) (by omega) dL_pledge_28
  · exact g_noX (fun H h => hE9 h.1.1)
set_option maxHeartbeats 1500000 in
set_option maxRecDepth 100000 in
theorem w_redeem {l : Launch} {D : va_G} {ty : Nat → ClassId} {tE x o : Nat} {f : Nat → Int64} {Ac Aw : Nat → Prop} (hsub : ∀ q, Ac q → Aw q) (ho : Aw o) (hno : ¬ Ac o) (hfr : ∀ q, Aw q → q ≠ o → Ac q) {P1 P2 : Heap → Prop} (p1 : Int32) {rm : Room} {mc ms : Nat} {v : Int32} (hM : Met l yX5_redeem wsX5_redeem rm (gPc D ty true cstrs tE Ac [.ref x, .int p1] P1) (gQ Ac (gRet (some (.int v)) P2)) mc ms Ac) (hrm : rm.cells = mc ∧ rm.slots = ms ∧ rm.frames ≤ 12 ∧ rm.locals ≤ 400) (hrc : ∀ {s : State}, gK D ty s → ∀ H, P1 H → ∃ cellB : Cell, H[x]? = some cellB ∧ cellB.vm.isStatics = false ∧ s.vm.findClass RX5 = some cellB.cls) (hk2 : ∀ H H1 : Heap, P2 H → (∀ q : Nat, q ≠ o → H1[q]? = H[q]?) → P2 H1) : Met l yL_redeem wsL_redeem (rmW mc ms) (gPc D ty true cstrs tE Aw [.ref x, .int p1, .ref o] (fun H => P1 H ∧ lrow D ty o f H)) (gQ Aw (gRet (some (.int 0)) (fun H => P2 H ∧ lrow D ty o (vp_updL f 0 v.toInt64) H))) mc ms Aw := by
  refine g_MetH (cc := cL_redeem) (maxL := 4) (ret := some .int) (hh := [(0, 9, 12, 29), (0, 9, 15, 15)]) [some (.ref x), some (.int p1), some (.ref o), none] (by decide) rfl (Nat.le_of_ble_eq_true rfl) rfl ?_
  intro p e s m args below meth c S hlk hr htb hK hE hP0
  have S : CallFix p m c cL_redeem 4 s args wsL_redeem RL := S
  have ho9 : o < s.heap.size := hP0.2.lt
  have hE' : ∀ (H : Heap) (locs : List Loc), P1 H ∧ lrow D ty o f H → va_S Aw s.heap H locs → ∀ U : State, U.heap = H → s.WarmedH U.vm → gE true cstrs Ac tE U U.heap := fun H locs hP hS => gE_at hE hS hsub (fun q hq => hfr q ((hE rfl).2.2.2.1 q (Nat.le_trans hS.1 hq)) (Nat.ne_of_gt (Nat.lt_of_lt_of_le ho9 (Nat.le_trans hS.1 hq))))
  have hkp : ∀ H H1 : Heap, lrow D ty o f H → H.size ≤ H1.size → (∀ q : Nat, q < H.size → ¬ Ac q → H1[q]? = H[q]?) → lrow D ty o f H1 := fun H H1 h _ hq => va_at.kept h (hq o (va_at.lt h) hno)
  refine g_aload_n S dL_redeem_0 rfl ?_
  refine g_iconst S (v := 0) dL_redeem_1 (by decide) ?_
  refine g_aload_n S dL_redeem_2 rfl ?_
  refine g_iload_n S dL_redeem_3 rfl ?_
  refine g_callVX (b0 := x) (As := [.int p1]) (st := [.int 0, .ref o]) S hM (cwV 1 S.2.2.2.2 gL_redeem_X5_redeem rfl hrm.1 hrm.2.1 (by decide +kernel) ⟨Nat.succ_le_succ hrm.2.2.1, (by show 8 + (_ + 11) + rm.locals ≤ 460; have := hrm.2.2.2; omega)⟩) hK hsub hE' hkp (fun H h => h) (fun H h => hrc hK H h.1) rfl (Nat.le_of_ble_eq_true rfl) dL_redeem_4 ⟨(by show 0 + mc ≤ mc; omega), (by show 0 + ms ≤ ms; omega)⟩ ?_
  intro r
  refine g_and (b := r = some (.int v)) (P' := fun H => P2 H ∧ lrow D ty o f H) (fun H h => ⟨h.1.1, h.1.2, h.2⟩) (fun hr9 => ?_)
  subst hr9
  refine g_i2l S dL_redeem_7 ?_
  refine g_last S hK (a := o) (N' := 1) (f := f) (i := 0) (x := v.toInt64) (P' := fun H => P2 H ∧ lrow D ty o (vp_updL f 0 v.toInt64) H) (fun H h => h.2) (fun H h => ho) (fun H H1 h hat _ oq => ⟨hk2 H H1 h.1 oq, hat⟩) vin_01 dL_redeem_8 ?_
  refine g_goto S (tgt := 18) dL_redeem_9 (by decide) ?_
  refine g_iconst S (v := 0) dL_redeem_18 (by decide) ?_
  exact g_iret S hlk hr (fun H h => ⟨rfl, h⟩) (by omega) (by omega) dL_redeem_19
set_option maxHeartbeats 1500000 in
set_option maxRecDepth 100000 in
theorem x_redeem_B {l : Launch} {D : va_G} {ty : Nat → ClassId} {tE x o : Nat} {f : Nat → Int64} {Ac Aw : Nat → Prop} (hsub : ∀ q, Ac q → Aw q) (ho : Aw o) (hno : ¬ Ac o) (hfr : ∀ q, Aw q → q ≠ o → Ac q) {P1 P2 : Heap → Prop} (p1 : Int32) {rm : Room} {mc ms : Nat} (hM : vx_Met l yX5_redeem wsX5_redeem rm (gPc D ty true cstrs tE Ac [.ref x, .int p1] P1) (gQ Ac (fun _ _ => False)) (gX Ac (fun E H => E = "java/lang/IndexOutOfBoundsException" ∧ P2 H)) mc ms Ac) (hrm : rm.cells = mc ∧ rm.slots = ms ∧ rm.frames ≤ 12 ∧ rm.locals ≤ 400) (hrc : ∀ {s : State}, gK D ty s → ∀ H, P1 H → ∃ cellB : Cell, H[x]? = some cellB ∧ cellB.vm.isStatics = false ∧ s.vm.findClass RX5 = some cellB.cls) : Met l yL_redeem wsL_redeem (rmW mc ms) (gPc D ty true cstrs tE Aw [.ref x, .int p1, .ref o] (fun H => P1 H ∧ lrow D ty o f H)) (gQ Aw (gRet (some (.int 1)) (fun H => P2 H ∧ lrow D ty o f H))) mc ms Aw := by
  refine g_MetH (cc := cL_redeem) (maxL := 4) (ret := some .int) (hh := [(0, 9, 12, 29), (0, 9, 15, 15)]) [some (.ref x), some (.int p1), some (.ref o), none] (by decide) rfl (Nat.le_of_ble_eq_true rfl) rfl ?_
  intro p e s m args below meth c S hlk hr htb hK hE hP0
  have S : CallFix p m c cL_redeem 4 s args wsL_redeem RL := S
  have ho9 : o < s.heap.size := hP0.2.lt
  have hE' : ∀ (H : Heap) (locs : List Loc), P1 H ∧ lrow D ty o f H → va_S Aw s.heap H locs → ∀ U : State, U.heap = H → s.WarmedH U.vm → gE true cstrs Ac tE U U.heap := fun H locs hP hS => gE_at hE hS hsub (fun q hq => hfr q ((hE rfl).2.2.2.1 q (Nat.le_trans hS.1 hq)) (Nat.ne_of_gt (Nat.lt_of_lt_of_le ho9 (Nat.le_trans hS.1 hq))))
  have hkp : ∀ H H1 : Heap, lrow D ty o f H → H.size ≤ H1.size → (∀ q : Nat, q < H.size → ¬ Ac q → H1[q]? = H[q]?) → lrow D ty o f H1 := fun H H1 h _ hq => va_at.kept h (hq o (va_at.lt h) hno)
  refine g_aload_n S dL_redeem_0 rfl ?_
  refine g_iconst S (v := 0) dL_redeem_1 (by decide) ?_
  refine g_aload_n S dL_redeem_2 rfl ?_
  refine g_iload_n S dL_redeem_3 rfl ?_
  refine g_tcallVX (b0 := x) (As := [.int p1]) (st := [.int 0, .ref o]) S hM (cwV 1 S.2.2.2.2 gL_redeem_X5_redeem rfl hrm.1 hrm.2.1 (by decide +kernel) ⟨Nat.succ_le_succ hrm.2.2.1, (by show 8 + (_ + 11) + rm.locals ≤ 460; have := hrm.2.2.2; omega)⟩) hK hsub hE' hkp (fun H h => h) (fun H h => hrc hK H h.1) rfl (Nat.le_of_ble_eq_true rfl) dL_redeem_4 ⟨(by show 0 + mc ≤ mc; omega), (by show 0 + ms ≤ ms; omega)⟩ ?_
  intro E
  by_cases hE9 : E = "java/lang/IndexOutOfBoundsException"
  · subst hE9
    refine g_catch (name := "java/lang/IndexOutOfBoundsException") S.2.2.2.1 [] ⟨0, 9, 12, 29⟩ [⟨0, 9, 15, 15⟩] htb (fun z hz => by cases hz) (by decide) (by decide) (S.2.2.2.2 _ (List.mem_of_getElem? (i := 1) rfl)) (exB_use (hE rfl).2.2.2.2.2.2.2.2.2 args _ (exB_in _ (by simp))) ?_
    intro q
    refine g_P (P' := fun H => P2 H ∧ lrow D ty o f H) (fun H h => ⟨h.1.2, h.2⟩) ?_
    refine g_astore_n S dL_redeem_12 (by decide) rfl ?_
    refine g_iconst S (v := 1) dL_redeem_13 (by decide) ?_
    exact g_iret S hlk hr (fun H h => ⟨rfl, h⟩) (by omega) (by omega) dL_redeem_14
  · exact g_noX (fun H h => hE9 h.1.1)
set_option maxHeartbeats 1500000 in
set_option maxRecDepth 100000 in
theorem x_redeem_S {l : Launch} {D : va_G} {ty : Nat → ClassId} {tE x o : Nat} {f : Nat → Int64} {Ac Aw : Nat → Prop} (hsub : ∀ q, Ac q → Aw q) (ho : Aw o) (hno : ¬ Ac o) (hfr : ∀ q, Aw q → q ≠ o → Ac q) {P1 P2 : Heap → Prop} (p1 : Int32) {rm : Room} {mc ms : Nat} (hM : vx_Met l yX5_redeem wsX5_redeem rm (gPc D ty true cstrs tE Ac [.ref x, .int p1] P1) (gQ Ac (fun _ _ => False)) (gX Ac (fun E H => E = "java/lang/IllegalStateException" ∧ P2 H)) mc ms Ac) (hrm : rm.cells = mc ∧ rm.slots = ms ∧ rm.frames ≤ 12 ∧ rm.locals ≤ 400) (hrc : ∀ {s : State}, gK D ty s → ∀ H, P1 H → ∃ cellB : Cell, H[x]? = some cellB ∧ cellB.vm.isStatics = false ∧ s.vm.findClass RX5 = some cellB.cls) : Met l yL_redeem wsL_redeem (rmW mc ms) (gPc D ty true cstrs tE Aw [.ref x, .int p1, .ref o] (fun H => P1 H ∧ lrow D ty o f H)) (gQ Aw (gRet (some (.int 2)) (fun H => P2 H ∧ lrow D ty o f H))) mc ms Aw := by
  refine g_MetH (cc := cL_redeem) (maxL := 4) (ret := some .int) (hh := [(0, 9, 12, 29), (0, 9, 15, 15)]) [some (.ref x), some (.int p1), some (.ref o), none] (by decide) rfl (Nat.le_of_ble_eq_true rfl) rfl ?_
  intro p e s m args below meth c S hlk hr htb hK hE hP0
  have S : CallFix p m c cL_redeem 4 s args wsL_redeem RL := S
  have ho9 : o < s.heap.size := hP0.2.lt
  have hE' : ∀ (H : Heap) (locs : List Loc), P1 H ∧ lrow D ty o f H → va_S Aw s.heap H locs → ∀ U : State, U.heap = H → s.WarmedH U.vm → gE true cstrs Ac tE U U.heap := fun H locs hP hS => gE_at hE hS hsub (fun q hq => hfr q ((hE rfl).2.2.2.1 q (Nat.le_trans hS.1 hq)) (Nat.ne_of_gt (Nat.lt_of_lt_of_le ho9 (Nat.le_trans hS.1 hq))))
  have hkp : ∀ H H1 : Heap, lrow D ty o f H → H.size ≤ H1.size → (∀ q : Nat, q < H.size → ¬ Ac q → H1[q]? = H[q]?) → lrow D ty o f H1 := fun H H1 h _ hq => va_at.kept h (hq o (va_at.lt h) hno)
  refine g_aload_n S dL_redeem_0 rfl ?_
  refine g_iconst S (v := 0) dL_redeem_1 (by decide) ?_
  refine g_aload_n S dL_redeem_2 rfl ?_
  refine g_iload_n S dL_redeem_3 rfl ?_
  refine g_tcallVX (b0 := x) (As := [.int p1]) (st := [.int 0, .ref o]) S hM (cwV 1 S.2.2.2.2 gL_redeem_X5_redeem rfl hrm.1 hrm.2.1 (by decide +kernel) ⟨Nat.succ_le_succ hrm.2.2.1, (by show 8 + (_ + 11) + rm.locals ≤ 460; have := hrm.2.2.2; omega)⟩) hK hsub hE' hkp (fun H h => h) (fun H h => hrc hK H h.1) rfl (Nat.le_of_ble_eq_true rfl) dL_redeem_4 ⟨(by show 0 + mc ≤ mc; omega), (by show 0 + ms ≤ ms; omega)⟩ ?_
  intro E
  by_cases hE9 : E = "java/lang/IllegalStateException"
  · subst hE9
    refine g_catch (name := "java/lang/IllegalStateException") S.2.2.2.1 [⟨0, 9, 12, 29⟩] ⟨0, 9, 15, 15⟩ [] htb (fun z hz => by
      simp only [List.mem_cons, List.not_mem_nil, or_false] at hz
      subst hz
      exact Or.inr ⟨by decide, "java/lang/IndexOutOfBoundsException", S.2.2.2.2 _ (List.mem_of_getElem? (i := 1) rfl), (hE rfl).2.2.2.2.2.2.2.2.1.2 ("java/lang/IllegalStateException", "java/lang/IndexOutOfBoundsException") (by simp [ncB])⟩) (by decide) (by decide) (S.2.2.2.2 _ (List.mem_of_getElem? (i := 2) rfl)) (exB_use (hE rfl).2.2.2.2.2.2.2.2.2 args _ (exB_in _ (by simp))) ?_
    intro q
    refine g_P (P' := fun H => P2 H ∧ lrow D ty o f H) (fun H h => ⟨h.1.2, h.2⟩) ?_
    refine g_astore_n S dL_redeem_15 (by decide) rfl ?_
    refine g_iconst S (v := 2) dL_redeem_16 (by decide) ?_
    exact g_iret S hlk hr (fun H h => ⟨rfl, h⟩) (by omega) (by omega) dL_redeem_17
  · exact g_noX (fun H h => hE9 h.1.1)
set_option maxHeartbeats 1500000 in
set_option maxRecDepth 100000 in
theorem w_takeOut {l : Launch} {D : va_G} {ty : Nat → ClassId} {tE x o : Nat} {f : Nat → Int64} {Ac Aw : Nat → Prop} (hsub : ∀ q, Ac q → Aw q) (ho : Aw o) (hno : ¬ Ac o) (hfr : ∀ q, Aw q → q ≠ o → Ac q) {P1 P2 : Heap → Prop} (p1 : Int32) {rm : Room} {mc ms : Nat} {v : Int32} (hM : Met l yX5_takeOut wsX5_takeOut rm (gPc D ty true cstrs tE Ac [.ref x, .int p1] P1) (gQ Ac (gRet (some (.int v)) P2)) mc ms Ac) (hrm : rm.cells = mc ∧ rm.slots = ms ∧ rm.frames ≤ 12 ∧ rm.locals ≤ 400) (hrc : ∀ {s : State}, gK D ty s → ∀ H, P1 H → ∃ cellB : Cell, H[x]? = some cellB ∧ cellB.vm.isStatics = false ∧ s.vm.findClass RX5 = some cellB.cls) (hk2 : ∀ H H1 : Heap, P2 H → (∀ q : Nat, q ≠ o → H1[q]? = H[q]?) → P2 H1) : Met l yL_takeOut wsL_takeOut (rmW mc ms) (gPc D ty true cstrs tE Aw [.ref x, .int p1, .ref o] (fun H => P1 H ∧ lrow D ty o f H)) (gQ Aw (gRet (some (.int 0)) (fun H => P2 H ∧ lrow D ty o (vp_updL f 0 v.toInt64) H))) mc ms Aw := by
  refine g_MetH (cc := cL_takeOut) (maxL := 4) (ret := some .int) (hh := [(0, 9, 12, 29), (0, 9, 15, 15)]) [some (.ref x), some (.int p1), some (.ref o), none] (by decide) rfl (Nat.le_of_ble_eq_true rfl) rfl ?_
  intro p e s m args below meth c S hlk hr htb hK hE hP0
  have S : CallFix p m c cL_takeOut 4 s args wsL_takeOut RL := S
  have ho9 : o < s.heap.size := hP0.2.lt
  have hE' : ∀ (H : Heap) (locs : List Loc), P1 H ∧ lrow D ty o f H → va_S Aw s.heap H locs → ∀ U : State, U.heap = H → s.WarmedH U.vm → gE true cstrs Ac tE U U.heap := fun H locs hP hS => gE_at hE hS hsub (fun q hq => hfr q ((hE rfl).2.2.2.1 q (Nat.le_trans hS.1 hq)) (Nat.ne_of_gt (Nat.lt_of_lt_of_le ho9 (Nat.le_trans hS.1 hq))))
  have hkp : ∀ H H1 : Heap, lrow D ty o f H → H.size ≤ H1.size → (∀ q : Nat, q < H.size → ¬ Ac q → H1[q]? = H[q]?) → lrow D ty o f H1 := fun H H1 h _ hq => va_at.kept h (hq o (va_at.lt h) hno)
  refine g_aload_n S dL_takeOut_0 rfl ?_
  refine g_iconst S (v := 0) dL_takeOut_1 (by decide) ?_
  refine g_aload_n S dL_takeOut_2 rfl ?_
  refine g_iload_n S dL_takeOut_3 rfl ?_
  refine g_callVX (b0 := x) (As := [.int p1]) (st := [.int 0, .ref o]) S hM (cwV 1 S.2.2.2.2 gL_takeOut_X5_takeOut rfl hrm.1 hrm.2.1 (by decide +kernel) ⟨Nat.succ_le_succ hrm.2.2.1, (by show 8 + (_ + 11) + rm.locals ≤ 460; have := hrm.2.2.2; omega)⟩) hK hsub hE' hkp (fun H h => h) (fun H h => hrc hK H h.1) rfl (Nat.le_of_ble_eq_true rfl) dL_takeOut_4 ⟨(by show 0 + mc ≤ mc; omega), (by show 0 + ms ≤ ms; omega)⟩ ?_
  intro r
  refine g_and (b := r = some (.int v)) (P' := fun H => P2 H ∧ lrow D ty o f H) (fun H h => ⟨h.1.1, h.1.2, h.2⟩) (fun hr9 => ?_)
  subst hr9
  refine g_i2l S dL_takeOut_7 ?_
  refine g_last S hK (a := o) (N' := 1) (f := f) (i := 0) (x := v.toInt64) (P' := fun H => P2 H ∧ lrow D ty o (vp_updL f 0 v.toInt64) H) (fun H h => h.2) (fun H h => ho) (fun H H1 h hat _ oq => ⟨hk2 H H1 h.1 oq, hat⟩) vin_01 dL_takeOut_8 ?_
  refine g_goto S (tgt := 18) dL_takeOut_9 (by decide) ?_
  refine g_iconst S (v := 0) dL_takeOut_18 (by decide) ?_
  exact g_iret S hlk hr (fun H h => ⟨rfl, h⟩) (by omega) (by omega) dL_takeOut_19
set_option maxHeartbeats 1500000 in
set_option maxRecDepth 100000 in
theorem x_takeOut_B {l : Launch} {D : va_G} {ty : Nat → ClassId} {tE x o : Nat} {f : Nat → Int64} {Ac Aw : Nat → Prop} (hsub : ∀ q, Ac q → Aw q) (ho : Aw o) (hno : ¬ Ac o) (hfr : ∀ q, Aw q → q ≠ o → Ac q) {P1 P2 : Heap → Prop} (p1 : Int32) {rm : Room} {mc ms : Nat} (hM : vx_Met l yX5_takeOut wsX5_takeOut rm (gPc D ty true cstrs tE Ac [.ref x, .int p1] P1) (gQ Ac (fun _ _ => False)) (gX Ac (fun E H => E = "java/lang/IndexOutOfBoundsException" ∧ P2 H)) mc ms Ac) (hrm : rm.cells = mc ∧ rm.slots = ms ∧ rm.frames ≤ 12 ∧ rm.locals ≤ 400) (hrc : ∀ {s : State}, gK D ty s → ∀ H, P1 H → ∃ cellB : Cell, H[x]? = some cellB ∧ cellB.vm.isStatics = false ∧ s.vm.findClass RX5 = some cellB.cls) : Met l yL_takeOut wsL_takeOut (rmW mc ms) (gPc D ty true cstrs tE Aw [.ref x, .int p1, .ref o] (fun H => P1 H ∧ lrow D ty o f H)) (gQ Aw (gRet (some (.int 1)) (fun H => P2 H ∧ lrow D ty o f H))) mc ms Aw := by
  refine g_MetH (cc := cL_takeOut) (maxL := 4) (ret := some .int) (hh := [(0, 9, 12, 29), (0, 9, 15, 15)]) [some (.ref x), some (.int p1), some (.ref o), none] (by decide) rfl (Nat.le_of_ble_eq_true rfl) rfl ?_
  intro p e s m args below meth c S hlk hr htb hK hE hP0
  have S : CallFix p m c cL_takeOut 4 s args wsL_takeOut RL := S
  have ho9 : o < s.heap.size := hP0.2.lt
  have hE' : ∀ (H : Heap) (locs : List Loc), P1 H ∧ lrow D ty o f H → va_S Aw s.heap H locs → ∀ U : State, U.heap = H → s.WarmedH U.vm → gE true cstrs Ac tE U U.heap := fun H locs hP hS => gE_at hE hS hsub (fun q hq => hfr q ((hE rfl).2.2.2.1 q (Nat.le_trans hS.1 hq)) (Nat.ne_of_gt (Nat.lt_of_lt_of_le ho9 (Nat.le_trans hS.1 hq))))
  have hkp : ∀ H H1 : Heap, lrow D ty o f H → H.size ≤ H1.size → (∀ q : Nat, q < H.size → ¬ Ac q → H1[q]? = H[q]?) → lrow D ty o f H1 := fun H H1 h _ hq => va_at.kept h (hq o (va_at.lt h) hno)
  refine g_aload_n S dL_takeOut_0 rfl ?_
  refine g_iconst S (v := 0) dL_takeOut_1 (by decide) ?_
  refine g_aload_n S dL_takeOut_2 rfl ?_
  refine g_iload_n S dL_takeOut_3 rfl ?_
  refine g_tcallVX (b0 := x) (As := [.int p1]) (st := [.int 0, .ref o]) S hM (cwV 1 S.2.2.2.2 gL_takeOut_X5_takeOut rfl hrm.1 hrm.2.1 (by decide +kernel) ⟨Nat.succ_le_succ hrm.2.2.1, (by show 8 + (_ + 11) + rm.locals ≤ 460; have := hrm.2.2.2; omega)⟩) hK hsub hE' hkp (fun H h => h) (fun H h => hrc hK H h.1) rfl (Nat.le_of_ble_eq_true rfl) dL_takeOut_4 ⟨(by show 0 + mc ≤ mc; omega), (by show 0 + ms ≤ ms; omega)⟩ ?_
  intro E
  by_cases hE9 : E = "java/lang/IndexOutOfBoundsException"
  · subst hE9
    refine g_catch (name := "java/lang/IndexOutOfBoundsException") S.2.2.2.1 [] ⟨0, 9, 12, 29⟩ [⟨0, 9, 15, 15⟩] htb (fun z hz => by cases hz) (by decide) (by decide) (S.2.2.2.2 _ (List.mem_of_getElem? (i := 1) rfl)) (exB_use (hE rfl).2.2.2.2.2.2.2.2.2 args _ (exB_in _ (by simp))) ?_
    intro q
    refine g_P (P' := fun H => P2 H ∧ lrow D ty o f H) (fun H h => ⟨h.1.2, h.2⟩) ?_
    refine g_astore_n S dL_takeOut_12 (by decide) rfl ?_
    refine g_iconst S (v := 1) dL_takeOut_13 (by decide) ?_
    exact g_iret S hlk hr (fun H h => ⟨rfl, h⟩) (by omega) (by omega) dL_takeOut_14
  · exact g_noX (fun H h => hE9 h.1.1)
set_option maxHeartbeats 1500000 in
set_option maxRecDepth 100000 in
theorem x_takeOut_S {l : Launch} {D : va_G} {ty : Nat → ClassId} {tE x o : Nat} {f : Nat → Int64} {Ac Aw : Nat → Prop} (hsub : ∀ q, Ac q → Aw q) (ho : Aw o) (hno : ¬ Ac o) (hfr : ∀ q, Aw q → q ≠ o → Ac q) {P1 P2 : Heap → Prop} (p1 : Int32) {rm : Room} {mc ms : Nat} (hM : vx_Met l yX5_takeOut wsX5_takeOut rm (gPc D ty true cstrs tE Ac [.ref x, .int p1] P1) (gQ Ac (fun _ _ => False)) (gX Ac (fun E H => E = "java/lang/IllegalStateException" ∧ P2 H)) mc ms Ac) (hrm : rm.cells = mc ∧ rm.slots = ms ∧ rm.frames ≤ 12 ∧ rm.locals ≤ 400) (hrc : ∀ {s : State}, gK D ty s → ∀ H, P1 H → ∃ cellB : Cell, H[x]? = some cellB ∧ cellB.vm.isStatics = false ∧ s.vm.findClass RX5 = some cellB.cls) : Met l yL_takeOut wsL_takeOut (rmW mc ms) (gPc D ty true cstrs tE Aw [.ref x, .int p1, .ref o] (fun H => P1 H ∧ lrow D ty o f H)) (gQ Aw (gRet (some (.int 2)) (fun H => P2 H ∧ lrow D ty o f H))) mc ms Aw := by
  refine g_MetH (cc := cL_takeOut) (maxL := 4) (ret := some .int) (hh := [(0, 9, 12, 29), (0, 9, 15, 15)]) [some (.ref x), some (.int p1), some (.ref o), none] (by decide) rfl (Nat.le_of_ble_eq_true rfl) rfl ?_
  intro p e s m args below meth c S hlk hr htb hK hE hP0
  have S : CallFix p m c cL_takeOut 4 s args wsL_takeOut RL := S
  have ho9 : o < s.heap.size := hP0.2.lt
  have hE' : ∀ (H : Heap) (locs : List Loc), P1 H ∧ lrow D ty o f H → va_S Aw s.heap H locs → ∀ U : State, U.heap = H → s.WarmedH U.vm → gE true cstrs Ac tE U U.heap := fun H locs hP hS => gE_at hE hS hsub (fun q hq => hfr q ((hE rfl).2.2.2.1 q (Nat.le_trans hS.1 hq)) (Nat.ne_of_gt (Nat.lt_of_lt_of_le ho9 (Nat.le_trans hS.1 hq))))
  have hkp : ∀ H H1 : Heap, lrow D ty o f H → H.size ≤ H1.size → (∀ q : Nat, q < H.size → ¬ Ac q → H1[q]? = H[q]?) → lrow D ty o f H1 := fun H H1 h _ hq => va_at.kept h (hq o (va_at.lt h) hno)
  refine g_aload_n S dL_takeOut_0 rfl ?_
  refine g_iconst S (v := 0) dL_takeOut_1 (by decide) ?_
  refine g_aload_n S dL_takeOut_2 rfl ?_
  refine g_iload_n S dL_takeOut_3 rfl ?_
  refine g_tcallVX (b0 := x) (As := [.int p1]) (st := [.int 0, .ref o]) S hM (cwV 1 S.2.2.2.2 gL_takeOut_X5_takeOut rfl hrm.1 hrm.2.1 (by decide +kernel) ⟨Nat.succ_le_succ hrm.2.2.1, (by show 8 + (_ + 11) + rm.locals ≤ 460; have := hrm.2.2.2; omega)⟩) hK hsub hE' hkp (fun H h => h) (fun H h => hrc hK H h.1) rfl (Nat.le_of_ble_eq_true rfl) dL_takeOut_4 ⟨(by show 0 + mc ≤ mc; omega), (by show 0 + ms ≤ ms; omega)⟩ ?_
  intro E
  by_cases hE9 : E = "java/lang/IllegalStateException"
  · subst hE9
    refine g_catch (name := "java/lang/IllegalStateException") S.2.2.2.1 [⟨0, 9, 12, 29⟩] ⟨0, 9, 15, 15⟩ [] htb (fun z hz => by
      simp only [List.mem_cons, List.not_mem_nil, or_false] at hz
      subst hz
      exact Or.inr ⟨by decide, "java/lang/IndexOutOfBoundsException", S.2.2.2.2 _ (List.mem_of_getElem? (i := 1) rfl), (hE rfl).2.2.2.2.2.2.2.2.1.2 ("java/lang/IllegalStateException", "java/lang/IndexOutOfBoundsException") (by simp [ncB])⟩) (by decide) (by decide) (S.2.2.2.2 _ (List.mem_of_getElem? (i := 2) rfl)) (exB_use (hE rfl).2.2.2.2.2.2.2.2.2 args _ (exB_in _ (by simp))) ?_
    intro q
    refine g_P (P' := fun H => P2 H ∧ lrow D ty o f H) (fun H h => ⟨h.1.2, h.2⟩) ?_
    refine g_astore_n S dL_takeOut_15 (by decide) rfl ?_
    refine g_iconst S (v := 2) dL_takeOut_16 (by decide) ?_
    exact g_iret S hlk hr (fun H h => ⟨rfl, h⟩) (by omega) (by omega) dL_takeOut_17
  · exact g_noX (fun H h => hE9 h.1.1)
set_option maxHeartbeats 1500000 in
set_option maxRecDepth 100000 in
theorem w_reweigh {l : Launch} {D : va_G} {ty : Nat → ClassId} {tE x o : Nat} {f : Nat → Int64} {Ac Aw : Nat → Prop} (hsub : ∀ q, Ac q → Aw q) (ho : Aw o) (hno : ¬ Ac o) (hfr : ∀ q, Aw q → q ≠ o → Ac q) {P1 P2 : Heap → Prop} (p1 p2 : Int32) {rm : Room} {mc ms : Nat} {v : Int32} (hM : Met l yX5_reweigh wsX5_reweigh rm (gPc D ty true cstrs tE Ac [.ref x, .int p1, .int p2] P1) (gQ Ac (gRet (some (.int v)) P2)) mc ms Ac) (hrm : rm.cells = mc ∧ rm.slots = ms ∧ rm.frames ≤ 12 ∧ rm.locals ≤ 400) (hrc : ∀ {s : State}, gK D ty s → ∀ H, P1 H → ∃ cellB : Cell, H[x]? = some cellB ∧ cellB.vm.isStatics = false ∧ s.vm.findClass RX5 = some cellB.cls) (hk2 : ∀ H H1 : Heap, P2 H → (∀ q : Nat, q ≠ o → H1[q]? = H[q]?) → P2 H1) : Met l yL_reweigh wsL_reweigh (rmW mc ms) (gPc D ty true cstrs tE Aw [.ref x, .int p1, .int p2, .ref o] (fun H => P1 H ∧ lrow D ty o f H)) (gQ Aw (gRet (some (.int 0)) (fun H => P2 H ∧ lrow D ty o (vp_updL f 0 v.toInt64) H))) mc ms Aw := by
  refine g_MetH (cc := cL_reweigh) (maxL := 5) (ret := some .int) (hh := [(0, 10, 13, 29), (0, 10, 17, 13), (0, 10, 21, 15)]) [some (.ref x), some (.int p1), some (.int p2), some (.ref o), none] (by decide) rfl (Nat.le_of_ble_eq_true rfl) rfl ?_
  intro p e s m args below meth c S hlk hr htb hK hE hP0
  have S : CallFix p m c cL_reweigh 5 s args wsL_reweigh RL := S
  have ho9 : o < s.heap.size := hP0.2.lt
  have hE' : ∀ (H : Heap) (locs : List Loc), P1 H ∧ lrow D ty o f H → va_S Aw s.heap H locs → ∀ U : State, U.heap = H → s.WarmedH U.vm → gE true cstrs Ac tE U U.heap := fun H locs hP hS => gE_at hE hS hsub (fun q hq => hfr q ((hE rfl).2.2.2.1 q (Nat.le_trans hS.1 hq)) (Nat.ne_of_gt (Nat.lt_of_lt_of_le ho9 (Nat.le_trans hS.1 hq))))
  have hkp : ∀ H H1 : Heap, lrow D ty o f H → H.size ≤ H1.size → (∀ q : Nat, q < H.size → ¬ Ac q → H1[q]? = H[q]?) → lrow D ty o f H1 := fun H H1 h _ hq => va_at.kept h (hq o (va_at.lt h) hno)
  refine g_aload_n S dL_reweigh_0 rfl ?_
  refine g_iconst S (v := 0) dL_reweigh_1 (by decide) ?_
  refine g_aload_n S dL_reweigh_2 rfl ?_
  refine g_iload_n S dL_reweigh_3 rfl ?_
  refine g_iload_n S dL_reweigh_4 rfl ?_
  refine g_callVX (b0 := x) (As := [.int p1, .int p2]) (st := [.int 0, .ref o]) S hM (cwV 2 S.2.2.2.2 gL_reweigh_X5_reweigh rfl hrm.1 hrm.2.1 (by decide +kernel) ⟨Nat.succ_le_succ hrm.2.2.1, (by show 8 + (_ + 11) + rm.locals ≤ 460; have := hrm.2.2.2; omega)⟩) hK hsub hE' hkp (fun H h => h) (fun H h => hrc hK H h.1) rfl (Nat.le_of_ble_eq_true rfl) dL_reweigh_5 ⟨(by show 0 + mc ≤ mc; omega), (by show 0 + ms ≤ ms; omega)⟩ ?_
  intro r
  refine g_and (b := r = some (.int v)) (P' := fun H => P2 H ∧ lrow D ty o f H) (fun H h => ⟨h.1.1, h.1.2, h.2⟩) (fun hr9 => ?_)
  subst hr9
  refine g_i2l S dL_reweigh_8 ?_
  refine g_last S hK (a := o) (N' := 1) (f := f) (i := 0) (x := v.toInt64) (P' := fun H => P2 H ∧ lrow D ty o (vp_updL f 0 v.toInt64) H) (fun H h => h.2) (fun H h => ho) (fun H H1 h hat _ oq => ⟨hk2 H H1 h.1 oq, hat⟩) vin_01 dL_reweigh_9 ?_
  refine g_goto S (tgt := 25) dL_reweigh_10 (by decide) ?_
  refine g_iconst S (v := 0) dL_reweigh_25 (by decide) ?_
  exact g_iret S hlk hr (fun H h => ⟨rfl, h⟩) (by omega) (by omega) dL_reweigh_26
set_option maxHeartbeats 1500000 in
set_option maxRecDepth 100000 in
theorem x_reweigh_B {l : Launch} {D : va_G} {ty : Nat → ClassId} {tE x o : Nat} {f : Nat → Int64} {Ac Aw : Nat → Prop} (hsub : ∀ q, Ac q → Aw q) (ho : Aw o) (hno : ¬ Ac o) (hfr : ∀ q, Aw q → q ≠ o → Ac q) {P1 P2 : Heap → Prop} (p1 p2 : Int32) {rm : Room} {mc ms : Nat} (hM : vx_Met l yX5_reweigh wsX5_reweigh rm (gPc D ty true cstrs tE Ac [.ref x, .int p1, .int p2] P1) (gQ Ac (fun _ _ => False)) (gX Ac (fun E H => E = "java/lang/IndexOutOfBoundsException" ∧ P2 H)) mc ms Ac) (hrm : rm.cells = mc ∧ rm.slots = ms ∧ rm.frames ≤ 12 ∧ rm.locals ≤ 400) (hrc : ∀ {s : State}, gK D ty s → ∀ H, P1 H → ∃ cellB : Cell, H[x]? = some cellB ∧ cellB.vm.isStatics = false ∧ s.vm.findClass RX5 = some cellB.cls) : Met l yL_reweigh wsL_reweigh (rmW mc ms) (gPc D ty true cstrs tE Aw [.ref x, .int p1, .int p2, .ref o] (fun H => P1 H ∧ lrow D ty o f H)) (gQ Aw (gRet (some (.int 1)) (fun H => P2 H ∧ lrow D ty o f H))) mc ms Aw := by
  refine g_MetH (cc := cL_reweigh) (maxL := 5) (ret := some .int) (hh := [(0, 10, 13, 29), (0, 10, 17, 13), (0, 10, 21, 15)]) [some (.ref x), some (.int p1), some (.int p2), some (.ref o), none] (by decide) rfl (Nat.le_of_ble_eq_true rfl) rfl ?_
  intro p e s m args below meth c S hlk hr htb hK hE hP0
  have S : CallFix p m c cL_reweigh 5 s args wsL_reweigh RL := S
  have ho9 : o < s.heap.size := hP0.2.lt
  have hE' : ∀ (H : Heap) (locs : List Loc), P1 H ∧ lrow D ty o f H → va_S Aw s.heap H locs → ∀ U : State, U.heap = H → s.WarmedH U.vm → gE true cstrs Ac tE U U.heap := fun H locs hP hS => gE_at hE hS hsub (fun q hq => hfr q ((hE rfl).2.2.2.1 q (Nat.le_trans hS.1 hq)) (Nat.ne_of_gt (Nat.lt_of_lt_of_le ho9 (Nat.le_trans hS.1 hq))))
  have hkp : ∀ H H1 : Heap, lrow D ty o f H → H.size ≤ H1.size → (∀ q : Nat, q < H.size → ¬ Ac q → H1[q]? = H[q]?) → lrow D ty o f H1 := fun H H1 h _ hq => va_at.kept h (hq o (va_at.lt h) hno)
  refine g_aload_n S dL_reweigh_0 rfl ?_
  refine g_iconst S (v := 0) dL_reweigh_1 (by decide) ?_
  refine g_aload_n S dL_reweigh_2 rfl ?_
  refine g_iload_n S dL_reweigh_3 rfl ?_
  refine g_iload_n S dL_reweigh_4 rfl ?_
  refine g_tcallVX (b0 := x) (As := [.int p1, .int p2]) (st := [.int 0, .ref o]) S hM (cwV 2 S.2.2.2.2 gL_reweigh_X5_reweigh rfl hrm.1 hrm.2.1 (by decide +kernel) ⟨Nat.succ_le_succ hrm.2.2.1, (by show 8 + (_ + 11) + rm.locals ≤ 460; have := hrm.2.2.2; omega)⟩) hK hsub hE' hkp (fun H h => h) (fun H h => hrc hK H h.1) rfl (Nat.le_of_ble_eq_true rfl) dL_reweigh_5 ⟨(by show 0 + mc ≤ mc; omega), (by show 0 + ms ≤ ms; omega)⟩ ?_
  intro E
  by_cases hE9 : E = "java/lang/IndexOutOfBoundsException"
  · subst hE9
    refine g_catch (name := "java/lang/IndexOutOfBoundsException") S.2.2.2.1 [] ⟨0, 10, 13, 29⟩ [⟨0, 10, 17, 13⟩, ⟨0, 10, 21, 15⟩] htb (fun z hz => by cases hz) (by decide) (by decide) (S.2.2.2.2 _ (List.mem_of_getElem? (i := 1) rfl)) (exB_use (hE rfl).2.2.2.2.2.2.2.2.2 args _ (exB_in _ (by simp))) ?_
    intro q
    refine g_P (P' := fun H => P2 H ∧ lrow D ty o f H) (fun H h => ⟨h.1.2, h.2⟩) ?_
    refine g_astore S dL_reweigh_13 (by decide) rfl ?_
    refine g_iconst S (v := 1) dL_reweigh_15 (by decide) ?_
    exact g_iret S hlk hr (fun H h => ⟨rfl, h⟩) (by omega) (by omega) dL_reweigh_16
  · exact g_noX (fun H h => hE9 h.1.1)
set_option maxHeartbeats 1500000 in
set_option maxRecDepth 100000 in
theorem x_reweigh_A {l : Launch} {D : va_G} {ty : Nat → ClassId} {tE x o : Nat} {f : Nat → Int64} {Ac Aw : Nat → Prop} (hsub : ∀ q, Ac q → Aw q) (ho : Aw o) (hno : ¬ Ac o) (hfr : ∀ q, Aw q → q ≠ o → Ac q) {P1 P2 : Heap → Prop} (p1 p2 : Int32) {rm : Room} {mc ms : Nat} (hM : vx_Met l yX5_reweigh wsX5_reweigh rm (gPc D ty true cstrs tE Ac [.ref x, .int p1, .int p2] P1) (gQ Ac (fun _ _ => False)) (gX Ac (fun E H => E = "java/lang/IllegalArgumentException" ∧ P2 H)) mc ms Ac) (hrm : rm.cells = mc ∧ rm.slots = ms ∧ rm.frames ≤ 12 ∧ rm.locals ≤ 400) (hrc : ∀ {s : State}, gK D ty s → ∀ H, P1 H → ∃ cellB : Cell, H[x]? = some cellB ∧ cellB.vm.isStatics = false ∧ s.vm.findClass RX5 = some cellB.cls) : Met l yL_reweigh wsL_reweigh (rmW mc ms) (gPc D ty true cstrs tE Aw [.ref x, .int p1, .int p2, .ref o] (fun H => P1 H ∧ lrow D ty o f H)) (gQ Aw (gRet (some (.int 2)) (fun H => P2 H ∧ lrow D ty o f H))) mc ms Aw := by
  refine g_MetH (cc := cL_reweigh) (maxL := 5) (ret := some .int) (hh := [(0, 10, 13, 29), (0, 10, 17, 13), (0, 10, 21, 15)]) [some (.ref x), some (.int p1), some (.int p2), some (.ref o), none] (by decide) rfl (Nat.le_of_ble_eq_true rfl) rfl ?_
  intro p e s m args below meth c S hlk hr htb hK hE hP0
  have S : CallFix p m c cL_reweigh 5 s args wsL_reweigh RL := S
  have ho9 : o < s.heap.size := hP0.2.lt
  have hE' : ∀ (H : Heap) (locs : List Loc), P1 H ∧ lrow D ty o f H → va_S Aw s.heap H locs → ∀ U : State, U.heap = H → s.WarmedH U.vm → gE true cstrs Ac tE U U.heap := fun H locs hP hS => gE_at hE hS hsub (fun q hq => hfr q ((hE rfl).2.2.2.1 q (Nat.le_trans hS.1 hq)) (Nat.ne_of_gt (Nat.lt_of_lt_of_le ho9 (Nat.le_trans hS.1 hq))))
  have hkp : ∀ H H1 : Heap, lrow D ty o f H → H.size ≤ H1.size → (∀ q : Nat, q < H.size → ¬ Ac q → H1[q]? = H[q]?) → lrow D ty o f H1 := fun H H1 h _ hq => va_at.kept h (hq o (va_at.lt h) hno)
  refine g_aload_n S dL_reweigh_0 rfl ?_
  refine g_iconst S (v := 0) dL_reweigh_1 (by decide) ?_
  refine g_aload_n S dL_reweigh_2 rfl ?_
  refine g_iload_n S dL_reweigh_3 rfl ?_
  refine g_iload_n S dL_reweigh_4 rfl ?_
  refine g_tcallVX (b0 := x) (As := [.int p1, .int p2]) (st := [.int 0, .ref o]) S hM (cwV 2 S.2.2.2.2 gL_reweigh_X5_reweigh rfl hrm.1 hrm.2.1 (by decide +kernel) ⟨Nat.succ_le_succ hrm.2.2.1, (by show 8 + (_ + 11) + rm.locals ≤ 460; have := hrm.2.2.2; omega)⟩) hK hsub hE' hkp (fun H h => h) (fun H h => hrc hK H h.1) rfl (Nat.le_of_ble_eq_true rfl) dL_reweigh_5 ⟨(by show 0 + mc ≤ mc; omega), (by show 0 + ms ≤ ms; omega)⟩ ?_
  intro E
  by_cases hE9 : E = "java/lang/IllegalArgumentException"
  · subst hE9
    refine g_catch (name := "java/lang/IllegalArgumentException") S.2.2.2.1 [⟨0, 10, 13, 29⟩] ⟨0, 10, 17, 13⟩ [⟨0, 10, 21, 15⟩] htb (fun z hz => by
      simp only [List.mem_cons, List.not_mem_nil, or_false] at hz
      subst hz
      exact Or.inr ⟨by decide, "java/lang/IndexOutOfBoundsException", S.2.2.2.2 _ (List.mem_of_getElem? (i := 1) rfl), (hE rfl).2.2.2.2.2.2.2.2.1.2 ("java/lang/IllegalArgumentException", "java/lang/IndexOutOfBoundsException") (by simp [ncB])⟩) (by decide) (by decide) (S.2.2.2.2 _ (List.mem_of_getElem? (i := 2) rfl)) (exB_use (hE rfl).2.2.2.2.2.2.2.2.2 args _ (exB_in _ (by simp))) ?_
    intro q
    refine g_P (P' := fun H => P2 H ∧ lrow D ty o f H) (fun H h => ⟨h.1.2, h.2⟩) ?_
    refine g_astore S dL_reweigh_17 (by decide) rfl ?_
    refine g_iconst S (v := 2) dL_reweigh_19 (by decide) ?_
    exact g_iret S hlk hr (fun H h => ⟨rfl, h⟩) (by omega) (by omega) dL_reweigh_20
  · exact g_noX (fun H h => hE9 h.1.1)
set_option maxHeartbeats 1500000 in
set_option maxRecDepth 100000 in
theorem x_reweigh_S {l : Launch} {D : va_G} {ty : Nat → ClassId} {tE x o : Nat} {f : Nat → Int64} {Ac Aw : Nat → Prop} (hsub : ∀ q, Ac q → Aw q) (ho : Aw o) (hno : ¬ Ac o) (hfr : ∀ q, Aw q → q ≠ o → Ac q) {P1 P2 : Heap → Prop} (p1 p2 : Int32) {rm : Room} {mc ms : Nat} (hM : vx_Met l yX5_reweigh wsX5_reweigh rm (gPc D ty true cstrs tE Ac [.ref x, .int p1, .int p2] P1) (gQ Ac (fun _ _ => False)) (gX Ac (fun E H => E = "java/lang/IllegalStateException" ∧ P2 H)) mc ms Ac) (hrm : rm.cells = mc ∧ rm.slots = ms ∧ rm.frames ≤ 12 ∧ rm.locals ≤ 400) (hrc : ∀ {s : State}, gK D ty s → ∀ H, P1 H → ∃ cellB : Cell, H[x]? = some cellB ∧ cellB.vm.isStatics = false ∧ s.vm.findClass RX5 = some cellB.cls) : Met l yL_reweigh wsL_reweigh (rmW mc ms) (gPc D ty true cstrs tE Aw [.ref x, .int p1, .int p2, .ref o] (fun H => P1 H ∧ lrow D ty o f H)) (gQ Aw (gRet (some (.int 3)) (fun H => P2 H ∧ lrow D ty o f H))) mc ms Aw := by
  refine g_MetH (cc := cL_reweigh) (maxL := 5) (ret := some .int) (hh := [(0, 10, 13, 29), (0, 10, 17, 13), (0, 10, 21, 15)]) [some (.ref x), some (.int p1), some (.int p2), some (.ref o), none] (by decide) rfl (Nat.le_of_ble_eq_true rfl) rfl ?_
  intro p e s m args below meth c S hlk hr htb hK hE hP0
  have S : CallFix p m c cL_reweigh 5 s args wsL_reweigh RL := S
  have ho9 : o < s.heap.size := hP0.2.lt
  have hE' : ∀ (H : Heap) (locs : List Loc), P1 H ∧ lrow D ty o f H → va_S Aw s.heap H locs → ∀ U : State, U.heap = H → s.WarmedH U.vm → gE true cstrs Ac tE U U.heap := fun H locs hP hS => gE_at hE hS hsub (fun q hq => hfr q ((hE rfl).2.2.2.1 q (Nat.le_trans hS.1 hq)) (Nat.ne_of_gt (Nat.lt_of_lt_of_le ho9 (Nat.le_trans hS.1 hq))))
  have hkp : ∀ H H1 : Heap, lrow D ty o f H → H.size ≤ H1.size → (∀ q : Nat, q < H.size → ¬ Ac q → H1[q]? = H[q]?) → lrow D ty o f H1 := fun H H1 h _ hq => va_at.kept h (hq o (va_at.lt h) hno)
  refine g_aload_n S dL_reweigh_0 rfl ?_
  refine g_iconst S (v := 0) dL_reweigh_1 (by decide) ?_
  refine g_aload_n S dL_reweigh_2 rfl ?_
  refine g_iload_n S dL_reweigh_3 rfl ?_
  refine g_iload_n S dL_reweigh_4 rfl ?_
  refine g_tcallVX (b0 := x) (As := [.int p1, .int p2]) (st := [.int 0, .ref o]) S hM (cwV 2 S.2.2.2.2 gL_reweigh_X5_reweigh rfl hrm.1 hrm.2.1 (by decide +kernel) ⟨Nat.succ_le_succ hrm.2.2.1, (by show 8 + (_ + 11) + rm.locals ≤ 460; have := hrm.2.2.2; omega)⟩) hK hsub hE' hkp (fun H h => h) (fun H h => hrc hK H h.1) rfl (Nat.le_of_ble_eq_true rfl) dL_reweigh_5 ⟨(by show 0 + mc ≤ mc; omega), (by show 0 + ms ≤ ms; omega)⟩ ?_
  intro E
  by_cases hE9 : E = "java/lang/IllegalStateException"
  · subst hE9
    refine g_catch (name := "java/lang/IllegalStateException") S.2.2.2.1 [⟨0, 10, 13, 29⟩, ⟨0, 10, 17, 13⟩] ⟨0, 10, 21, 15⟩ [] htb (fun z hz => by
      simp only [List.mem_cons, List.not_mem_nil, or_false] at hz
      rcases hz with rfl | rfl
      · exact Or.inr ⟨by decide, "java/lang/IndexOutOfBoundsException", S.2.2.2.2 _ (List.mem_of_getElem? (i := 1) rfl), (hE rfl).2.2.2.2.2.2.2.2.1.2 ("java/lang/IllegalStateException", "java/lang/IndexOutOfBoundsException") (by simp [ncB])⟩
      · exact Or.inr ⟨by decide, "java/lang/IllegalArgumentException", S.2.2.2.2 _ (List.mem_of_getElem? (i := 2) rfl), (hE rfl).2.2.2.2.2.2.2.2.1.2 ("java/lang/IllegalStateException", "java/lang/IllegalArgumentException") (by simp [ncB])⟩) (by decide) (by decide) (S.2.2.2.2 _ (List.mem_of_getElem? (i := 3) rfl)) (exB_use (hE rfl).2.2.2.2.2.2.2.2.2 args _ (exB_in _ (by simp))) ?_
    intro q
    refine g_P (P' := fun H => P2 H ∧ lrow D ty o f H) (fun H h => ⟨h.1.2, h.2⟩) ?_
    refine g_astore S dL_reweigh_21 (by decide) rfl ?_
    refine g_iconst S (v := 3) dL_reweigh_23 (by decide) ?_
    exact g_iret S hlk hr (fun H h => ⟨rfl, h⟩) (by omega) (by omega) dL_reweigh_24
  · exact g_noX (fun H h => hE9 h.1.1)
set_option maxHeartbeats 1500000 in
set_option maxRecDepth 100000 in
theorem w_contract {l : Launch} {D : va_G} {ty : Nat → ClassId} {tE x o : Nat} {f : Nat → Int64} {Ac Aw : Nat → Prop} (hsub : ∀ q, Ac q → Aw q) (ho : Aw o) (hno : ¬ Ac o) (hfr : ∀ q, Aw q → q ≠ o → Ac q) {P1 P2 : Heap → Prop} (p1 p2 p3 p4 p5 p6 p7 : Int32) {rm : Room} {mc ms : Nat} {v : Int32} (hM : Met l yX5_contract wsX5_contract rm (gPc D ty true cstrs tE Ac [.ref x, .int p1, .int p2, .int p3, .int p4, .int p5, .int p6, .int p7] P1) (gQ Ac (gRet (some (.int v)) P2)) mc ms Ac) (hrm : rm.cells = mc ∧ rm.slots = ms ∧ rm.frames ≤ 12 ∧ rm.locals ≤ 400) (hrc : ∀ {s : State}, gK D ty s → ∀ H, P1 H → ∃ cellB : Cell, H[x]? = some cellB ∧ cellB.vm.isStatics = false ∧ s.vm.findClass RX5 = some cellB.cls) (hk2 : ∀ H H1 : Heap, P2 H → (∀ q : Nat, q ≠ o → H1[q]? = H[q]?) → P2 H1) : Met l yL_contract wsL_contract (rmW mc ms) (gPc D ty true cstrs tE Aw [.ref x, .int p1, .int p2, .int p3, .int p4, .int p5, .int p6, .int p7, .ref o] (fun H => P1 H ∧ lrow D ty o f H)) (gQ Aw (gRet (some (.int 0)) (fun H => P2 H ∧ lrow D ty o (vp_updL f 0 v.toInt64) H))) mc ms Aw := by
  refine g_MetH (cc := cL_contract) (maxL := 10) (ret := some .int) (hh := [(0, 20, 23, 13), (0, 20, 27, 15)]) [some (.ref x), some (.int p1), some (.int p2), some (.int p3), some (.int p4), some (.int p5), some (.int p6), some (.int p7), some (.ref o), none] (by decide) rfl (Nat.le_of_ble_eq_true rfl) rfl ?_
  intro p e s m args below meth c S hlk hr htb hK hE hP0
  have S : CallFix p m c cL_contract 10 s args wsL_contract RL := S
  have ho9 : o < s.heap.size := hP0.2.lt
  have hE' : ∀ (H : Heap) (locs : List Loc), P1 H ∧ lrow D ty o f H → va_S Aw s.heap H locs → ∀ U : State, U.heap = H → s.WarmedH U.vm → gE true cstrs Ac tE U U.heap := fun H locs hP hS => gE_at hE hS hsub (fun q hq => hfr q ((hE rfl).2.2.2.1 q (Nat.le_trans hS.1 hq)) (Nat.ne_of_gt (Nat.lt_of_lt_of_le ho9 (Nat.le_trans hS.1 hq))))
  have hkp : ∀ H H1 : Heap, lrow D ty o f H → H.size ≤ H1.size → (∀ q : Nat, q < H.size → ¬ Ac q → H1[q]? = H[q]?) → lrow D ty o f H1 := fun H H1 h _ hq => va_at.kept h (hq o (va_at.lt h) hno)
  refine g_aload S dL_contract_0 rfl ?_
  refine g_iconst S (v := 0) dL_contract_2 (by decide) ?_
  refine g_aload_n S dL_contract_3 rfl ?_
  refine g_iload_n S dL_contract_4 rfl ?_
  refine g_iload_n S dL_contract_5 rfl ?_
  refine g_iload_n S dL_contract_6 rfl ?_
  refine g_iload S dL_contract_7 rfl ?_
  refine g_iload S dL_contract_9 rfl ?_
  refine g_iload S dL_contract_11 rfl ?_
  refine g_iload S dL_contract_13 rfl ?_
  refine g_callVX (b0 := x) (As := [.int p1, .int p2, .int p3, .int p4, .int p5, .int p6, .int p7]) (st := [.int 0, .ref o]) S hM (cwV 7 S.2.2.2.2 gL_contract_X5_contract rfl hrm.1 hrm.2.1 (by decide +kernel) ⟨Nat.succ_le_succ hrm.2.2.1, (by show 8 + (_ + 11) + rm.locals ≤ 460; have := hrm.2.2.2; omega)⟩) hK hsub hE' hkp (fun H h => h) (fun H h => hrc hK H h.1) rfl (Nat.le_of_ble_eq_true rfl) dL_contract_15 ⟨(by show 0 + mc ≤ mc; omega), (by show 0 + ms ≤ ms; omega)⟩ ?_
  intro r
  refine g_and (b := r = some (.int v)) (P' := fun H => P2 H ∧ lrow D ty o f H) (fun H h => ⟨h.1.1, h.1.2, h.2⟩) (fun hr9 => ?_)
  subst hr9
  refine g_i2l S dL_contract_18 ?_
  refine g_last S hK (a := o) (N' := 1) (f := f) (i := 0) (x := v.toInt64) (P' := fun H => P2 H ∧ lrow D ty o (vp_updL f 0 v.toInt64) H) (fun H h => h.2) (fun H h => ho) (fun H H1 h hat _ oq => ⟨hk2 H H1 h.1 oq, hat⟩) vin_01 dL_contract_19 ?_
  refine g_goto S (tgt := 31) dL_contract_20 (by decide) ?_
  refine g_iconst S (v := 0) dL_contract_31 (by decide) ?_
  exact g_iret S hlk hr (fun H h => ⟨rfl, h⟩) (by omega) (by omega) dL_contract_32
set_option maxHeartbeats 1500000 in
set_option maxRecDepth 100000 in
theorem x_contract_A {l : Launch} {D : va_G} {ty : Nat → ClassId} {tE x o : Nat} {f : Nat → Int64} {Ac Aw : Nat → Prop} (hsub : ∀ q, Ac q → Aw q) (ho : Aw o) (hno : ¬ Ac o) (hfr : ∀ q, Aw q → q ≠ o → Ac q) {P1 P2 : Heap → Prop} (p1 p2 p3 p4 p5 p6 p7 : Int32) {rm : Room} {mc ms : Nat} (hM : vx_Met l yX5_contract wsX5_contract rm (gPc D ty true cstrs tE Ac [.ref x, .int p1, .int p2, .int p3, .int p4, .int p5, .int p6, .int p7] P1) (gQ Ac (fun _ _ => False)) (gX Ac (fun E H => E = "java/lang/IllegalArgumentException" ∧ P2 H)) mc ms Ac) (hrm : rm.cells = mc ∧ rm.slots = ms ∧ rm.frames ≤ 12 ∧ rm.locals ≤ 400) (hrc : ∀ {s : State}, gK D ty s → ∀ H, P1 H → ∃ cellB : Cell, H[x]? = some cellB ∧ cellB.vm.isStatics = false ∧ s.vm.findClass RX5 = some cellB.cls) : Met l yL_contract wsL_contract (rmW mc ms) (gPc D ty true cstrs tE Aw [.ref x, .int p1, .int p2, .int p3, .int p4, .int p5, .int p6, .int p7, .ref o] (fun H => P1 H ∧ lrow D ty o f H)) (gQ Aw (gRet (some (.int 1)) (fun H => P2 H ∧ lrow D ty o f H))) mc ms Aw := by
  refine g_MetH (cc := cL_contract) (maxL := 10) (ret := some .int) (hh := [(0, 20, 23, 13), (0, 20, 27, 15)]) [some (.ref x), some (.int p1), some (.int p2), some (.int p3), some (.int p4), some (.int p5), some (.int p6), some (.int p7), some (.ref o), none] (by decide) rfl (Nat.le_of_ble_eq_true rfl) rfl ?_
  intro p e s m args below meth c S hlk hr htb hK hE hP0
  have S : CallFix p m c cL_contract 10 s args wsL_contract RL := S
  have ho9 : o < s.heap.size := hP0.2.lt
  have hE' : ∀ (H : Heap) (locs : List Loc), P1 H ∧ lrow D ty o f H → va_S Aw s.heap H locs → ∀ U : State, U.heap = H → s.WarmedH U.vm → gE true cstrs Ac tE U U.heap := fun H locs hP hS => gE_at hE hS hsub (fun q hq => hfr q ((hE rfl).2.2.2.1 q (Nat.le_trans hS.1 hq)) (Nat.ne_of_gt (Nat.lt_of_lt_of_le ho9 (Nat.le_trans hS.1 hq))))
  have hkp : ∀ H H1 : Heap, lrow D ty o f H → H.size ≤ H1.size → (∀ q : Nat, q < H.size → ¬ Ac q → H1[q]? = H[q]?) → lrow D ty o f H1 := fun H H1 h _ hq => va_at.kept h (hq o (va_at.lt h) hno)
  refine g_aload S dL_contract_0 rfl ?_
  refine g_iconst S (v := 0) dL_contract_2 (by decide) ?_
  refine g_aload_n S dL_contract_3 rfl ?_
  refine g_iload_n S dL_contract_4 rfl ?_
  refine g_iload_n S dL_contract_5 rfl ?_
  refine g_iload_n S dL_contract_6 rfl ?_
  refine g_iload S dL_contract_7 rfl ?_
  refine g_iload S dL_contract_9 rfl ?_
  refine g_iload S dL_contract_11 rfl ?_
  refine g_iload S dL_contract_13 rfl ?_
  refine g_tcallVX (b0 := x) (As := [.int p1, .int p2, .int p3, .int p4, .int p5, .int p6, .int p7]) (st := [.int 0, .ref o]) S hM (cwV 7 S.2.2.2.2 gL_contract_X5_contract rfl hrm.1 hrm.2.1 (by decide +kernel) ⟨Nat.succ_le_succ hrm.2.2.1, (by show 8 + (_ + 11) + rm.locals ≤ 460; have := hrm.2.2.2; omega)⟩) hK hsub hE' hkp (fun H h => h) (fun H h => hrc hK H h.1) rfl (Nat.le_of_ble_eq_true rfl) dL_contract_15 ⟨(by show 0 + mc ≤ mc; omega), (by show 0 + ms ≤ ms; omega)⟩ ?_
  intro E
  by_cases hE9 : E = "java/lang/IllegalArgumentException"
  · subst hE9
    refine g_catch (name := "java/lang/IllegalArgumentException") S.2.2.2.1 [] ⟨0, 20, 23, 13⟩ [⟨0, 20, 27, 15⟩] htb (fun z hz => by cases hz) (by decide) (by decide) (S.2.2.2.2 _ (List.mem_of_getElem? (i := 1) rfl)) (exB_use (hE rfl).2.2.2.2.2.2.2.2.2 args _ (exB_in _ (by simp))) ?_
    intro q
    refine g_P (P' := fun H => P2 H ∧ lrow D ty o f H) (fun H h => ⟨h.1.2, h.2⟩) ?_
    refine g_astore S dL_contract_23 (by decide) rfl ?_
    refine g_iconst S (v := 1) dL_contract_25 (by decide) ?_
    exact g_iret S hlk hr (fun H h => ⟨rfl, h⟩) (by omega) (by omega) dL_contract_26
  · exact g_noX (fun H h => hE9 h.1.1)
set_option maxHeartbeats 1500000 in
set_option maxRecDepth 100000 in
theorem x_contract_S {l : Launch} {D : va_G} {ty : Nat → ClassId} {tE x o : Nat} {f : Nat → Int64} {Ac Aw : Nat → Prop} (hsub : ∀ q, Ac q → Aw q) (ho : Aw o) (hno : ¬ Ac o) (hfr : ∀ q, Aw q → q ≠ o → Ac q) {P1 P2 : Heap → Prop} (p1 p2 p3 p4 p5 p6 p7 : Int32) {rm : Room} {mc ms : Nat} (hM : vx_Met l yX5_contract wsX5_contract rm (gPc D ty true cstrs tE Ac [.ref x, .int p1, .int p2, .int p3, .int p4, .int p5, .int p6, .int p7] P1) (gQ Ac (fun _ _ => False)) (gX Ac (fun E H => E = "java/lang/IllegalStateException" ∧ P2 H)) mc ms Ac) (hrm : rm.cells = mc ∧ rm.slots = ms ∧ rm.frames ≤ 12 ∧ rm.locals ≤ 400) (hrc : ∀ {s : State}, gK D ty s → ∀ H, P1 H → ∃ cellB : Cell, H[x]? = some cellB ∧ cellB.vm.isStatics = false ∧ s.vm.findClass RX5 = some cellB.cls) : Met l yL_contract wsL_contract (rmW mc ms) (gPc D ty true cstrs tE Aw [.ref x, .int p1, .int p2, .int p3, .int p4, .int p5, .int p6, .int p7, .ref o] (fun H => P1 H ∧ lrow D ty o f H)) (gQ Aw (gRet (some (.int 2)) (fun H => P2 H ∧ lrow D ty o f H))) mc ms Aw := by
  refine g_MetH (cc := cL_contract) (maxL := 10) (ret := some .int) (hh := [(0, 20, 23, 13), (0, 20, 27, 15)]) [some (.ref x), some (.int p1), some (.int p2), some (.int p3), some (.int p4), some (.int p5), some (.int p6), some (.int p7), some (.ref o), none] (by decide) rfl (Nat.le_of_ble_eq_true rfl) rfl ?_
  intro p e s m args below meth c S hlk hr htb hK hE hP0
  have S : CallFix p m c cL_contract 10 s args wsL_contract RL := S
  have ho9 : o < s.heap.size := hP0.2.lt
  have hE' : ∀ (H : Heap) (locs : List Loc), P1 H ∧ lrow D ty o f H → va_S Aw s.heap H locs → ∀ U : State, U.heap = H → s.WarmedH U.vm → gE true cstrs Ac tE U U.heap := fun H locs hP hS => gE_at hE hS hsub (fun q hq => hfr q ((hE rfl).2.2.2.1 q (Nat.le_trans hS.1 hq)) (Nat.ne_of_gt (Nat.lt_of_lt_of_le ho9 (Nat.le_trans hS.1 hq))))
  have hkp : ∀ H H1 : Heap, lrow D ty o f H → H.size ≤ H1.size → (∀ q : Nat, q < H.size → ¬ Ac q → H1[q]? = H[q]?) → lrow D ty o f H1 := fun H H1 h _ hq => va_at.kept h (hq o (va_at.lt h) hno)
  refine g_aload S dL_contract_0 rfl ?_
  refine g_iconst S (v := 0) dL_contract_2 (by decide) ?_
  refine g_aload_n S dL_contract_3 rfl ?_
  refine g_iload_n S dL_contract_4 rfl ?_
  refine g_iload_n S dL_contract_5 rfl ?_
  refine g_iload_n S dL_contract_6 rfl ?_
  refine g_iload S dL_contract_7 rfl ?_
  refine g_iload S dL_contract_9 rfl ?_
  refine g_iload S dL_contract_11 rfl ?_
  refine g_iload S dL_contract_13 rfl ?_
  refine g_tcallVX (b0 := x) (As := [.int p1, .int p2, .int p3, .int p4, .int p5, .int p6, .int p7]) (st := [.int 0, .ref o]) S hM (cwV 7 S.2.2.2.2 gL_contract_X5_contract rfl hrm.1 hrm.2.1 (by decide +kernel) ⟨Nat.succ_le_succ hrm.2.2.1, (by show 8 + (_ + 11) + rm.locals ≤ 460; have := hrm.2.2.2; omega)⟩) hK hsub hE' hkp (fun H h => h) (fun H h => hrc hK H h.1) rfl (Nat.le_of_ble_eq_true rfl) dL_contract_15 ⟨(by show 0 + mc ≤ mc; omega), (by show 0 + ms ≤ ms; omega)⟩ ?_
  intro E
  by_cases hE9 : E = "java/lang/IllegalStateException"
  · subst hE9
    refine g_catch (name := "java/lang/IllegalStateException") S.2.2.2.1 [⟨0, 20, 23, 13⟩] ⟨0, 20, 27, 15⟩ [] htb (fun z hz => by
      simp only [List.mem_cons, List.not_mem_nil, or_false] at hz
      subst hz
      exact Or.inr ⟨by decide, "java/lang/IllegalArgumentException", S.2.2.2.2 _ (List.mem_of_getElem? (i := 1) rfl), (hE rfl).2.2.2.2.2.2.2.2.1.2 ("java/lang/IllegalStateException", "java/lang/IllegalArgumentException") (by simp [ncB])⟩) (by decide) (by decide) (S.2.2.2.2 _ (List.mem_of_getElem? (i := 2) rfl)) (exB_use (hE rfl).2.2.2.2.2.2.2.2.2 args _ (exB_in _ (by simp))) ?_
    intro q
    refine g_P (P' := fun H => P2 H ∧ lrow D ty o f H) (fun H h => ⟨h.1.2, h.2⟩) ?_
    refine g_astore S dL_contract_27 (by decide) rfl ?_
    refine g_iconst S (v := 2) dL_contract_29 (by decide) ?_
    exact g_iret S hlk hr (fun H h => ⟨rfl, h⟩) (by omega) (by omega) dL_contract_30
  · exact g_noX (fun H h => hE9 h.1.1)
set_option maxHeartbeats 1500000 in
set_option maxRecDepth 100000 in
theorem w_pass {l : Launch} {D : va_G} {ty : Nat → ClassId} {tE x o : Nat} {f : Nat → Int64} {Ac Aw : Nat → Prop} (hsub : ∀ q, Ac q → Aw q) (ho : Aw o) (hno : ¬ Ac o) (hfr : ∀ q, Aw q → q ≠ o → Ac q) {P1 P2 : Heap → Prop} (p1 : Int32) {rm : Room} {mc ms : Nat} {v : Int32} (hM : Met l yX5_pass wsX5_pass rm (gPc D ty true cstrs tE Ac [.ref x, .int p1] P1) (gQ Ac (gRet (some (.int v)) P2)) mc ms Ac) (hrm : rm.cells = mc ∧ rm.slots = ms ∧ rm.frames ≤ 12 ∧ rm.locals ≤ 400) (hrc : ∀ {s : State}, gK D ty s → ∀ H, P1 H → ∃ cellB : Cell, H[x]? = some cellB ∧ cellB.vm.isStatics = false ∧ s.vm.findClass RX5 = some cellB.cls) (hk2 : ∀ H H1 : Heap, P2 H → (∀ q : Nat, q ≠ o → H1[q]? = H[q]?) → P2 H1) : Met l yL_pass wsL_pass (rmW mc ms) (gPc D ty true cstrs tE Aw [.ref x, .int p1, .ref o] (fun H => P1 H ∧ lrow D ty o f H)) (gQ Aw (gRet (some (.int 0)) (fun H => P2 H ∧ lrow D ty o (vp_updL f 0 v.toInt64) H))) mc ms Aw := by
  refine g_MetH (cc := cL_pass) (maxL := 4) (ret := some .int) (hh := [(0, 9, 12, 13)]) [some (.ref x), some (.int p1), some (.ref o), none] (by decide) rfl (Nat.le_of_ble_eq_true rfl) rfl ?_
  intro p e s m args below meth c S hlk hr htb hK hE hP0
  have S : CallFix p m c cL_pass 4 s args wsL_pass RL := S
  have ho9 : o < s.heap.size := hP0.2.lt
  have hE' : ∀ (H : Heap) (locs : List Loc), P1 H ∧ lrow D ty o f H → va_S Aw s.heap H locs → ∀ U : State, U.heap = H → s.WarmedH U.vm → gE true cstrs Ac tE U U.heap := fun H locs hP hS => gE_at hE hS hsub (fun q hq => hfr q ((hE rfl).2.2.2.1 q (Nat.le_trans hS.1 hq)) (Nat.ne_of_gt (Nat.lt_of_lt_of_le ho9 (Nat.le_trans hS.1 hq))))
  have hkp : ∀ H H1 : Heap, lrow D ty o f H → H.size ≤ H1.size → (∀ q : Nat, q < H.size → ¬ Ac q → H1[q]? = H[q]?) → lrow D ty o f H1 := fun H H1 h _ hq => va_at.kept h (hq o (va_at.lt h) hno)
  refine g_aload_n S dL_pass_0 rfl ?_
  refine g_iconst S (v := 0) dL_pass_1 (by decide) ?_
  refine g_aload_n S dL_pass_2 rfl ?_
  refine g_iload_n S dL_pass_3 rfl ?_
  refine g_callVX (b0 := x) (As := [.int p1]) (st := [.int 0, .ref o]) S hM (cwV 1 S.2.2.2.2 gL_pass_X5_pass rfl hrm.1 hrm.2.1 (by decide +kernel) ⟨Nat.succ_le_succ hrm.2.2.1, (by show 8 + (_ + 11) + rm.locals ≤ 460; have := hrm.2.2.2; omega)⟩) hK hsub hE' hkp (fun H h => h) (fun H h => hrc hK H h.1) rfl (Nat.le_of_ble_eq_true rfl) dL_pass_4 ⟨(by show 0 + mc ≤ mc; omega), (by show 0 + ms ≤ ms; omega)⟩ ?_
  intro r
  refine g_and (b := r = some (.int v)) (P' := fun H => P2 H ∧ lrow D ty o f H) (fun H h => ⟨h.1.1, h.1.2, h.2⟩) (fun hr9 => ?_)
  subst hr9
  refine g_i2l S dL_pass_7 ?_
  refine g_last S hK (a := o) (N' := 1) (f := f) (i := 0) (x := v.toInt64) (P' := fun H => P2 H ∧ lrow D ty o (vp_updL f 0 v.toInt64) H) (fun H h => h.2) (fun H h => ho) (fun H H1 h hat _ oq => ⟨hk2 H H1 h.1 oq, hat⟩) vin_01 dL_pass_8 ?_
  refine g_goto S (tgt := 15) dL_pass_9 (by decide) ?_
  refine g_iconst S (v := 0) dL_pass_15 (by decide) ?_
  exact g_iret S hlk hr (fun H h => ⟨rfl, h⟩) (by omega) (by omega) dL_pass_16
set_option maxHeartbeats 1500000 in
set_option maxRecDepth 100000 in
theorem x_pass_A {l : Launch} {D : va_G} {ty : Nat → ClassId} {tE x o : Nat} {f : Nat → Int64} {Ac Aw : Nat → Prop} (hsub : ∀ q, Ac q → Aw q) (ho : Aw o) (hno : ¬ Ac o) (hfr : ∀ q, Aw q → q ≠ o → Ac q) {P1 P2 : Heap → Prop} (p1 : Int32) {rm : Room} {mc ms : Nat} (hM : vx_Met l yX5_pass wsX5_pass rm (gPc D ty true cstrs tE Ac [.ref x, .int p1] P1) (gQ Ac (fun _ _ => False)) (gX Ac (fun E H => E = "java/lang/IllegalArgumentException" ∧ P2 H)) mc ms Ac) (hrm : rm.cells = mc ∧ rm.slots = ms ∧ rm.frames ≤ 12 ∧ rm.locals ≤ 400) (hrc : ∀ {s : State}, gK D ty s → ∀ H, P1 H → ∃ cellB : Cell, H[x]? = some cellB ∧ cellB.vm.isStatics = false ∧ s.vm.findClass RX5 = some cellB.cls) : Met l yL_pass wsL_pass (rmW mc ms) (gPc D ty true cstrs tE Aw [.ref x, .int p1, .ref o] (fun H => P1 H ∧ lrow D ty o f H)) (gQ Aw (gRet (some (.int 1)) (fun H => P2 H ∧ lrow D ty o f H))) mc ms Aw := by
  refine g_MetH (cc := cL_pass) (maxL := 4) (ret := some .int) (hh := [(0, 9, 12, 13)]) [some (.ref x), some (.int p1), some (.ref o), none] (by decide) rfl (Nat.le_of_ble_eq_true rfl) rfl ?_
  intro p e s m args below meth c S hlk hr htb hK hE hP0
  have S : CallFix p m c cL_pass 4 s args wsL_pass RL := S
  have ho9 : o < s.heap.size := hP0.2.lt
  have hE' : ∀ (H : Heap) (locs : List Loc), P1 H ∧ lrow D ty o f H → va_S Aw s.heap H locs → ∀ U : State, U.heap = H → s.WarmedH U.vm → gE true cstrs Ac tE U U.heap := fun H locs hP hS => gE_at hE hS hsub (fun q hq => hfr q ((hE rfl).2.2.2.1 q (Nat.le_trans hS.1 hq)) (Nat.ne_of_gt (Nat.lt_of_lt_of_le ho9 (Nat.le_trans hS.1 hq))))
  have hkp : ∀ H H1 : Heap, lrow D ty o f H → H.size ≤ H1.size → (∀ q : Nat, q < H.size → ¬ Ac q → H1[q]? = H[q]?) → lrow D ty o f H1 := fun H H1 h _ hq => va_at.kept h (hq o (va_at.lt h) hno)
  refine g_aload_n S dL_pass_0 rfl ?_
  refine g_iconst S (v := 0) dL_pass_1 (by decide) ?_
  refine g_aload_n S dL_pass_2 rfl ?_
  refine g_iload_n S dL_pass_3 rfl ?_
  refine g_tcallVX (b0 := x) (As := [.int p1]) (st := [.int 0, .ref o]) S hM (cwV 1 S.2.2.2.2 gL_pass_X5_pass rfl hrm.1 hrm.2.1 (by decide +kernel) ⟨Nat.succ_le_succ hrm.2.2.1, (by show 8 + (_ + 11) + rm.locals ≤ 460; have := hrm.2.2.2; omega)⟩) hK hsub hE' hkp (fun H h => h) (fun H h => hrc hK H h.1) rfl (Nat.le_of_ble_eq_true rfl) dL_pass_4 ⟨(by show 0 + mc ≤ mc; omega), (by show 0 + ms ≤ ms; omega)⟩ ?_
  intro E
  by_cases hE9 : E = "java/lang/IllegalArgumentException"
  · subst hE9
    refine g_catch (name := "java/lang/IllegalArgumentException") S.2.2.2.1 [] ⟨0, 9, 12, 13⟩ [] htb (fun z hz => by cases hz) (by decide) (by decide) (S.2.2.2.2 _ (List.mem_of_getElem? (i := 1) rfl)) (exB_use (hE rfl).2.2.2.2.2.2.2.2.2 args _ (exB_in _ (by simp))) ?_
    intro q
    refine g_P (P' := fun H => P2 H ∧ lrow D ty o f H) (fun H h => ⟨h.1.2, h.2⟩) ?_
    refine g_astore_n S dL_pass_12 (by decide) rfl ?_
    refine g_iconst S (v := 1) dL_pass_13 (by decide) ?_
    exact g_iret S hlk hr (fun H h => ⟨rfl, h⟩) (by omega) (by omega) dL_pass_14
  · exact g_noX (fun H h => hE9 h.1.1)
set_option maxHeartbeats 1500000 in
set_option maxRecDepth 100000 in
theorem w_receipt {l : Launch} {D : va_G} {ty : Nat → ClassId} {tE x o : Nat} {f : Nat → Int64} {Ac Aw : Nat → Prop} (hsub : ∀ q, Ac q → Aw q) (ho : Aw o) (hno : ¬ Ac o) (hfr : ∀ q, Aw q → q ≠ o → Ac q) {P1 P2 : Heap → Prop} (p1 p2 : Int32) {rm : Room} {mc ms : Nat} {v : Int32} (hM : Met l yX5_receipt wsX5_receipt rm (gPc D ty true cstrs tE Ac [.ref x, .int p1, .int p2] P1) (gQ Ac (gRet (some (.int v)) P2)) mc ms Ac) (hrm : rm.cells = mc ∧ rm.slots = ms ∧ rm.frames ≤ 12 ∧ rm.locals ≤ 400) (hrc : ∀ {s : State}, gK D ty s → ∀ H, P1 H → ∃ cellB : Cell, H[x]? = some cellB ∧ cellB.vm.isStatics = false ∧ s.vm.findClass RX5 = some cellB.cls) (hk2 : ∀ H H1 : Heap, P2 H → (∀ q : Nat, q ≠ o → H1[q]? = H[q]?) → P2 H1) : Met l yL_receipt wsL_receipt (rmW mc ms) (gPc D ty true cstrs tE Aw [.ref x, .int p1, .int p2, .ref o] (fun H => P1 H ∧ lrow D ty o f H)) (gQ Aw (gRet (some (.int 0)) (fun H => P2 H ∧ lrow D ty o (vp_updL f 0 v.toInt64) H))) mc ms Aw := by
  refine g_MetH (cc := cL_receipt) (maxL := 5) (ret := some .int) (hh := [(0, 10, 13, 29), (0, 10, 17, 13)]) [some (.ref x), some (.int p1), some (.int p2), some (.ref o), none] (by decide) rfl (Nat.le_of_ble_eq_true rfl) rfl ?_
  intro p e s m args below meth c S hlk hr htb hK hE hP0
  have S : CallFix p m c cL_receipt 5 s args wsL_receipt RL := S
  have ho9 : o < s.heap.size := hP0.2.lt
  have hE' : ∀ (H : Heap) (locs : List Loc), P1 H ∧ lrow D ty o f H → va_S Aw s.heap H locs → ∀ U : State, U.heap = H → s.WarmedH U.vm → gE true cstrs Ac tE U U.heap := fun H locs hP hS => gE_at hE hS hsub (fun q hq => hfr q ((hE rfl).2.2.2.1 q (Nat.le_trans hS.1 hq)) (Nat.ne_of_gt (Nat.lt_of_lt_of_le ho9 (Nat.le_trans hS.1 hq))))
  have hkp : ∀ H H1 : Heap, lrow D ty o f H → H.size ≤ H1.size → (∀ q : Nat, q < H.size → ¬ Ac q → H1[q]? = H[q]?) → lrow D ty o f H1 := fun H H1 h _ hq => va_at.kept h (hq o (va_at.lt h) hno)
  refine g_aload_n S dL_receipt_0 rfl ?_
  refine g_iconst S (v := 0) dL_receipt_1 (by decide) ?_
  refine g_aload_n S dL_receipt_2 rfl ?_
  refine g_iload_n S dL_receipt_3 rfl ?_
  refine g_iload_n S dL_receipt_4 rfl ?_
  refine g_callVX (b0 := x) (As := [.int p1, .int p2]) (st := [.int 0, .ref o]) S hM (cwV 2 S.2.2.2.2 gL_receipt_X5_receipt rfl hrm.1 hrm.2.1 (by decide +kernel) ⟨Nat.succ_le_succ hrm.2.2.1, (by show 8 + (_ + 11) + rm.locals ≤ 460; have := hrm.2.2.2; omega)⟩) hK hsub hE' hkp (fun H h => h) (fun H h => hrc hK H h.1) rfl (Nat.le_of_ble_eq_true rfl) dL_receipt_5 ⟨(by show 0 + mc ≤ mc; omega), (by show 0 + ms ≤ ms; omega)⟩ ?_
  intro r
  refine g_and (b := r = some (.int v)) (P' := fun H => P2 H ∧ lrow D ty o f H) (fun H h => ⟨h.1.1, h.1.2, h.2⟩) (fun hr9 => ?_)
  subst hr9
  refine g_i2l S dL_receipt_8 ?_
  refine g_last S hK (a := o) (N' := 1) (f := f) (i := 0) (x := v.toInt64) (P' := fun H => P2 H ∧ lrow D ty o (vp_updL f 0 v.toInt64) H) (fun H h => h.2) (fun H h => ho) (fun H H1 h hat _ oq => ⟨hk2 H H1 h.1 oq, hat⟩) vin_01 dL_receipt_9 ?_
  refine g_goto S (tgt := 21) dL_receipt_10 (by decide) ?_
  refine g_iconst S (v := 0) dL_receipt_21 (by decide) ?_
  exact g_iret S hlk hr (fun H h => ⟨rfl, h⟩) (by omega) (by omega) dL_receipt_22
set_option maxHeartbeats 1500000 in
set_option maxRecDepth 100000 in
theorem x_receipt_B {l : Launch} {D : va_G} {ty : Nat → ClassId} {tE x o : Nat} {f : Nat → Int64} {Ac Aw : Nat → Prop} (hsub : ∀ q, Ac q → Aw q) (ho : Aw o) (hno : ¬ Ac o) (hfr : ∀ q, Aw q → q ≠ o → Ac q) {P1 P2 : Heap → Prop} (p1 p2 : Int32) {rm : Room} {mc ms : Nat} (hM : vx_Met l yX5_receipt wsX5_receipt rm (gPc D ty true cstrs tE Ac [.ref x, .int p1, .int p2] P1) (gQ Ac (fun _ _ => False)) (gX Ac (fun E H => E = "java/lang/IndexOutOfBoundsException" ∧ P2 H)) mc ms Ac) (hrm : rm.cells = mc ∧ rm.slots = ms ∧ rm.frames ≤ 12 ∧ rm.locals ≤ 400) (hrc : ∀ {s : State}, gK D ty s → ∀ H, P1 H → ∃ cellB : Cell, H[x]? = some cellB ∧ cellB.vm.isStatics = false ∧ s.vm.findClass RX5 = some cellB.cls) : Met l yL_receipt wsL_receipt (rmW mc ms) (gPc D ty true cstrs tE Aw [.ref x, .int p1, .int p2, .ref o] (fun H => P1 H ∧ lrow D ty o f H)) (gQ Aw (gRet (some (.int 1)) (fun H => P2 H ∧ lrow D ty o f H))) mc ms Aw := by
  refine g_MetH (cc := cL_receipt) (maxL := 5) (ret := some .int) (hh := [(0, 10, 13, 29), (0, 10, 17, 13)]) [some (.ref x), some (.int p1), some (.int p2), some (.ref o), none] (by decide) rfl (Nat.le_of_ble_eq_true rfl) rfl ?_
  intro p e s m args below meth c S hlk hr htb hK hE hP0
  have S : CallFix p m c cL_receipt 5 s args wsL_receipt RL := S
  have ho9 : o < s.heap.size := hP0.2.lt
  have hE' : ∀ (H : Heap) (locs : List Loc), P1 H ∧ lrow D ty o f H → va_S Aw s.heap H locs → ∀ U : State, U.heap = H → s.WarmedH U.vm → gE true cstrs Ac tE U U.heap := fun H locs hP hS => gE_at hE hS hsub (fun q hq => hfr q ((hE rfl).2.2.2.1 q (Nat.le_trans hS.1 hq)) (Nat.ne_of_gt (Nat.lt_of_lt_of_le ho9 (Nat.le_trans hS.1 hq))))
  have hkp : ∀ H H1 : Heap, lrow D ty o f H → H.size ≤ H1.size → (∀ q : Nat, q < H.size → ¬ Ac q → H1[q]? = H[q]?) → lrow D ty o f H1 := fun H H1 h _ hq => va_at.kept h (hq o (va_at.lt h) hno)
  refine g_aload_n S dL_receipt_0 rfl ?_
  refine g_iconst S (v := 0) dL_receipt_1 (by decide) ?_
  refine g_aload_n S dL_receipt_2 rfl ?_
  refine g_iload_n S dL_receipt_3 rfl ?_
  refine g_iload_n S dL_receipt_4 rfl ?_
  refine g_tcallVX (b0 := x) (As := [.int p1, .int p2]) (st := [.int 0, .ref o]) S hM (cwV 2 S.2.2.2.2 gL_receipt_X5_receipt rfl hrm.1 hrm.2.1 (by decide +kernel) ⟨Nat.succ_le_succ hrm.2.2.1, (by show 8 + (_ + 11) + rm.locals ≤ 460; have := hrm.2.2.2; omega)⟩) hK hsub hE' hkp (fun H h => h) (fun H h => hrc hK H h.1) rfl (Nat.le_of_ble_eq_true rfl) dL_receipt_5 ⟨(by show 0 + mc ≤ mc; omega), (by show 0 + ms ≤ ms; omega)⟩ ?_
  intro E
  by_cases hE9 : E = "java/lang/IndexOutOfBoundsException"
  · subst hE9
    refine g_catch (name := "java/lang/IndexOutOfBoundsException") S.2.2.2.1 [] ⟨0, 10, 13, 29⟩ [⟨0, 10, 17, 13⟩] htb (fun z hz => by cases hz) (by decide) (by decide) (S.2.2.2.2 _ (List.mem_of_getElem? (i := 1) rfl)) (exB_use (hE rfl).2.2.2.2.2.2.2.2.2 args _ (exB_in _ (by simp))) ?_
    intro q
    refine g_P (P' := fun H => P2 H ∧ lrow D ty o f H) (fun H h => ⟨h.1.2, h.2⟩) ?_
    refine g_astore S dL_receipt_13 (by decide) rfl ?_
    refine g_iconst S (v := 1) dL_receipt_15 (by decide) ?_
    exact g_iret S hlk hr (fun H h => ⟨rfl, h⟩) (by omega) (by omega) dL_receipt_16
  · exact g_noX (fun H h => hE9 h.1.1)
set_option maxHeartbeats 1500000 in
set_option maxRecDepth 100000 in
theorem x_receipt_A {l : Launch} {D : va_G} {ty : Nat → ClassId} {tE x o : Nat} {f : Nat → Int64} {Ac Aw : Nat → Prop} (hsub : ∀ q, Ac q → Aw q) (ho : Aw o) (hno : ¬ Ac o) (hfr : ∀ q, Aw q → q ≠ o → Ac q) {P1 P2 : Heap → Prop} (p1 p2 : Int32) {rm : Room} {mc ms : Nat} (hM : vx_Met l yX5_receipt wsX5_receipt rm (gPc D ty true cstrs tE Ac [.ref x, .int p1, .int p2] P1) (gQ Ac (fun _ _ => False)) (gX Ac (fun E H => E = "java/lang/IllegalArgumentException" ∧ P2 H)) mc ms Ac) (hrm : rm.cells = mc ∧ rm.slots = ms ∧ rm.frames ≤ 12 ∧ rm.locals ≤ 400) (hrc : ∀ {s : State}, gK D ty s → ∀ H, P1 H → ∃ cellB : Cell, H[x]? = some cellB ∧ cellB.vm.isStatics = false ∧ s.vm.findClass RX5 = some cellB.cls) : Met l yL_receipt wsL_receipt (rmW mc ms) (gPc D ty true cstrs tE Aw [.ref x, .int p1, .int p2, .ref o] (fun H => P1 H ∧ lrow D ty o f H)) (gQ Aw (gRet (some (.int 2)) (fun H => P2 H ∧ lrow D ty o f H))) mc ms Aw := by
  refine g_MetH (cc := cL_receipt) (maxL := 5) (ret := some .int) (hh := [(0, 10, 13, 29), (0, 10, 17, 13)]) [some (.ref x), some (.int p1), some (.int p2), some (.ref o), none] (by decide) rfl (Nat.le_of_ble_eq_true rfl) rfl ?_
  intro p e s m args below meth c S hlk hr htb hK hE hP0
  have S : CallFix p m c cL_receipt 5 s args wsL_receipt RL := S
  have ho9 : o < s.heap.size := hP0.2.lt
  have hE' : ∀ (H : Heap) (locs : List Loc), P1 H ∧ lrow D ty o f H → va_S Aw s.heap H locs → ∀ U : State, U.heap = H → s.WarmedH U.vm → gE true cstrs Ac tE U U.heap := fun H locs hP hS => gE_at hE hS hsub (fun q hq => hfr q ((hE rfl).2.2.2.1 q (Nat.le_trans hS.1 hq)) (Nat.ne_of_gt (Nat.lt_of_lt_of_le ho9 (Nat.le_trans hS.1 hq))))
  have hkp : ∀ H H1 : Heap, lrow D ty o f H → H.size ≤ H1.size → (∀ q : Nat, q < H.size → ¬ Ac q → H1[q]? = H[q]?) → lrow D ty o f H1 := fun H H1 h _ hq => va_at.kept h (hq o (va_at.lt h) hno)
  refine g_aload_n S dL_receipt_0 rfl ?_
  refine g_iconst S (v := 0) dL_receipt_1 (by decide) ?_
  refine g_aload_n S dL_receipt_2 rfl ?_
  refine g_iload_n S dL_receipt_3 rfl ?_
  refine g_iload_n S dL_receipt_4 rfl ?_
  refine g_tcallVX (b0 := x) (As := [.int p1, .int p2]) (st := [.int 0, .ref o]) S hM (cwV 2 S.2.2.2.2 gL_receipt_X5_receipt rfl hrm.1 hrm.2.1 (by decide +kernel) ⟨Nat.succ_le_succ hrm.2.2.1, (by show 8 + (_ + 11) + rm.locals ≤ 460; have := hrm.2.2.2; omega)⟩) hK hsub hE' hkp (fun H h => h) (fun H h => hrc hK H h.1) rfl (Nat.le_of_ble_eq_true rfl) dL_receipt_5 ⟨(by show 0 + mc ≤ mc; omega), (by show 0 + ms ≤ ms; omega)⟩ ?_
  intro E
  by_cases hE9 : E = "java/lang/IllegalArgumentException"
  · subst hE9
    refine g_catch (name := "java/lang/IllegalArgumentException") S.2.2.2.1 [⟨0, 10, 13, 29⟩] ⟨0, 10, 17, 13⟩ [] htb (fun z hz => by
      simp only [List.mem_cons, List.not_mem_nil, or_false] at hz
      subst hz
      exact Or.inr ⟨by decide, "java/lang/IndexOutOfBoundsException", S.2.2.2.2 _ (List.mem_of_getElem? (i := 1) rfl), (hE rfl).2.2.2.2.2.2.2.2.1.2 ("java/lang/IllegalArgumentException", "java/lang/IndexOutOfBoundsException") (by simp [ncB])⟩) (by decide) (by decide) (S.2.2.2.2 _ (List.mem_of_getElem? (i := 2) rfl)) (exB_use (hE rfl).2.2.2.2.2.2.2.2.2 args _ (exB_in _ (by simp))) ?_
    intro q
    refine g_P (P' := fun H => P2 H ∧ lrow D ty o f H) (fun H h => ⟨h.1.2, h.2⟩) ?_
    refine g_astore S dL_receipt_17 (by decide) rfl ?_
    refine g_iconst S (v := 2) dL_receipt_19 (by decide) ?_
    exact g_iret S hlk hr (fun H h => ⟨rfl, h⟩) (by omega) (by omega) dL_receipt_20
  · exact g_noX (fun H h => hE9 h.1.1)
set_option maxHeartbeats 1500000 in
set_option maxRecDepth 100000 in
theorem w_delivery {l : Launch} {D : va_G} {ty : Nat → ClassId} {tE x o : Nat} {f : Nat → Int64} {Ac Aw : Nat → Prop} (hsub : ∀ q, Ac q → Aw q) (ho : Aw o) (hno : ¬ Ac o) (hfr : ∀ q, Aw q → q ≠ o → Ac q) {P1 P2 : Heap → Prop} (p1 p2 : Int32) {rm : Room} {mc ms : Nat} {v : Int32} (hM : Met l yX5_delivery wsX5_delivery rm (gPc D ty true cstrs tE Ac [.ref x, .int p1, .int p2] P1) (gQ Ac (gRet (some (.int v)) P2)) mc ms Ac) (hrm : rm.cells = mc ∧ rm.slots = ms ∧ rm.frames ≤ 12 ∧ rm.locals ≤ 400) (hrc : ∀ {s : State}, gK D ty s → ∀ H, P1 H → ∃ cellB : Cell, H[x]? = some cellB ∧ cellB.vm.isStatics = false ∧ s.vm.findClass RX5 = some cellB.cls) (hk2 : ∀ H H1 : Heap, P2 H → (∀ q : Nat, q ≠ o → H1[q]? = H[q]?) → P2 H1) : Met l yL_delivery wsL_delivery (rmW mc ms) (gPc D ty true cstrs tE Aw [.ref x, .int p1, .int p2, .ref o] (fun H => P1 H ∧ lrow D ty o f H)) (gQ Aw (gRet (some (.int 0)) (fun H => P2 H ∧ lrow D ty o (vp_updL f 0 v.toInt64) H))) mc ms Aw := by
  refine g_MetH (cc := cL_delivery) (maxL := 5) (ret := some .int) (hh := [(0, 10, 13, 29), (0, 10, 17, 13)]) [some (.ref x), some (.int p1), some (.int p2), some (.ref o), none] (by decide) rfl (Nat.le_of_ble_eq_true rfl) rfl ?_
  intro p e s m args below meth c S hlk hr htb hK hE hP0
  have S : CallFix p m c cL_delivery 5 s args wsL_delivery RL := S
  have ho9 : o < s.heap.size := hP0.2.lt
  have hE' : ∀ (H : Heap) (locs : List Loc), P1 H ∧ lrow D ty o f H → va_S Aw s.heap H locs → ∀ U : State, U.heap = H → s.WarmedH U.vm → gE true cstrs Ac tE U U.heap := fun H locs hP hS => gE_at hE hS hsub (fun q hq => hfr q ((hE rfl).2.2.2.1 q (Nat.le_trans hS.1 hq)) (Nat.ne_of_gt (Nat.lt_of_lt_of_le ho9 (Nat.le_trans hS.1 hq))))
  have hkp : ∀ H H1 : Heap, lrow D ty o f H → H.size ≤ H1.size → (∀ q : Nat, q < H.size → ¬ Ac q → H1[q]? = H[q]?) → lrow D ty o f H1 := fun H H1 h _ hq => va_at.kept h (hq o (va_at.lt h) hno)
  refine g_aload_n S dL_delivery_0 rfl ?_
  refine g_iconst S (v := 0) dL_delivery_1 (by decide) ?_
  refine g_aload_n S dL_delivery_2 rfl ?_
  refine g_iload_n S dL_delivery_3 rfl ?_
  refine g_iload_n S dL_delivery_4 rfl ?_
  refine g_callVX (b0 := x) (As := [.int p1, .int p2]) (st := [.int 0, .ref o]) S hM (cwV 2 S.2.2.2.2 gL_delivery_X5_delivery rfl hrm.1 hrm.2.1 (by decide +kernel) ⟨Nat.succ_le_succ hrm.2.2.1, (by show 8 + (_ + 11) + rm.locals ≤ 460; have := hrm.2.2.2; omega)⟩) hK hsub hE' hkp (fun H h => h) (fun H h => hrc hK H h.1) rfl (Nat.le_of_ble_eq_true rfl) dL_delivery_5 ⟨(by show 0 + mc ≤ mc; omega), (by show 0 + ms ≤ ms; omega)⟩ ?_
  intro r
  refine g_and (b := r = some (.int v)) (P' := fun H => P2 H ∧ lrow D ty o f H) (fun H h => ⟨h.1.1, h.1.2, h.2⟩) (fun hr9 => ?_)
  subst hr9
  refine g_i2l S dL_delivery_8 ?_
  refine g_last S hK (a := o) (N' := 1) (f := f) (i := 0) (x := v.toInt64) (P' := fun H => P2 H ∧ lrow D ty o (vp_updL f 0 v.toInt64) H) (fun H h => h.2) (fun H h => ho) (fun H H1 h hat _ oq => ⟨hk2 H H1 h.1 oq, hat⟩) vin_01 dL_delivery_9 ?_
  refine g_goto S (tgt := 21) dL_delivery_10 (by decide) ?_
  refine g_iconst S (v := 0) dL_delivery_21 (by decide) ?_
  exact g_iret S hlk hr (fun H h => ⟨rfl, h⟩) (by omega) (by omega) dL_delivery_22
set_option maxHeartbeats 1500000 in
set_option maxRecDepth 100000 in
theorem x_delivery_B {l : Launch} {D : va_G} {ty : Nat → ClassId} {tE x o : Nat} {f : Nat → Int64} {Ac Aw : Nat → Prop} (hsub : ∀ q, Ac q → Aw q) (ho : Aw o) (hno : ¬ Ac o) (hfr : ∀ q, Aw q → q ≠ o → Ac q) {P1 P2 : Heap → Prop} (p1 p2 : Int32) {rm : Room} {mc ms : Nat} (hM : vx_Met l yX5_delivery wsX5_delivery rm (gPc D ty true cstrs tE Ac [.ref x, .int p1, .int p2] P1) (gQ Ac (fun _ _ => False)) (gX Ac (fun E H => E = "java/lang/IndexOutOfBoundsException" ∧ P2 H)) mc ms Ac) (hrm : rm.cells = mc ∧ rm.slots = ms ∧ rm.frames ≤ 12 ∧ rm.locals ≤ 400) (hrc : ∀ {s : State}, gK D ty s → ∀ H, P1 H → ∃ cellB : Cell, H[x]? = some cellB ∧ cellB.vm.isStatics = false ∧ s.vm.findClass RX5 = some cellB.cls) : Met l yL_delivery wsL_delivery (rmW mc ms) (gPc D ty true cstrs tE Aw [.ref x, .int p1, .int p2, .ref o] (fun H => P1 H ∧ lrow D ty o f H)) (gQ Aw (gRet (some (.int 1)) (fun H => P2 H ∧ lrow D ty o f H))) mc ms Aw := by
  refine g_MetH (cc := cL_delivery) (maxL := 5) (ret := some .int) (hh := [(0, 10, 13, 29), (0, 10, 17, 13)]) [some (.ref x), some (.int p1), some (.int p2), some (.ref o), none] (by decide) rfl (Nat.le_of_ble_eq_true rfl) rfl ?_
  intro p e s m args below meth c S hlk hr htb hK hE hP0
  have S : CallFix p m c cL_delivery 5 s args wsL_delivery RL := S
  have ho9 : o < s.heap.size := hP0.2.lt
  have hE' : ∀ (H : Heap) (locs : List Loc), P1 H ∧ lrow D ty o f H → va_S Aw s.heap H locs → ∀ U : State, U.heap = H → s.WarmedH U.vm → gE true cstrs Ac tE U U.heap := fun H locs hP hS => gE_at hE hS hsub (fun q hq => hfr q ((hE rfl).2.2.2.1 q (Nat.le_trans hS.1 hq)) (Nat.ne_of_gt (Nat.lt_of_lt_of_le ho9 (Nat.le_trans hS.1 hq))))
  have hkp : ∀ H H1 : Heap, lrow D ty o f H → H.size ≤ H1.size → (∀ q : Nat, q < H.size → ¬ Ac q → H1[q]? = H[q]?) → lrow D ty o f H1 := fun H H1 h _ hq => va_at.kept h (hq o (va_at.lt h) hno)
  refine g_aload_n S dL_delivery_0 rfl ?_
  refine g_iconst S (v := 0) dL_delivery_1 (by decide) ?_
  refine g_aload_n S dL_delivery_2 rfl ?_
  refine g_iload_n S dL_delivery_3 rfl ?_
  refine g_iload_n S dL_delivery_4 rfl ?_
  refine g_tcallVX (b0 := x) (As := [.int p1, .int p2]) (st := [.int 0, .ref o]) S hM (cwV 2 S.2.2.2.2 gL_delivery_X5_delivery rfl hrm.1 hrm.2.1 (by decide +kernel) ⟨Nat.succ_le_succ hrm.2.2.1, (by show 8 + (_ + 11) + rm.locals ≤ 460; have := hrm.2.2.2; omega)⟩) hK hsub hE' hkp (fun H h => h) (fun H h => hrc hK H h.1) rfl (Nat.le_of_ble_eq_true rfl) dL_delivery_5 ⟨(by show 0 + mc ≤ mc; omega), (by show 0 + ms ≤ ms; omega)⟩ ?_
  intro E
  by_cases hE9 : E = "java/lang/IndexOutOfBoundsException"
  · subst hE9
    refine g_catch (name := "java/lang/IndexOutOfBoundsException") S.2.2.2.1 [] ⟨0, 10, 13, 29⟩ [⟨0, 10, 17, 13⟩] htb (fun z hz => by cases hz) (by decide) (by decide) (S.2.2.2.2 _ (List.mem_of_getElem? (i := 1) rfl)) (exB_use (hE rfl).2.2.2.2.2.2.2.2.2 args _ (exB_in _ (by simp))) ?_
    intro q
    refine g_P (P' := fun H => P2 H ∧ lrow D ty o f H) (fun H h => ⟨h.1.2, h.2⟩) ?_
    refine g_astore S dL_delivery_13 (by decide) rfl ?_
    refine g_iconst S (v := 1) dL_delivery_15 (by decide) ?_
    exact g_iret S hlk hr (fun H h => ⟨rfl, h⟩) (by omega) (by omega) dL_delivery_16
  · exact g_noX (fun H h => hE9 h.1.1)
set_option maxHeartbeats 1500000 in
set_option maxRecDepth 100000 in
theorem x_delivery_A {l : Launch} {D : va_G} {ty : Nat → ClassId} {tE x o : Nat} {f : Nat → Int64} {Ac Aw : Nat → Prop} (hsub : ∀ q, Ac q → Aw q) (ho : Aw o) (hno : ¬ Ac o) (hfr : ∀ q, Aw q → q ≠ o → Ac q) {P1 P2 : Heap → Prop} (p1 p2 : Int32) {rm : Room} {mc ms : Nat} (hM : vx_Met l yX5_delivery wsX5_delivery rm (gPc D ty true cstrs tE Ac [.ref x, .int p1, .int p2] P1) (gQ Ac (fun _ _ => False)) (gX Ac (fun E H => E = "java/lang/IllegalArgumentException" ∧ P2 H)) mc ms Ac) (hrm : rm.cells = mc ∧ rm.slots = ms ∧ rm.frames ≤ 12 ∧ rm.locals ≤ 400) (hrc : ∀ {s : State}, gK D ty s → ∀ H, P1 H → ∃ cellB : Cell, H[x]? = some cellB ∧ cellB.vm.isStatics = false ∧ s.vm.findClass RX5 = some cellB.cls) : Met l yL_delivery wsL_delivery (rmW mc ms) (gPc D ty true cstrs tE Aw [.ref x, .int p1, .int p2, .ref o] (fun H => P1 H ∧ lrow D ty o f H)) (gQ Aw (gRet (some (.int 2)) (fun H => P2 H ∧ lrow D ty o f H))) mc ms Aw := by
  refine g_MetH (cc := cL_delivery) (maxL := 5) (ret := some .int) (hh := [(0, 10, 13, 29), (0, 10, 17, 13)]) [some (.ref x), some (.int p1), some (.int p2), some (.ref o), none] (by decide) rfl (Nat.le_of_ble_eq_true rfl) rfl ?_
  intro p e s m args below meth c S hlk hr htb hK hE hP0
  have S : CallFix p m c cL_delivery 5 s args wsL_delivery RL := S
  have ho9 : o < s.heap.size := hP0.2.lt
  have hE' : ∀ (H : Heap) (locs : List Loc), P1 H ∧ lrow D ty o f H → va_S Aw s.heap H locs → ∀ U : State, U.heap = H → s.WarmedH U.vm → gE true cstrs Ac tE U U.heap := fun H locs hP hS => gE_at hE hS hsub (fun q hq => hfr q ((hE rfl).2.2.2.1 q (Nat.le_trans hS.1 hq)) (Nat.ne_of_gt (Nat.lt_of_lt_of_le ho9 (Nat.le_trans hS.1 hq))))
  have hkp : ∀ H H1 : Heap, lrow D ty o f H → H.size ≤ H1.size → (∀ q : Nat, q < H.size → ¬ Ac q → H1[q]? = H[q]?) → lrow D ty o f H1 := fun H H1 h _ hq => va_at.kept h (hq o (va_at.lt h) hno)
  refine g_aload_n S dL_delivery_0 rfl ?_
  refine g_iconst S (v := 0) dL_delivery_1 (by decide) ?_
  refine g_aload_n S dL_delivery_2 rfl ?_
  refine g_iload_n S dL_delivery_3 rfl ?_
  refine g_iload_n S dL_delivery_4 rfl ?_
  refine g_tcallVX (b0 := x) (As := [.int p1, .int p2]) (st := [.int 0, .ref o]) S hM (cwV 2 S.2.2.2.2 gL_delivery_X5_delivery rfl hrm.1 hrm.2.1 (by decide +kernel) ⟨Nat.succ_le_succ hrm.2.2.1, (by show 8 + (_ + 11) + rm.locals ≤ 460; have := hrm.2.2.2; omega)⟩) hK hsub hE' hkp (fun H h => h) (fun H h => hrc hK H h.1) rfl (Nat.le_of_ble_eq_true rfl) dL_delivery_5 ⟨(by show 0 + mc ≤ mc; omega), (by show 0 + ms ≤ ms; omega)⟩ ?_
  intro E
  by_cases hE9 : E = "java/lang/IllegalArgumentException"
  · subst hE9
    refine g_catch (name := "java/lang/IllegalArgumentException") S.2.2.2.1 [⟨0, 10, 13, 29⟩] ⟨0, 10, 17, 13⟩ [] htb (fun z hz => by
      simp only [List.mem_cons, List.not_mem_nil, or_false] at hz
      subst hz
      exact Or.inr ⟨by decide, "java/lang/IndexOutOfBoundsException", S.2.2.2.2 _ (List.mem_of_getElem? (i := 1) rfl), (hE rfl).2.2.2.2.2.2.2.2.1.2 ("java/lang/IllegalArgumentException", "java/lang/IndexOutOfBoundsException") (by simp [ncB])⟩) (by decide) (by decide) (S.2.2.2.2 _ (List.mem_of_getElem? (i := 2) rfl)) (exB_use (hE rfl).2.2.2.2.2.2.2.2.2 args _ (exB_in _ (by simp))) ?_
    intro q
    refine g_P (P' := fun H => P2 H ∧ lrow D ty o f H) (fun H h => ⟨h.1.2, h.2⟩) ?_
    refine g_astore S dL_delivery_17 (by decide) rfl ?_
    refine g_iconst S (v := 2) dL_delivery_19 (by decide) ?_
    exact g_iret S hlk hr (fun H h => ⟨rfl, h⟩) (by omega) (by omega) dL_delivery_20
  · exact g_noX (fun H h => hE9 h.1.1)
set_option maxHeartbeats 1500000 in
set_option maxRecDepth 100000 in
theorem w_ofContract {l : Launch} {D : va_G} {ty : Nat → ClassId} {tE x o : Nat} {f : Nat → Int64} {Ac Aw : Nat → Prop} (hsub : ∀ q, Ac q → Aw q) (ho : Aw o) (hno : ¬ Ac o) (hfr : ∀ q, Aw q → q ≠ o → Ac q) {P1 P2 : Heap → Prop} (p1 p2 : Int32) {rm : Room} {mc ms : Nat} {v : Int32} (hM : Met l yX5_ofContract wsX5_ofContract rm (gPc D ty true cstrs tE Ac [.ref x, .int p1, .int p2] P1) (gQ Ac (gRet (some (.int v)) P2)) mc ms Ac) (hrm : rm.cells = mc ∧ rm.slots = ms ∧ rm.frames ≤ 12 ∧ rm.locals ≤ 400) (hrc : ∀ {s : State}, gK D ty s → ∀ H, P1 H → ∃ cellB : Cell, H[x]? = some cellB ∧ cellB.vm.isStatics = false ∧ s.vm.findClass RX5 = some cellB.cls) (hk2 : ∀ H H1 : Heap, P2 H → (∀ q : Nat, q ≠ o → H1[q]? = H[q]?) → P2 H1) : Met l yL_ofContract wsL_ofContract (rmW mc ms) (gPc D ty true cstrs tE Aw [.ref x, .int p1, .int p2, .ref o] (fun H => P1 H ∧ lrow D ty o f H)) (gQ Aw (gRet (some (.int 0)) (fun H => P2 H ∧ lrow D ty o (vp_updL f 0 v.toInt64) H))) mc ms Aw := by
  refine g_MetH (cc := cL_ofContract) (maxL := 5) (ret := some .int) (hh := [(0, 10, 13, 29), (0, 10, 17, 13)]) [some (.ref x), some (.int p1), some (.int p2), some (.ref o), none] (by decide) rfl (Nat.le_of_ble_eq_true rfl) rfl ?_
  intro p e s m args below meth c S hlk hr htb hK hE hP0
  have S : CallFix p m c cL_ofContract 5 s args wsL_ofContract RL := S
  have ho9 : o < s.heap.size := hP0.2.lt
  have hE' : ∀ (H : Heap) (locs : List Loc), P1 H ∧ lrow D ty o f H → va_S Aw s.heap H locs → ∀ U : State, U.heap = H → s.WarmedH U.vm → gE true cstrs Ac tE U U.heap := fun H locs hP hS => gE_at hE hS hsub (fun q hq => hfr q ((hE rfl).2.2.2.1 q (Nat.le_trans hS.1 hq)) (Nat.ne_of_gt (Nat.lt_of_lt_of_le ho9 (Nat.le_trans hS.1 hq))))
  have hkp : ∀ H H1 : Heap, lrow D ty o f H → H.size ≤ H1.size → (∀ q : Nat, q < H.size → ¬ Ac q → H1[q]? = H[q]?) → lrow D ty o f H1 := fun H H1 h _ hq => va_at.kept h (hq o (va_at.lt h) hno)
  refine g_aload_n S dL_ofContract_0 rfl ?_
  refine g_iconst S (v := 0) dL_ofContract_1 (by decide) ?_
  refine g_aload_n S dL_ofContract_2 rfl ?_
  refine g_iload_n S dL_ofContract_3 rfl ?_
  refine g_iload_n S dL_ofContract_4 rfl ?_
  refine g_callVX (b0 := x) (As := [.int p1, .int p2]) (st := [.int 0, .ref o]) S hM (cwV 2 S.2.2.2.2 gL_ofContract_X5_ofContract rfl hrm.1 hrm.2.1 (by decide +kernel) ⟨Nat.succ_le_succ hrm.2.2.1, (by show 8 + (_ + 11) + rm.locals ≤ 460; have := hrm.2.2.2; omega)⟩) hK hsub hE' hkp (fun H h => h) (fun H h => hrc hK H h.1) rfl (Nat.le_of_ble_eq_true rfl) dL_ofContract_5 ⟨(by show 0 + mc ≤ mc; omega), (by show 0 + ms ≤ ms; omega)⟩ ?_
  intro r
  refine g_and (b := r = some (.int v)) (P' := fun H => P2 H ∧ lrow D ty o f H) (fun H h => ⟨h.1.1, h.1.2, h.2⟩) (fun hr9 => ?_)
  subst hr9
  refine g_i2l S dL_ofContract_8 ?_
  refine g_last S hK (a := o) (N' := 1) (f := f) (i := 0) (x := v.toInt64) (P' := fun H => P2 H ∧ lrow D ty o (vp_updL f 0 v.toInt64) H) (fun H h => h.2) (fun H h => ho) (fun H H1 h hat _ oq => ⟨hk2 H H1 h.1 oq, hat⟩) vin_01 dL_ofContract_9 ?_
  refine g_goto S (tgt := 21) dL_ofContract_10 (by decide) ?_
  refine g_iconst S (v := 0) dL_ofContract_21 (by decide) ?_
  exact g_iret S hlk hr (fun H h => ⟨rfl, h⟩) (by omega) (by omega) dL_ofContract_22
set_option maxHeartbeats 1500000 in
set_option maxRecDepth 100000 in
theorem x_ofContract_B {l : Launch} {D : va_G} {ty : Nat → ClassId} {tE x o : Nat} {f : Nat → Int64} {Ac Aw : Nat → Prop} (hsub : ∀ q, Ac q → Aw q) (ho : Aw o) (hno : ¬ Ac o) (hfr : ∀ q, Aw q → q ≠ o → Ac q) {P1 P2 : Heap → Prop} (p1 p2 : Int32) {rm : Room} {mc ms : Nat} (hM : vx_Met l yX5_ofContract wsX5_ofContract rm (gPc D ty true cstrs tE Ac [.ref x, .int p1, .int p2] P1) (gQ Ac (fun _ _ => False)) (gX Ac (fun E H => E = "java/lang/IndexOutOfBoundsException" ∧ P2 H)) mc ms Ac) (hrm : rm.cells = mc ∧ rm.slots = ms ∧ rm.frames ≤ 12 ∧ rm.locals ≤ 400) (hrc : ∀ {s : State}, gK D ty s → ∀ H, P1 H → ∃ cellB : Cell, H[x]? = some cellB ∧ cellB.vm.isStatics = false ∧ s.vm.findClass RX5 = some cellB.cls) : Met l yL_ofContract wsL_ofContract (rmW mc ms) (gPc D ty true cstrs tE Aw [.ref x, .int p1, .int p2, .ref o] (fun H => P1 H ∧ lrow D ty o f H)) (gQ Aw (gRet (some (.int 1)) (fun H => P2 H ∧ lrow D ty o f H))) mc ms Aw := by
  refine g_MetH (cc := cL_ofContract) (maxL := 5) (ret := some .int) (hh := [(0, 10, 13, 29), (0, 10, 17, 13)]) [some (.ref x), some (.int p1), some (.int p2), some (.ref o), none] (by decide) rfl (Nat.le_of_ble_eq_true rfl) rfl ?_
  intro p e s m args below meth c S hlk hr htb hK hE hP0
  have S : CallFix p m c cL_ofContract 5 s args wsL_ofContract RL := S
  have ho9 : o < s.heap.size := hP0.2.lt
  have hE' : ∀ (H : Heap) (locs : List Loc), P1 H ∧ lrow D ty o f H → va_S Aw s.heap H locs → ∀ U : State, U.heap = H → s.WarmedH U.vm → gE true cstrs Ac tE U U.heap := fun H locs hP hS => gE_at hE hS hsub (fun q hq => hfr q ((hE rfl).2.2.2.1 q (Nat.le_trans hS.1 hq)) (Nat.ne_of_gt (Nat.lt_of_lt_of_le ho9 (Nat.le_trans hS.1 hq))))
  have hkp : ∀ H H1 : Heap, lrow D ty o f H → H.size ≤ H1.size → (∀ q : Nat, q < H.size → ¬ Ac q → H1[q]? = H[q]?) → lrow D ty o f H1 := fun H H1 h _ hq => va_at.kept h (hq o (va_at.lt h) hno)
  refine g_aload_n S dL_ofContract_0 rfl ?_
  refine g_iconst S (v := 0) dL_ofContract_1 (by decide) ?_
  refine g_aload_n S dL_ofContract_2 rfl ?_
  refine g_iload_n S dL_ofContract_3 rfl ?_
  refine g_iload_n S dL_ofContract_4 rfl ?_
  refine g_tcallVX (b0 := x) (As := [.int p1, .int p2]) (st := [.int 0, .ref o]) S hM (cwV 2 S.2.2.2.2 gL_ofContract_X5_ofContract rfl hrm.1 hrm.2.1 (by decide +kernel) ⟨Nat.succ_le_succ hrm.2.2.1, (by show 8 + (_ + 11) + rm.locals ≤ 460; have := hrm.2.2.2; omega)⟩) hK hsub hE' hkp (fun H h => h) (fun H h => hrc hK H h.1) rfl (Nat.le_of_ble_eq_true rfl) dL_ofContract_5 ⟨(by show 0 + mc ≤ mc; omega), (by show 0 + ms ≤ ms; omega)⟩ ?_
  intro E
  by_cases hE9 : E = "java/lang/IndexOutOfBoundsException"
  · subst hE9
    refine g_catch (name := "java/lang/IndexOutOfBoundsException") S.2.2.2.1 [] ⟨0, 10, 13, 29⟩ [⟨0, 10, 17, 13⟩] htb (fun z hz => by cases hz) (by decide) (by decide) (S.2.2.2.2 _ (List.mem_of_getElem? (i := 1) rfl)) (exB_use (hE rfl).2.2.2.2.2.2.2.2.2 args _ (exB_in _ (by simp))) ?_
    intro q
    refine g_P (P' := fun H => P2 H ∧ lrow D ty o f H) (fun H h => ⟨h.1.2, h.2⟩) ?_
    refine g_astore S dL_ofContract_13 (by decide) rfl ?_
    refine g_iconst S (v := 1) dL_ofContract_15 (by decide) ?_
    exact g_iret S hlk hr (fun H h => ⟨rfl, h⟩) (by omega) (by omega) dL_ofContract_16
  · exact g_noX (fun H h => hE9 h.1.1)
set_option maxHeartbeats 1500000 in
set_option maxRecDepth 100000 in
theorem x_ofContract_A {l : Launch} {D : va_G} {ty : Nat → ClassId} {tE x o : Nat} {f : Nat → Int64} {Ac Aw : Nat → Prop} (hsub : ∀ q, Ac q → Aw q) (ho : Aw o) (hno : ¬ Ac o) (hfr : ∀ q, Aw q → q ≠ o → Ac q) {P1 P2 : Heap → Prop} (p1 p2 : Int32) {rm : Room} {mc ms : Nat} (hM : vx_Met l yX5_ofContract wsX5_ofContract rm (gPc D ty true cstrs tE Ac [.ref x, .int p1, .int p2] P1) (gQ Ac (fun _ _ => False)) (gX Ac (fun E H => E = "java/lang/IllegalArgumentException" ∧ P2 H)) mc ms Ac) (hrm : rm.cells = mc ∧ rm.slots = ms ∧ rm.frames ≤ 12 ∧ rm.locals ≤ 400) (hrc : ∀ {s : State}, gK D ty s → ∀ H, P1 H → ∃ cellB : Cell, H[x]? = some cellB ∧ cellB.vm.isStatics = false ∧ s.vm.findClass RX5 = some cellB.cls) : Met l yL_ofContract wsL_ofContract (rmW mc ms) (gPc D ty true cstrs tE Aw [.ref x, .int p1, .int p2, .ref o] (fun H => P1 H ∧ lrow D ty o f H)) (gQ Aw (gRet (some (.int 2)) (fun H => P2 H ∧ lrow D ty o f H))) mc ms Aw := by
  refine g_MetH (cc := cL_ofContract) (maxL := 5) (ret := some .int) (hh := [(0, 10, 13, 29), (0, 10, 17, 13)]) [some (.ref x), some (.int p1), some (.int p2), some (.ref o), none] (by decide) rfl (Nat.le_of_ble_eq_true rfl) rfl ?_
  intro p e s m args below meth c S hlk hr htb hK hE hP0
  have S : CallFix p m c cL_ofContract 5 s args wsL_ofContract RL := S
  have ho9 : o < s.heap.size := hP0.2.lt
  have hE' : ∀ (H : Heap) (locs : List Loc), P1 H ∧ lrow D ty o f H → va_S Aw s.heap H locs → ∀ U : State, U.heap = H → s.WarmedH U.vm → gE true cstrs Ac tE U U.heap := fun H locs hP hS => gE_at hE hS hsub (fun q hq => hfr q ((hE rfl).2.2.2.1 q (Nat.le_trans hS.1 hq)) (Nat.ne_of_gt (Nat.lt_of_lt_of_le ho9 (Nat.le_trans hS.1 hq))))
  have hkp : ∀ H H1 : Heap, lrow D ty o f H → H.size ≤ H1.size → (∀ q : Nat, q < H.size → ¬ Ac q → H1[q]? = H[q]?) → lrow D ty o f H1 := fun H H1 h _ hq => va_at.kept h (hq o (va_at.lt h) hno)
  refine g_aload_n S dL_ofContract_0 rfl ?_
  refine g_iconst S (v := 0) dL_ofContract_1 (by decide) ?_
  refine g_aload_n S dL_ofContract_2 rfl ?_
  refine g_iload_n S dL_ofContract_3 rfl ?_
  refine g_iload_n S dL_ofContract_4 rfl ?_
  refine g_tcallVX (b0 := x) (As := [.int p1, .int p2]) (st := [.int 0, .ref o]) S hM (cwV 2 S.2.2.2.2 gL_ofContract_X5_ofContract rfl hrm.1 hrm.2.1 (by decide +kernel) ⟨Nat.succ_le_succ hrm.2.2.1, (by show 8 + (_ + 11) + rm.locals ≤ 460; have := hrm.2.2.2; omega)⟩) hK hsub hE' hkp (fun H h => h) (fun H h => hrc hK H h.1) rfl (Nat.le_of_ble_eq_true rfl) dL_ofContract_5 ⟨(by show 0 + mc ≤ mc; omega), (by show 0 + ms ≤ ms; omega)⟩ ?_
  intro E
  by_cases hE9 : E = "java/lang/IllegalArgumentException"
  · subst hE9
    refine g_catch (name := "java/lang/IllegalArgumentException") S.2.2.2.1 [⟨0, 10, 13, 29⟩] ⟨0, 10, 17, 13⟩ [] htb (fun z hz => by
      simp only [List.mem_cons, List.not_mem_nil, or_false] at hz
      subst hz
      exact Or.inr ⟨by decide, "java/lang/IndexOutOfBoundsException", S.2.2.2.2 _ (List.mem_of_getElem? (i := 1) rfl), (hE rfl).2.2.2.2.2.2.2.2.1.2 ("java/lang/IllegalArgumentException", "java/lang/IndexOutOfBoundsException") (by simp [ncB])⟩) (by decide) (by decide) (S.2.2.2.2 _ (List.mem_of_getElem? (i := 2) rfl)) (exB_use (hE rfl).2.2.2.2.2.2.2.2.2 args _ (exB_in _ (by simp))) ?_
    intro q
    refine g_P (P' := fun H => P2 H ∧ lrow D ty o f H) (fun H h => ⟨h.1.2, h.2⟩) ?_
    refine g_astore S dL_ofContract_17 (by decide) rfl ?_
    refine g_iconst S (v := 2) dL_ofContract_19 (by decide) ?_
    exact g_iret S hlk hr (fun H h => ⟨rfl, h⟩) (by omega) (by omega) dL_ofContract_20
  · exact g_noX (fun H h => hE9 h.1.1)
set_option maxHeartbeats 1500000 in
set_option maxRecDepth 100000 in
theorem w_ofSilo {l : Launch} {D : va_G} {ty : Nat → ClassId} {tE x o : Nat} {f : Nat → Int64} {Ac Aw : Nat → Prop} (hsub : ∀ q, Ac q → Aw q) (ho : Aw o) (hno : ¬ Ac o) (hfr : ∀ q, Aw q → q ≠ o → Ac q) {P1 P2 : Heap → Prop} (p1 p2 : Int32) {rm : Room} {mc ms : Nat} {v : Int32} (hM : Met l yX5_ofSilo wsX5_ofSilo rm (gPc D ty true cstrs tE Ac [.ref x, .int p1, .int p2] P1) (gQ Ac (gRet (some (.int v)) P2)) mc ms Ac) (hrm : rm.cells = mc ∧ rm.slots = ms ∧ rm.frames ≤ 12 ∧ rm.locals ≤ 400) (hrc : ∀ {s : State}, gK D ty s → ∀ H, P1 H → ∃ cellB : Cell, H[x]? = some cellB ∧ cellB.vm.isStatics = false ∧ s.vm.findClass RX5 = some cellB.cls) (hk2 : ∀ H H1 : Heap, P2 H → (∀ q : Nat, q ≠ o → H1[q]? = H[q]?) → P2 H1) : Met l yL_ofSilo wsL_ofSilo (rmW mc ms) (gPc D ty true cstrs tE Aw [.ref x, .int p1, .int p2, .ref o] (fun H => P1 H ∧ lrow D ty o f H)) (gQ Aw (gRet (some (.int 0)) (fun H => P2 H ∧ lrow D ty o (vp_updL f 0 v.toInt64) H))) mc ms Aw := by
  refine g_MetH (cc := cL_ofSilo) (maxL := 5) (ret := some .int) (hh := [(0, 10, 13, 29), (0, 10, 17, 13)]) [some (.ref x), some (.int p1), some (.int p2), some (.ref o), none] (by decide) rfl (Nat.le_of_ble_eq_true rfl) rfl ?_
  intro p e s m args below meth c S hlk hr htb hK hE hP0
  have S : CallFix p m c cL_ofSilo 5 s args wsL_ofSilo RL := S
  have ho9 : o < s.heap.size := hP0.2.lt
  have hE' : ∀ (H : Heap) (locs : List Loc), P1 H ∧ lrow D ty o f H → va_S Aw s.heap H locs → ∀ U : State, U.heap = H → s.WarmedH U.vm → gE true cstrs Ac tE U U.heap := fun H locs hP hS => gE_at hE hS hsub (fun q hq => hfr q ((hE rfl).2.2.2.1 q (Nat.le_trans hS.1 hq)) (Nat.ne_of_gt (Nat.lt_of_lt_of_le ho9 (Nat.le_trans hS.1 hq))))
  have hkp : ∀ H H1 : Heap, lrow D ty o f H → H.size ≤ H1.size → (∀ q : Nat, q < H.size → ¬ Ac q → H1[q]? = H[q]?) → lrow D ty o f H1 := fun H H1 h _ hq => va_at.kept h (hq o (va_at.lt h) hno)
  refine g_aload_n S dL_ofSilo_0 rfl ?_
  refine g_iconst S (v := 0) dL_ofSilo_1 (by decide) ?_
  refine g_aload_n S dL_ofSilo_2 rfl ?_
  refine g_iload_n S dL_ofSilo_3 rfl ?_
  refine g_iload_n S dL_ofSilo_4 rfl ?_
  refine g_callVX (b0 := x) (As := [.int p1, .int p2]) (st := [.int 0, .ref o]) S hM (cwV 2 S.2.2.2.2 gL_ofSilo_X5_ofSilo rfl hrm.1 hrm.2.1 (by decide +kernel) ⟨Nat.succ_le_succ hrm.2.2.1, (by show 8 + (_ + 11) + rm.locals ≤ 460; have := hrm.2.2.2; omega)⟩) hK hsub hE' hkp (fun H h => h) (fun H h => hrc hK H h.1) rfl (Nat.le_of_ble_eq_true rfl) dL_ofSilo_5 ⟨(by show 0 + mc ≤ mc; omega), (by show 0 + ms ≤ ms; omega)⟩ ?_
  intro r
  refine g_and (b := r = some (.int v)) (P' := fun H => P2 H ∧ lrow D ty o f H) (fun H h => ⟨h.1.1, h.1.2, h.2⟩) (fun hr9 => ?_)
  subst hr9
  refine g_i2l S dL_ofSilo_8 ?_
  refine g_last S hK (a := o) (N' := 1) (f := f) (i := 0) (x := v.toInt64) (P' := fun H => P2 H ∧ lrow D ty o (vp_updL f 0 v.toInt64) H) (fun H h => h.2) (fun H h => ho) (fun H H1 h hat _ oq => ⟨hk2 H H1 h.1 oq, hat⟩) vin_01 dL_ofSilo_9 ?_
  refine g_goto S (tgt := 21) dL_ofSilo_10 (by decide) ?_
  refine g_iconst S (v := 0) dL_ofSilo_21 (by decide) ?_
  exact g_iret S hlk hr (fun H h => ⟨rfl, h⟩) (by omega) (by omega) dL_ofSilo_22
set_option maxHeartbeats 1500000 in
set_option maxRecDepth 100000 in
theorem x_ofSilo_B {l : Launch} {D : va_G} {ty : Nat → ClassId} {tE x o : Nat} {f : Nat → Int64} {Ac Aw : Nat → Prop} (hsub : ∀ q, Ac q → Aw q) (ho : Aw o) (hno : ¬ Ac o) (hfr : ∀ q, Aw q → q ≠ o → Ac q) {P1 P2 : Heap → Prop} (p1 p2 : Int32) {rm : Room} {mc ms : Nat} (hM : vx_Met l yX5_ofSilo wsX5_ofSilo rm (gPc D ty true cstrs tE Ac [.ref x, .int p1, .int p2] P1) (gQ Ac (fun _ _ => False)) (gX Ac (fun E H => E = "java/lang/IndexOutOfBoundsException" ∧ P2 H)) mc ms Ac) (hrm : rm.cells = mc ∧ rm.slots = ms ∧ rm.frames ≤ 12 ∧ rm.locals ≤ 400) (hrc : ∀ {s : State}, gK D ty s → ∀ H, P1 H → ∃ cellB : Cell, H[x]? = some cellB ∧ cellB.vm.isStatics = false ∧ s.vm.findClass RX5 = some cellB.cls) : Met l yL_ofSilo wsL_ofSilo (rmW mc ms) (gPc D ty true cstrs tE Aw [.ref x, .int p1, .int p2, .ref o] (fun H => P1 H ∧ lrow D ty o f H)) (gQ Aw (gRet (some (.int 1)) (fun H => P2 H ∧ lrow D ty o f H))) mc ms Aw := by
  refine g_MetH (cc := cL_ofSilo) (maxL := 5) (ret := some .int) (hh := [(0, 10, 13, 29), (0, 10, 17, 13)]) [some (.ref x), some (.int p1), some (.int p2), some (.ref o), none] (by decide) rfl (Nat.le_of_ble_eq_true rfl) rfl ?_
  intro p e s m args below meth c S hlk hr htb hK hE hP0
  have S : CallFix p m c cL_ofSilo 5 s args wsL_ofSilo RL := S
  have ho9 : o < s.heap.size := hP0.2.lt
  have hE' : ∀ (H : Heap) (locs : List Loc), P1 H ∧ lrow D ty o f H → va_S Aw s.heap H locs → ∀ U : State, U.heap = H → s.WarmedH U.vm → gE true cstrs Ac tE U U.heap := fun H locs hP hS => gE_at hE hS hsub (fun q hq => hfr q ((hE rfl).2.2.2.1 q (Nat.le_trans hS.1 hq)) (Nat.ne_of_gt (Nat.lt_of_lt_of_le ho9 (Nat.le_trans hS.1 hq))))
  have hkp : ∀ H H1 : Heap, lrow D ty o f H → H.size ≤ H1.size → (∀ q : Nat, q < H.size → ¬ Ac q → H1[q]? = H[q]?) → lrow D ty o f H1 := fun H H1 h _ hq => va_at.kept h (hq o (va_at.lt h) hno)
  refine g_aload_n S dL_ofSilo_0 rfl ?_
  refine g_iconst S (v := 0) dL_ofSilo_1 (by decide) ?_
  refine g_aload_n S dL_ofSilo_2 rfl ?_
  refine g_iload_n S dL_ofSilo_3 rfl ?_
  refine g_iload_n S dL_ofSilo_4 rfl ?_
  refine g_tcallVX (b0 := x) (As := [.int p1, .int p2]) (st := [.int 0, .ref o]) S hM (cwV 2 S.2.2.2.2 gL_ofSilo_X5_ofSilo rfl hrm.1 hrm.2.1 (by decide +kernel) ⟨Nat.succ_le_succ hrm.2.2.1, (by show 8 + (_ + 11) + rm.locals ≤ 460; have := hrm.2.2.2; omega)⟩) hK hsub hE' hkp (fun H h => h) (fun H h => hrc hK H h.1) rfl (Nat.le_of_ble_eq_true rfl) dL_ofSilo_5 ⟨(by show 0 + mc ≤ mc; omega), (by show 0 + ms ≤ ms; omega)⟩ ?_
  intro E
  by_cases hE9 : E = "java/lang/IndexOutOfBoundsException"
  · subst hE9
    refine g_catch (name := "java/lang/IndexOutOfBoundsException") S.2.2.2.1 [] ⟨0, 10, 13, 29⟩ [⟨0, 10, 17, 13⟩] htb (fun z hz => by cases hz) (by decide) (by decide) (S.2.2.2.2 _ (List.mem_of_getElem? (i := 1) rfl)) (exB_use (hE rfl).2.2.2.2.2.2.2.2.2 args _ (exB_in _ (by simp))) ?_
    intro q
    refine g_P (P' := fun H => P2 H ∧ lrow D ty o f H) (fun H h => ⟨h.1.2, h.2⟩) ?_
    refine g_astore S dL_ofSilo_13 (by decide) rfl ?_
    refine g_iconst S (v := 1) dL_ofSilo_15 (by decide) ?_
    exact g_iret S hlk hr (fun H h => ⟨rfl, h⟩) (by omega) (by omega) dL_ofSilo_16
  · exact g_noX (fun H h => hE9 h.1.1)
set_option maxHeartbeats 1500000 in
set_option maxRecDepth 100000 in
theorem x_ofSilo_A {l : Launch} {D : va_G} {ty : Nat → ClassId} {tE x o : Nat} {f : Nat → Int64} {Ac Aw : Nat → Prop} (hsub : ∀ q, Ac q → Aw q) (ho : Aw o) (hno : ¬ Ac o) (hfr : ∀ q, Aw q → q ≠ o → Ac q) {P1 P2 : Heap → Prop} (p1 p2 : Int32) {rm : Room} {mc ms : Nat} (hM : vx_Met l yX5_ofSilo wsX5_ofSilo rm (gPc D ty true cstrs tE Ac [.ref x, .int p1, .int p2] P1) (gQ Ac (fun _ _ => False)) (gX Ac (fun E H => E = "java/lang/IllegalArgumentException" ∧ P2 H)) mc ms Ac) (hrm : rm.cells = mc ∧ rm.slots = ms ∧ rm.frames ≤ 12 ∧ rm.locals ≤ 400) (hrc : ∀ {s : State}, gK D ty s → ∀ H, P1 H → ∃ cellB : Cell, H[x]? = some cellB ∧ cellB.vm.isStatics = false ∧ s.vm.findClass RX5 = some cellB.cls) : Met l yL_ofSilo wsL_ofSilo (rmW mc ms) (gPc D ty true cstrs tE Aw [.ref x, .int p1, .int p2, .ref o] (fun H => P1 H ∧ lrow D ty o f H)) (gQ Aw (gRet (some (.int 2)) (fun H => P2 H ∧ lrow D ty o f H))) mc ms Aw := by
  refine g_MetH (cc := cL_ofSilo) (maxL := 5) (ret := some .int) (hh := [(0, 10, 13, 29), (0, 10, 17, 13)]) [some (.ref x), some (.int p1), some (.int p2), some (.ref o), none] (by decide) rfl (Nat.le_of_ble_eq_true rfl) rfl ?_
  intro p e s m args below meth c S hlk hr htb hK hE hP0
  have S : CallFix p m c cL_ofSilo 5 s args wsL_ofSilo RL := S
  have ho9 : o < s.heap.size := hP0.2.lt
  have hE' : ∀ (H : Heap) (locs : List Loc), P1 H ∧ lrow D ty o f H → va_S Aw s.heap H locs → ∀ U : State, U.heap = H → s.WarmedH U.vm → gE true cstrs Ac tE U U.heap := fun H locs hP hS => gE_at hE hS hsub (fun q hq => hfr q ((hE rfl).2.2.2.1 q (Nat.le_trans hS.1 hq)) (Nat.ne_of_gt (Nat.lt_of_lt_of_le ho9 (Nat.le_trans hS.1 hq))))
  have hkp : ∀ H H1 : Heap, lrow D ty o f H → H.size ≤ H1.size → (∀ q : Nat, q < H.size → ¬ Ac q → H1[q]? = H[q]?) → lrow D ty o f H1 := fun H H1 h _ hq => va_at.kept h (hq o (va_at.lt h) hno)
  refine g_aload_n S dL_ofSilo_0 rfl ?_
  refine g_iconst S (v := 0) dL_ofSilo_1 (by decide) ?_
  refine g_aload_n S dL_ofSilo_2 rfl ?_
  refine g_iload_n S dL_ofSilo_3 rfl ?_
  refine g_iload_n S dL_ofSilo_4 rfl ?_
  refine g_tcallVX (b0 := x) (As := [.int p1, .int p2]) (st := [.int 0, .ref o]) S hM (cwV 2 S.2.2.2.2 gL_ofSilo_X5_ofSilo rfl hrm.1 hrm.2.1 (by decide +kernel) ⟨Nat.succ_le_succ hrm.2.2.1, (by show 8 + (_ + 11) + rm.locals ≤ 460; have := hrm.2.2.2; omega)⟩) hK hsub hE' hkp (fun H h => h) (fun H h => hrc hK H h.1) rfl (Nat.le_of_ble_eq_true rfl) dL_ofSilo_5 ⟨(by show 0 + mc ≤ mc; omega), (by show 0 + ms ≤ ms; omega)⟩ ?_
  intro E
  by_cases hE9 : E = "java/lang/IllegalArgumentException"
  · subst hE9
    refine g_catch (name := "java/lang/IllegalArgumentException") S.2.2.2.1 [⟨0, 10, 13, 29⟩] ⟨0, 10, 17, 13⟩ [] htb (fun z hz => by
      simp only [List.mem_cons, List.not_mem_nil, or_false] at hz
      subst hz
      exact Or.inr ⟨by decide, "java/lang/IndexOutOfBoundsException", S.2.2.2.2 _ (List.mem_of_getElem? (i := 1) rfl), (hE rfl).2.2.2.2.2.2.2.2.1.2 ("java/lang/IllegalArgumentException", "java/lang/IndexOutOfBoundsException") (by simp [ncB])⟩) (by decide) (by decide) (S.2.2.2.2 _ (List.mem_of_getElem? (i := 2) rfl)) (exB_use (hE rfl).2.2.2.2.2.2.2.2.2 args _ (exB_in _ (by simp))) ?_
    intro q
    refine g_P (P' := fun H => P2 H ∧ lrow D ty o f H) (fun H h => ⟨h.1.2, h.2⟩) ?_
    refine g_astore S dL_ofSilo_17 (by decide) rfl ?_
    refine g_iconst S (v := 2) dL_ofSilo_19 (by decide) ?_
    exact g_iret S hlk hr (fun H h => ⟨rfl, h⟩) (by omega) (by omega) dL_ofSilo_20
  · exact g_noX (fun H h => hE9 h.1.1)
set_option maxHeartbeats 1500000 in
set_option maxRecDepth 100000 in
theorem w_contentAnew {l : Launch} {D : va_G} {ty : Nat → ClassId} {tE x o : Nat} {f : Nat → Int64} {Ac Aw : Nat → Prop} (hsub : ∀ q, Ac q → Aw q) (ho : Aw o) (hno : ¬ Ac o) (hfr : ∀ q, Aw q → q ≠ o → Ac q) {P1 P2 : Heap → Prop} (p1 : Int32) {rm : Room} {mc ms : Nat} {v : Int32} (hM : Met l yX5_contentAnew wsX5_contentAnew rm (gPc D ty true cstrs tE Ac [.ref x, .int p1] P1) (gQ Ac (gRet (some (.int v)) P2)) mc ms Ac) (hrm : rm.cells = mc ∧ rm.slots = ms ∧ rm.frames ≤ 12 ∧ rm.locals ≤ 400) (hrc : ∀ {s : State}, gK D ty s → ∀ H, P1 H → ∃ cellB : Cell, H[x]? = some cellB ∧ cellB.vm.isStatics = false ∧ s.vm.findClass RX5 = some cellB.cls) (hk2 : ∀ H H1 : Heap, P2 H → (∀ q : Nat, q ≠ o → H1[q]? = H[q]?) → P2 H1) : Met l yL_contentAnew wsL_contentAnew (rmW mc ms) (gPc D ty true cstrs tE Aw [.ref x, .int p1, .ref o] (fun H => P1 H ∧ lrow D ty o f H)) (gQ Aw (gRet (some (.int 0)) (fun H => P2 H ∧ lrow D ty o (vp_updL f 0 v.toInt64) H))) mc ms Aw := by
  refine g_MetH (cc := cL_contentAnew) (maxL := 4) (ret := some .int) (hh := [(0, 9, 12, 29)]) [some (.ref x), some (.int p1), some (.ref o), none] (by decide) rfl (Nat.le_of_ble_eq_true rfl) rfl ?_
  intro p e s m args below meth c S hlk hr htb hK hE hP0
  have S : CallFix p m c cL_contentAnew 4 s args wsL_contentAnew RL := S
  have ho9 : o < s.heap.size := hP0.2.lt
  have hE' : ∀ (H : Heap) (locs : List Loc), P1 H ∧ lrow D ty o f H → va_S Aw s.heap H locs → ∀ U : State, U.heap = H → s.WarmedH U.vm → gE true cstrs Ac tE U U.heap := fun H locs hP hS => gE_at hE hS hsub (fun q hq => hfr q ((hE rfl).2.2.2.1 q (Nat.le_trans hS.1 hq)) (Nat.ne_of_gt (Nat.lt_of_lt_of_le ho9 (Nat.le_trans hS.1 hq))))
  have hkp : ∀ H H1 : Heap, lrow D ty o f H → H.size ≤ H1.size → (∀ q : Nat, q < H.size → ¬ Ac q → H1[q]? = H[q]?) → lrow D ty o f H1 := fun H H1 h _ hq => va_at.kept h (hq o (va_at.lt h) hno)
  refine g_aload_n S dL_contentAnew_0 rfl ?_
  refine g_iconst S (v := 0) dL_contentAnew_1 (by decide) ?_
  refine g_aload_n S dL_contentAnew_2 rfl ?_
  refine g_iload_n S dL_contentAnew_3 rfl ?_
  refine g_callVX (b0 := x) (As := [.int p1]) (st := [.int 0, .ref o]) S hM (cwV 1 S.2.2.2.2 gL_contentAnew_X5_contentAnew rfl hrm.1 hrm.2.1 (by decide +kernel) ⟨Nat.succ_le_succ hrm.2.2.1, (by show 8 + (_ + 11) + rm.locals ≤ 460; have := hrm.2.2.2; omega)⟩) hK hsub hE' hkp (fun H h => h) (fun H h => hrc hK H h.1) rfl (Nat.le_of_ble_eq_true rfl) dL_contentAnew_4 ⟨(by show 0 + mc ≤ mc; omega), (by show 0 + ms ≤ ms; omega)⟩ ?_
  intro r
  refine g_and (b := r = some (.int v)) (P' := fun H => P2 H ∧ lrow D ty o f H) (fun H h => ⟨h.1.1, h.1.2, h.2⟩) (fun hr9 => ?_)
  subst hr9
  refine g_i2l S dL_contentAnew_7 ?_
  refine g_last S hK (a := o) (N' := 1) (f := f) (i := 0) (x := v.toInt64) (P' := fun H => P2 H ∧ lrow D ty o (vp_updL f 0 v.toInt64) H) (fun H h => h.2) (fun H h => ho) (fun H H1 h hat _ oq => ⟨hk2 H H1 h.1 oq, hat⟩) vin_01 dL_contentAnew_8 ?_
  refine g_goto S (tgt := 15) dL_contentAnew_9 (by decide) ?_
  refine g_iconst S (v := 0) dL_contentAnew_15 (by decide) ?_
  exact g_iret S hlk hr (fun H h => ⟨rfl, h⟩) (by omega) (by omega) dL_contentAnew_16
set_option maxHeartbeats 1500000 in
set_option maxRecDepth 100000 in
theorem x_contentAnew_B {l : Launch} {D : va_G} {ty : Nat → ClassId} {tE x o : Nat} {f : Nat → Int64} {Ac Aw : Nat → Prop} (hsub : ∀ q, Ac q → Aw q) (ho : Aw o) (hno : ¬ Ac o) (hfr : ∀ q, Aw q → q ≠ o → Ac q) {P1 P2 : Heap → Prop} (p1 : Int32) {rm : Room} {mc ms : Nat} (hM : vx_Met l yX5_contentAnew wsX5_contentAnew rm (gPc D ty true cstrs tE Ac [.ref x, .int p1] P1) (gQ Ac (fun _ _ => False)) (gX Ac (fun E H => E = "java/lang/IndexOutOfBoundsException" ∧ P2 H)) mc ms Ac) (hrm : rm.cells = mc ∧ rm.slots = ms ∧ rm.frames ≤ 12 ∧ rm.locals ≤ 400) (hrc : ∀ {s : State}, gK D ty s → ∀ H, P1 H → ∃ cellB : Cell, H[x]? = some cellB ∧ cellB.vm.isStatics = false ∧ s.vm.findClass RX5 = some cellB.cls) : Met l yL_contentAnew wsL_contentAnew (rmW mc ms) (gPc D ty true cstrs tE Aw [.ref x, .int p1, .ref o] (fun H => P1 H ∧ lrow D ty o f H)) (gQ Aw (gRet (some (.int 1)) (fun H => P2 H ∧ lrow D ty o f H))) mc ms Aw := by
  refine g_MetH (cc := cL_contentAnew) (maxL := 4) (ret := some .int) (hh := [(0, 9, 12, 29)]) [some (.ref x), some (.int p1), some (.ref o), none] (by decide) rfl (Nat.le_of_ble_eq_true rfl) rfl ?_
  intro p e s m args below meth c S hlk hr htb hK hE hP0
  have S : CallFix p m c cL_contentAnew 4 s args wsL_contentAnew RL := S
  have ho9 : o < s.heap.size := hP0.2.lt
  have hE' : ∀ (H : Heap) (locs : List Loc), P1 H ∧ lrow D ty o f H → va_S Aw s.heap H locs → ∀ U : State, U.heap = H → s.WarmedH U.vm → gE true cstrs Ac tE U U.heap := fun H locs hP hS => gE_at hE hS hsub (fun q hq => hfr q ((hE rfl).2.2.2.1 q (Nat.le_trans hS.1 hq)) (Nat.ne_of_gt (Nat.lt_of_lt_of_le ho9 (Nat.le_trans hS.1 hq))))
  have hkp : ∀ H H1 : Heap, lrow D ty o f H → H.size ≤ H1.size → (∀ q : Nat, q < H.size → ¬ Ac q → H1[q]? = H[q]?) → lrow D ty o f H1 := fun H H1 h _ hq => va_at.kept h (hq o (va_at.lt h) hno)
  refine g_aload_n S dL_contentAnew_0 rfl ?_
  refine g_iconst S (v := 0) dL_contentAnew_1 (by decide) ?_
  refine g_aload_n S dL_contentAnew_2 rfl ?_
  refine g_iload_n S dL_contentAnew_3 rfl ?_
  refine g_tcallVX (b0 := x) (As := [.int p1]) (st := [.int 0, .ref o]) S hM (cwV 1 S.2.2.2.2 gL_contentAnew_X5_contentAnew rfl hrm.1 hrm.2.1 (by decide +kernel) ⟨Nat.succ_le_succ hrm.2.2.1, (by show 8 + (_ + 11) + rm.locals ≤ 460; have := hrm.2.2.2; omega)⟩) hK hsub hE' hkp (fun H h => h) (fun H h => hrc hK H h.1) rfl (Nat.le_of_ble_eq_true rfl) dL_contentAnew_4 ⟨(by show 0 + mc ≤ mc; omega), (by show 0 + ms ≤ ms; omega)⟩ ?_
  intro E
  by_cases hE9 : E = "java/lang/IndexOutOfBoundsException"
  · subst hE9
    refine g_catch (name := "java/lang/IndexOutOfBoundsException") S.2.2.2.1 [] ⟨0, 9, 12, 29⟩ [] htb (fun z hz => by cases hz) (by decide) (by decide) (S.2.2.2.2 _ (List.mem_of_getElem? (i := 1) rfl)) (exB_use (hE rfl).2.2.2.2.2.2.2.2.2 args _ (exB_in _ (by simp))) ?_
    intro q
    refine g_P (P' := fun H => P2 H ∧ lrow D ty o f H) (fun H h => ⟨h.1.2, h.2⟩) ?_
    refine g_astore_n S dL_contentAnew_12 (by decide) rfl ?_
    refine g_iconst S (v := 1) dL_contentAnew_13 (by decide) ?_
    exact g_iret S hlk hr (fun H h => ⟨rfl, h⟩) (by omega) (by omega) dL_contentAnew_14
  · exact g_noX (fun H h => hE9 h.1.1)
set_option maxHeartbeats 1500000 in
set_option maxRecDepth 100000 in
theorem w_account {l : Launch} {D : va_G} {ty : Nat → ClassId} {tE x o : Nat} {f : Nat → Int64} {Ac Aw : Nat → Prop} (hsub : ∀ q, Ac q → Aw q) (ho : Aw o) (hno : ¬ Ac o) (hfr : ∀ q, Aw q → q ≠ o → Ac q) {P1 P2 : Heap → Prop} (p1 : Int32) {rm : Room} {mc ms : Nat} {v : Int64} (hM : Met l yX5_account wsX5_account rm (gPc D ty true cstrs tE Ac [.ref x, .int p1] P1) (gQ Ac (gRet (some (.long v)) P2)) mc ms Ac) (hrm : rm.cells = mc ∧ rm.slots = ms ∧ rm.frames ≤ 12 ∧ rm.locals ≤ 400) (hrc : ∀ {s : State}, gK D ty s → ∀ H, P1 H → ∃ cellB : Cell, H[x]? = some cellB ∧ cellB.vm.isStatics = false ∧ s.vm.findClass RX5 = some cellB.cls) (hk2 : ∀ H H1 : Heap, P2 H → (∀ q : Nat, q ≠ o → H1[q]? = H[q]?) → P2 H1) : Met l yL_account wsL_account (rmW mc ms) (gPc D ty true cstrs tE Aw [.ref x, .int p1, .ref o] (fun H => P1 H ∧ lrow D ty o f H)) (gQ Aw (gRet (some (.int 0)) (fun H => P2 H ∧ lrow D ty o (vp_updL f 0 v) H))) mc ms Aw := by
  refine g_MetH (cc := cL_account) (maxL := 4) (ret := some .int) (hh := [(0, 8, 11, 29)]) [some (.ref x), some (.int p1), some (.ref o), none] (by decide) rfl (Nat.le_of_ble_eq_true rfl) rfl ?_
  intro p e s m args below meth c S hlk hr htb hK hE hP0
  have S : CallFix p m c cL_account 4 s args wsL_account RL := S
  have ho9 : o < s.heap.size := hP0.2.lt
  have hE' : ∀ (H : Heap) (locs : List Loc), P1 H ∧ lrow D ty o f H → va_S Aw s.heap H locs → ∀ U : State, U.heap = H → s.WarmedH U.vm → gE true cstrs Ac tE U U.heap := fun H locs hP hS => gE_at hE hS hsub (fun q hq => hfr q ((hE rfl).2.2.2.1 q (Nat.le_trans hS.1 hq)) (Nat.ne_of_gt (Nat.lt_of_lt_of_le ho9 (Nat.le_trans hS.1 hq))))
  have hkp : ∀ H H1 : Heap, lrow D ty o f H → H.size ≤ H1.size → (∀ q : Nat, q < H.size → ¬ Ac q → H1[q]? = H[q]?) → lrow D ty o f H1 := fun H H1 h _ hq => va_at.kept h (hq o (va_at.lt h) hno)
  refine g_aload_n S dL_account_0 rfl ?_
  refine g_iconst S (v := 0) dL_account_1 (by decide) ?_
  refine g_aload_n S dL_account_2 rfl ?_
  refine g_iload_n S dL_account_3 rfl ?_
  refine g_callVX (b0 := x) (As := [.int p1]) (st := [.int 0, .ref o]) S hM (cwV 1 S.2.2.2.2 gL_account_X5_account rfl hrm.1 hrm.2.1 (by decide +kernel) ⟨Nat.succ_le_succ hrm.2.2.1, (by show 8 + (_ + 11) + rm.locals ≤ 460; have := hrm.2.2.2; omega)⟩) hK hsub hE' hkp (fun H h => h) (fun H h => hrc hK H h.1) rfl (Nat.le_of_ble_eq_true rfl) dL_account_4 ⟨(by show 0 + mc ≤ mc; omega), (by show 0 + ms ≤ ms; omega)⟩ ?_
  intro r
  refine g_and (b := r = some (.long v)) (P' := fun H => P2 H ∧ lrow D ty o f H) (fun H h => ⟨h.1.1, h.1.2, h.2⟩) (fun hr9 => ?_)
  subst hr9
  refine g_last S hK (a := o) (N' := 1) (f := f) (i := 0) (x := v) (P' := fun H => P2 H ∧ lrow D ty o (vp_updL f 0 v) H) (fun H h => h.2) (fun H h => ho) (fun H H1 h hat _ oq => ⟨hk2 H H1 h.1 oq, hat⟩) vin_01 dL_account_7 ?_
  refine g_goto S (tgt := 14) dL_account_8 (by decide) ?_
  refine g_iconst S (v := 0) dL_account_14 (by decide) ?_
  exact g_iret S hlk hr (fun H h => ⟨rfl, h⟩) (by omega) (by omega) dL_account_15
set_option maxHeartbeats 1500000 in
set_option maxRecDepth 100000 in
theorem x_account_B {l : Launch} {D : va_G} {ty : Nat → ClassId} {tE x o : Nat} {f : Nat → Int64} {Ac Aw : Nat → Prop} (hsub : ∀ q, Ac q → Aw q) (ho : Aw o) (hno : ¬ Ac o) (hfr : ∀ q, Aw q → q ≠ o → Ac q) {P1 P2 : Heap → Prop} (p1 : Int32) {rm : Room} {mc ms : Nat} (hM : vx_Met l yX5_account wsX5_account rm (gPc D ty true cstrs tE Ac [.ref x, .int p1] P1) (gQ Ac (fun _ _ => False)) (gX Ac (fun E H => E = "java/lang/IndexOutOfBoundsException" ∧ P2 H)) mc ms Ac) (hrm : rm.cells = mc ∧ rm.slots = ms ∧ rm.frames ≤ 12 ∧ rm.locals ≤ 400) (hrc : ∀ {s : State}, gK D ty s → ∀ H, P1 H → ∃ cellB : Cell, H[x]? = some cellB ∧ cellB.vm.isStatics = false ∧ s.vm.findClass RX5 = some cellB.cls) : Met l yL_account wsL_account (rmW mc ms) (gPc D ty true cstrs tE Aw [.ref x, .int p1, .ref o] (fun H => P1 H ∧ lrow D ty o f H)) (gQ Aw (gRet (some (.int 1)) (fun H => P2 H ∧ lrow D ty o f H))) mc ms Aw := by
  refine g_MetH (cc := cL_account) (maxL := 4) (ret := some .int) (hh := [(0, 8, 11, 29)]) [some (.ref x), some (.int p1), some (.ref o), none] (by decide) rfl (Nat.le_of_ble_eq_true rfl) rfl ?_
  intro p e s m args below meth c S hlk hr htb hK hE hP0
  have S : CallFix p m c cL_account 4 s args wsL_account RL := S
  have ho9 : o < s.heap.size := hP0.2.lt
  have hE' : ∀ (H : Heap) (locs : List Loc), P1 H ∧ lrow D ty o f H → va_S Aw s.heap H locs → ∀ U : State, U.heap = H → s.WarmedH U.vm → gE true cstrs Ac tE U U.heap := fun H locs hP hS => gE_at hE hS hsub (fun q hq => hfr q ((hE rfl).2.2.2.1 q (Nat.le_trans hS.1 hq)) (Nat.ne_of_gt (Nat.lt_of_lt_of_le ho9 (Nat.le_trans hS.1 hq))))
  have hkp : ∀ H H1 : Heap, lrow D ty o f H → H.size ≤ H1.size → (∀ q : Nat, q < H.size → ¬ Ac q → H1[q]? = H[q]?) → lrow D ty o f H1 := fun H H1 h _ hq => va_at.kept h (hq o (va_at.lt h) hno)
  refine g_aload_n S dL_account_0 rfl ?_
  refine g_iconst S (v := 0) dL_account_1 (by decide) ?_
  refine g_aload_n S dL_account_2 rfl ?_
  refine g_iload_n S dL_account_3 rfl ?_
  refine g_tcallVX (b0 := x) (As := [.int p1]) (st := [.int 0, .ref o]) S hM (cwV 1 S.2.2.2.2 gL_account_X5_account rfl hrm.1 hrm.2.1 (by decide +kernel) ⟨Nat.succ_le_succ hrm.2.2.1, (by show 8 + (_ + 11) + rm.locals ≤ 460; have := hrm.2.2.2; omega)⟩) hK hsub hE' hkp (fun H h => h) (fun H h => hrc hK H h.1) rfl (Nat.le_of_ble_eq_true rfl) dL_account_4 ⟨(by show 0 + mc ≤ mc; omega), (by show 0 + ms ≤ ms; omega)⟩ ?_
  intro E
  by_cases hE9 : E = "java/lang/IndexOutOfBoundsException"
  · subst hE9
    refine g_catch (name := "java/lang/IndexOutOfBoundsException") S.2.2.2.1 [] ⟨0, 8, 11, 29⟩ [] htb (fun z hz => by cases hz) (by decide) (by decide) (S.2.2.2.2 _ (List.mem_of_getElem? (i := 1) rfl)) (exB_use (hE rfl).2.2.2.2.2.2.2.2.2 args _ (exB_in _ (by simp))) ?_
    intro q
    refine g_P (P' := fun H => P2 H ∧ lrow D ty o f H) (fun H h => ⟨h.1.2, h.2⟩) ?_
    refine g_astore_n S dL_account_11 (by decide) rfl ?_
    refine g_iconst S (v := 1) dL_account_12 (by decide) ?_
    exact g_iret S hlk hr (fun H h => ⟨rfl, h⟩) (by omega) (by omega) dL_account_13
  · exact g_noX (fun H h => hE9 h.1.1)
set_option maxHeartbeats 1500000 in
set_option maxRecDepth 100000 in
theorem w_owes {l : Launch} {D : va_G} {ty : Nat → ClassId} {tE x o : Nat} {f : Nat → Int64} {Ac Aw : Nat → Prop} (hsub : ∀ q, Ac q → Aw q) (ho : Aw o) (hno : ¬ Ac o) (hfr : ∀ q, Aw q → q ≠ o → Ac q) {P1 P2 : Heap → Prop} (p1 : Int32) {rm : Room} {mc ms : Nat} {v : Int32} (hM : Met l yX5_owes wsX5_owes rm (gPc D ty true cstrs tE Ac [.ref x, .int p1] P1) (gQ Ac (gRet (some (.int v)) P2)) mc ms Ac) (hrm : rm.cells = mc ∧ rm.slots = ms ∧ rm.frames ≤ 12 ∧ rm.locals ≤ 400) (hrc : ∀ {s : State}, gK D ty s → ∀ H, P1 H → ∃ cellB : Cell, H[x]? = some cellB ∧ cellB.vm.isStatics = false ∧ s.vm.findClass RX5 = some cellB.cls) (hk2 : ∀ H H1 : Heap, P2 H → (∀ q : Nat, q ≠ o → H1[q]? = H[q]?) → P2 H1) : Met l yL_owes wsL_owes (rmW mc ms) (gPc D ty true cstrs tE Aw [.ref x, .int p1, .ref o] (fun H => P1 H ∧ lrow D ty o f H)) (gQ Aw (gRet (some (.int 0)) (fun H => P2 H ∧ lrow D ty o (vp_updL f 0 v.toInt64) H))) mc ms Aw := by
  refine g_MetH (cc := cL_owes) (maxL := 4) (ret := some .int) (hh := [(0, 9, 12, 29)]) [some (.ref x), some (.int p1), some (.ref o), none] (by decide) rfl (Nat.le_of_ble_eq_true rfl) rfl ?_
  intro p e s m args below meth c S hlk hr htb hK hE hP0
  have S : CallFix p m c cL_owes 4 s args wsL_owes RL := S
  have ho9 : o < s.heap.size := hP0.2.lt
  have hE' : ∀ (H : Heap) (locs : List Loc), P1 H ∧ lrow D ty o f H → va_S Aw s.heap H locs → ∀ U : State, U.heap = H → s.WarmedH U.vm → gE true cstrs Ac tE U U.heap := fun H locs hP hS => gE_at hE hS hsub (fun q hq => hfr q ((hE rfl).2.2.2.1 q (Nat.le_trans hS.1 hq)) (Nat.ne_of_gt (Nat.lt_of_lt_of_le ho9 (Nat.le_trans hS.1 hq))))
  have hkp : ∀ H H1 : Heap, lrow D ty o f H → H.size ≤ H1.size → (∀ q : Nat, q < H.size → ¬ Ac q → H1[q]? = H[q]?) → lrow D ty o f H1 := fun H H1 h _ hq => va_at.kept h (hq o (va_at.lt h) hno)
  refine g_aload_n S dL_owes_0 rfl ?_
  refine g_iconst S (v := 0) dL_owes_1 (by decide) ?_
  refine g_aload_n S dL_owes_2 rfl ?_
  refine g_iload_n S dL_owes_3 rfl ?_
  refine g_callVX (b0 := x) (As := [.int p1]) (st := [.int 0, .ref o]) S hM (cwV 1 S.2.2.2.2 gL_owes_X5_owes rfl hrm.1 hrm.2.1 (by decide +kernel) ⟨Nat.succ_le_succ hrm.2.2.1, (by show 8 + (_ + 11) + rm.locals ≤ 460; have := hrm.2.2.2; omega)⟩) hK hsub hE' hkp (fun H h => h) (fun H h => hrc hK H h.1) rfl (Nat.le_of_ble_eq_true rfl) dL_owes_4 ⟨(by show 0 + mc ≤ mc; omega), (by show 0 + ms ≤ ms; omega)⟩ ?_
  intro r
  refine g_and (b := r = some (.int v)) (P' := fun H => P2 H ∧ lrow D ty o f H) (fun H h => ⟨h.1.1, h.1.2, h.2⟩) (fun hr9 => ?_)
  subst hr9
  refine g_i2l S dL_owes_7 ?_
  refine g_last S hK (a := o) (N' := 1) (f := f) (i := 0) (x := v.toInt64) (P' := fun H => P2 H ∧ lrow D ty o (vp_updL f 0 v.toInt64) H) (fun H h => h.2) (fun H h => ho) (fun H H1 h hat _ oq => ⟨hk2 H H1 h.1 oq, hat⟩) vin_01 dL_owes_8 ?_
  refine g_goto S (tgt := 15) dL_owes_9 (by decide) ?_
  refine g_iconst S (v := 0) dL_owes_15 (by decide) ?_
  exact g_iret S hlk hr (fun H h => ⟨rfl, h⟩) (by omega) (by omega) dL_owes_16
set_option maxHeartbeats 1500000 in
set_option maxRecDepth 100000 in
theorem x_owes_B {l : Launch} {D : va_G} {ty : Nat → ClassId} {tE x o : Nat} {f : Nat → Int64} {Ac Aw : Nat → Prop} (hsub : ∀ q, Ac q → Aw q) (ho : Aw o) (hno : ¬ Ac o) (hfr : ∀ q, Aw q → q ≠ o → Ac q) {P1 P2 : Heap → Prop} (p1 : Int32) {rm : Room} {mc ms : Nat} (hM : vx_Met l yX5_owes wsX5_owes rm (gPc D ty true cstrs tE Ac [.ref x, .int p1] P1) (gQ Ac (fun _ _ => False)) (gX Ac (fun E H => E = "java/lang/IndexOutOfBoundsException" ∧ P2 H)) mc ms Ac) (hrm : rm.cells = mc ∧ rm.slots = ms ∧ rm.frames ≤ 12 ∧ rm.locals ≤ 400) (hrc : ∀ {s : State}, gK D ty s → ∀ H, P1 H → ∃ cellB : Cell, H[x]? = some cellB ∧ cellB.vm.isStatics = false ∧ s.vm.findClass RX5 = some cellB.cls) : Met l yL_owes wsL_owes (rmW mc ms) (gPc D ty true cstrs tE Aw [.ref x, .int p1, .ref o] (fun H => P1 H ∧ lrow D ty o f H)) (gQ Aw (gRet (some (.int 1)) (fun H => P2 H ∧ lrow D ty o f H))) mc ms Aw := by
  refine g_MetH (cc := cL_owes) (maxL := 4) (ret := some .int) (hh := [(0, 9, 12, 29)]) [some (.ref x), some (.int p1), some (.ref o), none] (by decide) rfl (Nat.le_of_ble_eq_true rfl) rfl ?_
  intro p e s m args below meth c S hlk hr htb hK hE hP0
  have S : CallFix p m c cL_owes 4 s args wsL_owes RL := S
  have ho9 : o < s.heap.size := hP0.2.lt
  have hE' : ∀ (H : Heap) (locs : List Loc), P1 H ∧ lrow D ty o f H → va_S Aw s.heap H locs → ∀ U : State, U.heap = H → s.WarmedH U.vm → gE true cstrs Ac tE U U.heap := fun H locs hP hS => gE_at hE hS hsub (fun q hq => hfr q ((hE rfl).2.2.2.1 q (Nat.le_trans hS.1 hq)) (Nat.ne_of_gt (Nat.lt_of_lt_of_le ho9 (Nat.le_trans hS.1 hq))))
  have hkp : ∀ H H1 : Heap, lrow D ty o f H → H.size ≤ H1.size → (∀ q : Nat, q < H.size → ¬ Ac q → H1[q]? = H[q]?) → lrow D ty o f H1 := fun H H1 h _ hq => va_at.kept h (hq o (va_at.lt h) hno)
  refine g_aload_n S dL_owes_0 rfl ?_
  refine g_iconst S (v := 0) dL_owes_1 (by decide) ?_
  refine g_aload_n S dL_owes_2 rfl ?_
  refine g_iload_n S dL_owes_3 rfl ?_
  refine g_tcallVX (b0 := x) (As := [.int p1]) (st := [.int 0, .ref o]) S hM (cwV 1 S.2.2.2.2 gL_owes_X5_owes rfl hrm.1 hrm.2.1 (by decide +kernel) ⟨Nat.succ_le_succ hrm.2.2.1, (by show 8 + (_ + 11) + rm.locals ≤ 460; have := hrm.2.2.2; omega)⟩) hK hsub hE' hkp (fun H h => h) (fun H h => hrc hK H h.1) rfl (Nat.le_of_ble_eq_true rfl) dL_owes_4 ⟨(by show 0 + mc ≤ mc; omega), (by show 0 + ms ≤ ms; omega)⟩ ?_
  intro E
  by_cases hE9 : E = "java/lang/IndexOutOfBoundsException"
  · subst hE9
    refine g_catch (name := "java/lang/IndexOutOfBoundsException") S.2.2.2.1 [] ⟨0, 9, 12, 29⟩ [] htb (fun z hz => by cases hz) (by decide) (by decide) (S.2.2.2.2 _ (List.mem_of_getElem? (i := 1) rfl)) (exB_use (hE rfl).2.2.2.2.2.2.2.2.2 args _ (exB_in _ (by simp))) ?_
    intro q
    refine g_P (P' := fun H => P2 H ∧ lrow D ty o f H) (fun H h => ⟨h.1.2, h.2⟩) ?_
    refine g_astore_n S dL_owes_12 (by decide) rfl ?_
    refine g_iconst S (v := 1) dL_owes_13 (by decide) ?_
    exact g_iret S hlk hr (fun H h => ⟨rfl, h⟩) (by omega) (by omega) dL_owes_14
  · exact g_noX (fun H h => hE9 h.1.1)
set_option maxHeartbeats 1500000 in
set_option maxRecDepth 100000 in
theorem w_holds {l : Launch} {D : va_G} {ty : Nat → ClassId} {tE x o : Nat} {f : Nat → Int64} {Ac Aw : Nat → Prop} (hsub : ∀ q, Ac q → Aw q) (ho : Aw o) (hno : ¬ Ac o) (hfr : ∀ q, Aw q → q ≠ o → Ac q) {P1 P2 : Heap → Prop} (p1 p2 p3 : Int32) {rm : Room} {mc ms : Nat} {v : Int32} (hM : Met l yX5_holds wsX5_holds rm (gPc D ty true cstrs tE Ac [.ref x, .int p1, .int p2, .int p3] P1) (gQ Ac (gRet (some (.int v)) P2)) mc ms Ac) (hrm : rm.cells = mc ∧ rm.slots = ms ∧ rm.frames ≤ 12 ∧ rm.locals ≤ 400) (hrc : ∀ {s : State}, gK D ty s → ∀ H, P1 H → ∃ cellB : Cell, H[x]? = some cellB ∧ cellB.vm.isStatics = false ∧ s.vm.findClass RX5 = some cellB.cls) (hk2 : ∀ H H1 : Heap, P2 H → (∀ q : Nat, q ≠ o → H1[q]? = H[q]?) → P2 H1) : Met l yL_holds wsL_holds (rmW mc ms) (gPc D ty true cstrs tE Aw [.ref x, .int p1, .int p2, .int p3, .ref o] (fun H => P1 H ∧ lrow D ty o f H)) (gQ Aw (gRet (some (.int 0)) (fun H => P2 H ∧ lrow D ty o (vp_updL f 0 v.toInt64) H))) mc ms Aw := by
  refine g_MetH (cc := cL_holds) (maxL := 6) (ret := some .int) (hh := [(0, 12, 15, 29), (0, 12, 19, 13)]) [some (.ref x), some (.int p1), some (.int p2), some (.int p3), some (.ref o), none] (by decide) rfl (Nat.le_of_ble_eq_true rfl) rfl ?_
  intro p e s m args below meth c S hlk hr htb hK hE hP0
  have S : CallFix p m c cL_holds 6 s args wsL_holds RL := S
  have ho9 : o < s.heap.size := hP0.2.lt
  have hE' : ∀ (H : Heap) (locs : List Loc), P1 H ∧ lrow D ty o f H → va_S Aw s.heap H locs → ∀ U : State, U.heap = H → s.WarmedH U.vm → gE true cstrs Ac tE U U.heap := fun H locs hP hS => gE_at hE hS hsub (fun q hq => hfr q ((hE rfl).2.2.2.1 q (Nat.le_trans hS.1 hq)) (Nat.ne_of_gt (Nat.lt_of_lt_of_le ho9 (Nat.le_trans hS.1 hq))))
  have hkp : ∀ H H1 : Heap, lrow D ty o f H → H.size ≤ H1.size → (∀ q : Nat, q < H.size → ¬ Ac q → H1[q]? = H[q]?) → lrow D ty o f H1 := fun H H1 h _ hq => va_at.kept h (hq o (va_at.lt h) hno)
  refine g_aload S dL_holds_0 rfl ?_
  refine g_iconst S (v := 0) dL_holds_2 (by decide) ?_
  refine g_aload_n S dL_holds_3 rfl ?_
  refine g_iload_n S dL_holds_4 rfl ?_
  refine g_iload_n S dL_holds_5 rfl ?_
  refine g_iload_n S dL_holds_6 rfl ?_
  refine g_callVX (b0 := x) (As := [.int p1, .int p2, .int p3]) (st := [.int 0, .ref o]) S hM (cwV 3 S.2.2.2.2 gL_holds_X5_holds rfl hrm.1 hrm.2.1 (by decide +kernel) ⟨Nat.succ_le_succ hrm.2.2.1, (by show 8 + (_ + 11) + rm.locals ≤ 460; have := hrm.2.2.2; omega)⟩) hK hsub hE' hkp (fun H h => h) (fun H h => hrc hK H h.1) rfl (Nat.le_of_ble_eq_true rfl) dL_holds_7 ⟨(by show 0 + mc ≤ mc; omega), (by show 0 + ms ≤ ms; omega)⟩ ?_
  intro r
  refine g_and (b := r = some (.int v)) (P' := fun H => P2 H ∧ lrow D ty o f H) (fun H h => ⟨h.1.1, h.1.2, h.2⟩) (fun hr9 => ?_)
  subst hr9
  refine g_i2l S dL_holds_10 ?_
  refine g_last S hK (a := o) (N' := 1) (f := f) (i := 0) (x := v.toInt64) (P' := fun H => P2 H ∧ lrow D ty o (vp_updL f 0 v.toInt64) H) (fun H h => h.2) (fun H h => ho) (fun H H1 h hat _ oq => ⟨hk2 H H1 h.1 oq, hat⟩) vin_01 dL_holds_11 ?_
  refine g_goto S (tgt := 23) dL_holds_12 (by decide) ?_
  refine g_iconst S (v := 0) dL_holds_23 (by decide) ?_
  exact g_iret S hlk hr (fun H h => ⟨rfl, h⟩) (by omega) (by omega) dL_holds_24
set_option maxHeartbeats 1500000 in
set_option maxRecDepth 100000 in
theorem x_holds_B {l : Launch} {D : va_G} {ty : Nat → ClassId} {tE x o : Nat} {f : Nat → Int64} {Ac Aw : Nat → Prop} (hsub : ∀ q, Ac q → Aw q) (ho : Aw o) (hno : ¬ Ac o) (hfr : ∀ q, Aw q → q ≠ o → Ac q) {P1 P2 : Heap → Prop} (p1 p2 p3 : Int32) {rm : Room} {mc ms : Nat} (hM : vx_Met l yX5_holds wsX5_holds rm (gPc D ty true cstrs tE Ac [.ref x, .int p1, .int p2, .int p3] P1) (gQ Ac (fun _ _ => False)) (gX Ac (fun E H => E = "java/lang/IndexOutOfBoundsException" ∧ P2 H)) mc ms Ac) (hrm : rm.cells = mc ∧ rm.slots = ms ∧ rm.frames ≤ 12 ∧ rm.locals ≤ 400) (hrc : ∀ {s : State}, gK D ty s → ∀ H, P1 H → ∃ cellB : Cell, H[x]? = some cellB ∧ cellB.vm.isStatics = false ∧ s.vm.findClass RX5 = some cellB.cls) : Met l yL_holds wsL_holds (rmW mc ms) (gPc D ty true cstrs tE Aw [.ref x, .int p1, .int p2, .int p3, .ref o] (fun H => P1 H ∧ lrow D ty o f H)) (gQ Aw (gRet (some (.int 1)) (fun H => P2 H ∧ lrow D ty o f H))) mc ms Aw := by
  refine g_MetH (cc := cL_holds) (maxL := 6) (ret := some .int) (hh := [(0, 12, 15, 29), (0, 12, 19, 13)]) [some (.ref x), some (.int p1), some (.int p2), some (.int p3), some (.ref o), none] (by decide) rfl (Nat.le_of_ble_eq_true rfl) rfl ?_
  intro p e s m args below meth c S hlk hr htb hK hE hP0
  have S : CallFix p m c cL_holds 6 s args wsL_holds RL := S
  have ho9 : o < s.heap.size := hP0.2.lt
  have hE' : ∀ (H : Heap) (locs : List Loc), P1 H ∧ lrow D ty o f H → va_S Aw s.heap H locs → ∀ U : State, U.heap = H → s.WarmedH U.vm → gE true cstrs Ac tE U U.heap := fun H locs hP hS => gE_at hE hS hsub (fun q hq => hfr q ((hE rfl).2.2.2.1 q (Nat.le_trans hS.1 hq)) (Nat.ne_of_gt (Nat.lt_of_lt_of_le ho9 (Nat.le_trans hS.1 hq))))
  have hkp : ∀ H H1 : Heap, lrow D ty o f H → H.size ≤ H1.size → (∀ q : Nat, q < H.size → ¬ Ac q → H1[q]? = H[q]?) → lrow D ty o f H1 := fun H H1 h _ hq => va_at.kept h (hq o (va_at.lt h) hno)
  refine g_aload S dL_holds_0 rfl ?_
  refine g_iconst S (v := 0) dL_holds_2 (by decide) ?_
  refine g_aload_n S dL_holds_3 rfl ?_
  refine g_iload_n S dL_holds_4 rfl ?_
  refine g_iload_n S dL_holds_5 rfl ?_
  refine g_iload_n S dL_holds_6 rfl ?_
  refine g_tcallVX (b0 := x) (As := [.int p1, .int p2, .int p3]) (st := [.int 0, .ref o]) S hM (cwV 3 S.2.2.2.2 gL_holds_X5_holds rfl hrm.1 hrm.2.1 (by decide +kernel) ⟨Nat.succ_le_succ hrm.2.2.1, (by show 8 + (_ + 11) + rm.locals ≤ 460; have := hrm.2.2.2; omega)⟩) hK hsub hE' hkp (fun H h => h) (fun H h => hrc hK H h.1) rfl (Nat.le_of_ble_eq_true rfl) dL_holds_7 ⟨(by show 0 + mc ≤ mc; omega), (by show 0 + ms ≤ ms; omega)⟩ ?_
  intro E
  by_cases hE9 : E = "java/lang/IndexOutOfBoundsException"
  · subst hE9
    refine g_catch (name := "java/lang/IndexOutOfBoundsException") S.2.2.2.1 [] ⟨0, 12, 15, 29⟩ [⟨0, 12, 19, 13⟩] htb (fun z hz => by cases hz) (by decide) (by decide) (S.2.2.2.2 _ (List.mem_of_getElem? (i := 1) rfl)) (exB_use (hE rfl).2.2.2.2.2.2.2.2.2 args _ (exB_in _ (by simp))) ?_
    intro q
    refine g_P (P' := fun H => P2 H ∧ lrow D ty o f H) (fun H h => ⟨h.1.2, h.2⟩) ?_
    refine g_astore S dL_holds_15 (by decide) rfl ?_
    refine g_iconst S (v := 1) dL_holds_17 (by decide) ?_
    exact g_iret S hlk hr (fun H h => ⟨rfl, h⟩) (by omega) (by omega) dL_holds_18
  · exact g_noX (fun H h => hE9 h.1.1)
set_option maxHeartbeats 1500000 in
set_option maxRecDepth 100000 in
theorem x_holds_A {l : Launch} {D : va_G} {ty : Nat → ClassId} {tE x o : Nat} {f : Nat → Int64} {Ac Aw : Nat → Prop} (hsub : ∀ q, Ac q → Aw q) (ho : Aw o) (hno : ¬ Ac o) (hfr : ∀ q, Aw q → q ≠ o → Ac q) {P1 P2 : Heap → Prop} (p1 p2 p3 : Int32) {rm : Room} {mc ms : Nat} (hM : vx_Met l yX5_holds wsX5_holds rm (gPc D ty true cstrs tE Ac [.ref x, .int p1, .int p2, .int p3] P1) (gQ Ac (fun _ _ => False)) (gX Ac (fun E H => E = "java/lang/IllegalArgumentException" ∧ P2 H)) mc ms Ac) (hrm : rm.cells = mc ∧ rm.slots = ms ∧ rm.frames ≤ 12 ∧ rm.locals ≤ 400) (hrc : ∀ {s : State}, gK D ty s → ∀ H, P1 H → ∃ cellB : Cell, H[x]? = some cellB ∧ cellB.vm.isStatics = false ∧ s.vm.findClass RX5 = some cellB.cls) : Met l yL_holds wsL_holds (rmW mc ms) (gPc D ty true cstrs tE Aw [.ref x, .int p1, .int p2, .int p3, .ref o] (fun H => P1 H ∧ lrow D ty o f H)) (gQ Aw (gRet (some (.int 2)) (fun H => P2 H ∧ lrow D ty o f H))) mc ms Aw := by
  refine g_MetH (cc := cL_holds) (maxL := 6) (ret := some .int) (hh := [(0, 12, 15, 29), (0, 12, 19, 13)]) [some (.ref x), some (.int p1), some (.int p2), some (.int p3), some (.ref o), none] (by decide) rfl (Nat.le_of_ble_eq_true rfl) rfl ?_
  intro p e s m args below meth c S hlk hr htb hK hE hP0
  have S : CallFix p m c cL_holds 6 s args wsL_holds RL := S
  have ho9 : o < s.heap.size := hP0.2.lt
  have hE' : ∀ (H : Heap) (locs : List Loc), P1 H ∧ lrow D ty o f H → va_S Aw s.heap H locs → ∀ U : State, U.heap = H → s.WarmedH U.vm → gE true cstrs Ac tE U U.heap := fun H locs hP hS => gE_at hE hS hsub (fun q hq => hfr q ((hE rfl).2.2.2.1 q (Nat.le_trans hS.1 hq)) (Nat.ne_of_gt (Nat.lt_of_lt_of_le ho9 (Nat.le_trans hS.1 hq))))
  have hkp : ∀ H H1 : Heap, lrow D ty o f H → H.size ≤ H1.size → (∀ q : Nat, q < H.size → ¬ Ac q → H1[q]? = H[q]?) → lrow D ty o f H1 := fun H H1 h _ hq => va_at.kept h (hq o (va_at.lt h) hno)
  refine g_aload S dL_holds_0 rfl ?_
  refine g_iconst S (v := 0) dL_holds_2 (by decide) ?_
  refine g_aload_n S dL_holds_3 rfl ?_
  refine g_iload_n S dL_holds_4 rfl ?_
  refine g_iload_n S dL_holds_5 rfl ?_
  refine g_iload_n S dL_holds_6 rfl ?_
  refine g_tcallVX (b0 := x) (As := [.int p1, .int p2, .int p3]) (st := [.int 0, .ref o]) S hM (cwV 3 S.2.2.2.2 gL_holds_X5_holds rfl hrm.1 hrm.2.1 (by decide +kernel) ⟨Nat.succ_le_succ hrm.2.2.1, (by show 8 + (_ + 11) + rm.locals ≤ 460; have := hrm.2.2.2; omega)⟩) hK hsub hE' hkp (fun H h => h) (fun H h => hrc hK H h.1) rfl (Nat.le_of_ble_eq_true rfl) dL_holds_7 ⟨(by show 0 + mc ≤ mc; omega), (by show 0 + ms ≤ ms; omega)⟩ ?_
  intro E
  by_cases hE9 : E = "java/lang/IllegalArgumentException"
  · subst hE9
    refine g_catch (name := "java/lang/IllegalArgumentException") S.2.2.2.1 [⟨0, 12, 15, 29⟩] ⟨0, 12, 19, 13⟩ [] htb (fun z hz => by
      simp only [List.mem_cons, List.not_mem_nil, or_false] at hz
      subst hz
      exact Or.inr ⟨by decide, "java/lang/IndexOutOfBoundsException", S.2.2.2.2 _ (List.mem_of_getElem? (i := 1) rfl), (hE rfl).2.2.2.2.2.2.2.2.1.2 ("java/lang/IllegalArgumentException", "java/lang/IndexOutOfBoundsException") (by simp [ncB])⟩) (by decide) (by decide) (S.2.2.2.2 _ (List.mem_of_getElem? (i := 2) rfl)) (exB_use (hE rfl).2.2.2.2.2.2.2.2.2 args _ (exB_in _ (by simp))) ?_
    intro q
    refine g_P (P' := fun H => P2 H ∧ lrow D ty o f H) (fun H h => ⟨h.1.2, h.2⟩) ?_
    refine g_astore S dL_holds_19 (by decide) rfl ?_
    refine g_iconst S (v := 2) dL_holds_21 (by decide) ?_
    exact g_iret S hlk hr (fun H h => ⟨rfl, h⟩) (by omega) (by omega) dL_holds_22
  · exact g_noX (fun H h => hE9 h.1.1)
set_option maxHeartbeats 1500000 in
set_option maxRecDepth 100000 in
theorem w_ownerOn {l : Launch} {D : va_G} {ty : Nat → ClassId} {tE x o : Nat} {f : Nat → Int64} {Ac Aw : Nat → Prop} (hsub : ∀ q, Ac q → Aw q) (ho : Aw o) (hno : ¬ Ac o) (hfr : ∀ q, Aw q → q ≠ o → Ac q) {P1 P2 : Heap → Prop} (p1 p2 : Int32) {rm : Room} {mc ms : Nat} {v : Int32} (hM : Met l yX5_ownerOn wsX5_ownerOn rm (gPc D ty true cstrs tE Ac [.ref x, .int p1, .int p2] P1) (gQ Ac (gRet (some (.int v)) P2)) mc ms Ac) (hrm : rm.cells = mc ∧ rm.slots = ms ∧ rm.frames ≤ 12 ∧ rm.locals ≤ 400) (hrc : ∀ {s : State}, gK D ty s → ∀ H, P1 H → ∃ cellB : Cell, H[x]? = some cellB ∧ cellB.vm.isStatics = false ∧ s.vm.findClass RX5 = some cellB.cls) (hk2 : ∀ H H1 : Heap, P2 H → (∀ q : Nat, q ≠ o → H1[q]? = H[q]?) → P2 H1) : Met l yL_ownerOn wsL_ownerOn (rmW mc ms) (gPc D ty true cstrs tE Aw [.ref x, .int p1, .int p2, .ref o] (fun H => P1 H ∧ lrow D ty o f H)) (gQ Aw (gRet (some (.int 0)) (fun H => P2 H ∧ lrow D ty o (vp_updL f 0 v.toInt64) H))) mc ms Aw := by
  refine g_MetH (cc := cL_ownerOn) (maxL := 5) (ret := some .int) (hh := [(0, 10, 13, 29), (0, 10, 17, 13)]) [some (.ref x), some (.int p1), some (.int p2), some (.ref o), none] (by decide) rfl (Nat.le_of_ble_eq_true rfl) rfl ?_
  intro p e s m args below meth c S hlk hr htb hK hE hP0
  have S : CallFix p m c cL_ownerOn 5 s args wsL_ownerOn RL := S
  have ho9 : o < s.heap.size := hP0.2.lt
  have hE' : ∀ (H : Heap) (locs : List Loc), P1 H ∧ lrow D ty o f H → va_S Aw s.heap H locs → ∀ U : State, U.heap = H → s.WarmedH U.vm → gE true cstrs Ac tE U U.heap := fun H locs hP hS => gE_at hE hS hsub (fun q hq => hfr q ((hE rfl).2.2.2.1 q (Nat.le_trans hS.1 hq)) (Nat.ne_of_gt (Nat.lt_of_lt_of_le ho9 (Nat.le_trans hS.1 hq))))
  have hkp : ∀ H H1 : Heap, lrow D ty o f H → H.size ≤ H1.size → (∀ q : Nat, q < H.size → ¬ Ac q → H1[q]? = H[q]?) → lrow D ty o f H1 := fun H H1 h _ hq => va_at.kept h (hq o (va_at.lt h) hno)
  refine g_aload_n S dL_ownerOn_0 rfl ?_
  refine g_iconst S (v := 0) dL_ownerOn_1 (by decide) ?_
  refine g_aload_n S dL_ownerOn_2 rfl ?_
  refine g_iload_n S dL_ownerOn_3 rfl ?_
  refine g_iload_n S dL_ownerOn_4 rfl ?_
  refine g_callVX (b0 := x) (As := [.int p1, .int p2]) (st := [.int 0, .ref o]) S hM (cwV 2 S.2.2.2.2 gL_ownerOn_X5_ownerOn rfl hrm.1 hrm.2.1 (by decide +kernel) ⟨Nat.succ_le_succ hrm.2.2.1, (by show 8 + (_ + 11) + rm.locals ≤ 460; have := hrm.2.2.2; omega)⟩) hK hsub hE' hkp (fun H h => h) (fun H h => hrc hK H h.1) rfl (Nat.le_of_ble_eq_true rfl) dL_ownerOn_5 ⟨(by show 0 + mc ≤ mc; omega), (by show 0 + ms ≤ ms; omega)⟩ ?_
  intro r
  refine g_and (b := r = some (.int v)) (P' := fun H => P2 H ∧ lrow D ty o f H) (fun H h => ⟨h.1.1, h.1.2, h.2⟩) (fun hr9 => ?_)
  subst hr9
  refine g_i2l S dL_ownerOn_8 ?_
  refine g_last S hK (a := o) (N' := 1) (f := f) (i := 0) (x := v.toInt64) (P' := fun H => P2 H ∧ lrow D ty o (vp_updL f 0 v.toInt64) H) (fun H h => h.2) (fun H h => ho) (fun H H1 h hat _ oq => ⟨hk2 H H1 h.1 oq, hat⟩) vin_01 dL_ownerOn_9 ?_
  refine g_goto S (tgt := 21) dL_ownerOn_10 (by decide) ?_
  refine g_iconst S (v := 0) dL_ownerOn_21 (by decide) ?_
  exact g_iret S hlk hr (fun H h => ⟨rfl, h⟩) (by omega) (by omega) dL_ownerOn_22
set_option maxHeartbeats 1500000 in
set_option maxRecDepth 100000 in
theorem x_ownerOn_B {l : Launch} {D : va_G} {ty : Nat → ClassId} {tE x o : Nat} {f : Nat → Int64} {Ac Aw : Nat → Prop} (hsub : ∀ q, Ac q → Aw q) (ho : Aw o) (hno : ¬ Ac o) (hfr : ∀ q, Aw q → q ≠ o → Ac q) {P1 P2 : Heap → Prop} (p1 p2 : Int32) {rm : Room} {mc ms : Nat} (hM : vx_Met l yX5_ownerOn wsX5_ownerOn rm (gPc D ty true cstrs tE Ac [.ref x, .int p1, .int p2] P1) (gQ Ac (fun _ _ => False)) (gX Ac (fun E H => E = "java/lang/IndexOutOfBoundsException" ∧ P2 H)) mc ms Ac) (hrm : rm.cells = mc ∧ rm.slots = ms ∧ rm.frames ≤ 12 ∧ rm.locals ≤ 400) (hrc : ∀ {s : State}, gK D ty s → ∀ H, P1 H → ∃ cellB : Cell, H[x]? = some cellB ∧ cellB.vm.isStatics = false ∧ s.vm.findClass RX5 = some cellB.cls) : Met l yL_ownerOn wsL_ownerOn (rmW mc ms) (gPc D ty true cstrs tE Aw [.ref x, .int p1, .int p2, .ref o] (fun H => P1 H ∧ lrow D ty o f H)) (gQ Aw (gRet (some (.int 1)) (fun H => P2 H ∧ lrow D ty o f H))) mc ms Aw := by
  refine g_MetH (cc := cL_ownerOn) (maxL := 5) (ret := some .int) (hh := [(0, 10, 13, 29), (0, 10, 17, 13)]) [some (.ref x), some (.int p1), some (.int p2), some (.ref o), none] (by decide) rfl (Nat.le_of_ble_eq_true rfl) rfl ?_
  intro p e s m args below meth c S hlk hr htb hK hE hP0
  have S : CallFix p m c cL_ownerOn 5 s args wsL_ownerOn RL := S
  have ho9 : o < s.heap.size := hP0.2.lt
  have hE' : ∀ (H : Heap) (locs : List Loc), P1 H ∧ lrow D ty o f H → va_S Aw s.heap H locs → ∀ U : State, U.heap = H → s.WarmedH U.vm → gE true cstrs Ac tE U U.heap := fun H locs hP hS => gE_at hE hS hsub (fun q hq => hfr q ((hE rfl).2.2.2.1 q (Nat.le_trans hS.1 hq)) (Nat.ne_of_gt (Nat.lt_of_lt_of_le ho9 (Nat.le_trans hS.1 hq))))
  have hkp : ∀ H H1 : Heap, lrow D ty o f H → H.size ≤ H1.size → (∀ q : Nat, q < H.size → ¬ Ac q → H1[q]? = H[q]?) → lrow D ty o f H1 := fun H H1 h _ hq => va_at.kept h (hq o (va_at.lt h) hno)
  refine g_aload_n S dL_ownerOn_0 rfl ?_
  refine g_iconst S (v := 0) dL_ownerOn_1 (by decide) ?_
  refine g_aload_n S dL_ownerOn_2 rfl ?_
  refine g_iload_n S dL_ownerOn_3 rfl ?_
  refine g_iload_n S dL_ownerOn_4 rfl ?_
  refine g_tcallVX (b0 := x) (As := [.int p1, .int p2]) (st := [.int 0, .ref o]) S hM (cwV 2 S.2.2.2.2 gL_ownerOn_X5_ownerOn rfl hrm.1 hrm.2.1 (by decide +kernel) ⟨Nat.succ_le_succ hrm.2.2.1, (by show 8 + (_ + 11) + rm.locals ≤ 460; have := hrm.2.2.2; omega)⟩) hK hsub hE' hkp (fun H h => h) (fun H h => hrc hK H h.1) rfl (Nat.le_of_ble_eq_true rfl) dL_ownerOn_5 ⟨(by show 0 + mc ≤ mc; omega), (by show 0 + ms ≤ ms; omega)⟩ ?_
  intro E
  by_cases hE9 : E = "java/lang/IndexOutOfBoundsException"
  · subst hE9
    refine g_catch (name := "java/lang/IndexOutOfBoundsException") S.2.2.2.1 [] ⟨0, 10, 13, 29⟩ [⟨0, 10, 17, 13⟩] htb (fun z hz => by cases hz) (by decide) (by decide) (S.2.2.2.2 _ (List.mem_of_getElem? (i := 1) rfl)) (exB_use (hE rfl).2.2.2.2.2.2.2.2.2 args _ (exB_in _ (by simp))) ?_
    intro q
    refine g_P (P' := fun H => P2 H ∧ lrow D ty o f H) (fun H h => ⟨h.1.2, h.2⟩) ?_
    refine g_astore S dL_ownerOn_13 (by decide) rfl ?_
    refine g_iconst S (v := 1) dL_ownerOn_15 (by decide) ?_
    exact g_iret S hlk hr (fun H h => ⟨rfl, h⟩) (by omega) (by omega) dL_ownerOn_16
  · exact g_noX (fun H h => hE9 h.1.1)
set_option maxHeartbeats 1500000 in
set_option maxRecDepth 100000 in
theorem x_ownerOn_A {l : Launch} {D : va_G} {ty : Nat → ClassId} {tE x o : Nat} {f : Nat → Int64} {Ac Aw : Nat → Prop} (hsub : ∀ q, Ac q → Aw q) (ho : Aw o) (hno : ¬ Ac o) (hfr : ∀ q, Aw q → q ≠ o → Ac q) {P1 P2 : Heap → Prop} (p1 p2 : Int32) {rm : Room} {mc ms : Nat} (hM : vx_Met l yX5_ownerOn wsX5_ownerOn rm (gPc D ty true cstrs tE Ac [.ref x, .int p1, .int p2] P1) (gQ Ac (fun _ _ => False)) (gX Ac (fun E H => E = "java/lang/IllegalArgumentException" ∧ P2 H)) mc ms Ac) (hrm : rm.cells = mc ∧ rm.slots = ms ∧ rm.frames ≤ 12 ∧ rm.locals ≤ 400) (hrc : ∀ {s : State}, gK D ty s → ∀ H, P1 H → ∃ cellB : Cell, H[x]? = some cellB ∧ cellB.vm.isStatics = false ∧ s.vm.findClass RX5 = some cellB.cls) : Met l yL_ownerOn wsL_ownerOn (rmW mc ms) (gPc D ty true cstrs tE Aw [.ref x, .int p1, .int p2, .ref o] (fun H => P1 H ∧ lrow D ty o f H)) (gQ Aw (gRet (some (.int 2)) (fun H => P2 H ∧ lrow D ty o f H))) mc ms Aw := by
  refine g_MetH (cc := cL_ownerOn) (maxL := 5) (ret := some .int) (hh := [(0, 10, 13, 29), (0, 10, 17, 13)]) [some (.ref x), some (.int p1), some (.int p2), some (.ref o), none] (by decide) rfl (Nat.le_of_ble_eq_true rfl) rfl ?_
  intro p e s m args below meth c S hlk hr htb hK hE hP0
  have S : CallFix p m c cL_ownerOn 5 s args wsL_ownerOn RL := S
  have ho9 : o < s.heap.size := hP0.2.lt
  have hE' : ∀ (H : Heap) (locs : List Loc), P1 H ∧ lrow D ty o f H → va_S Aw s.heap H locs → ∀ U : State, U.heap = H → s.WarmedH U.vm → gE true cstrs Ac tE U U.heap := fun H locs hP hS => gE_at hE hS hsub (fun q hq => hfr q ((hE rfl).2.2.2.1 q (Nat.le_trans hS.1 hq)) (Nat.ne_of_gt (Nat.lt_of_lt_of_le ho9 (Nat.le_trans hS.1 hq))))
  have hkp : ∀ H H1 : Heap, lrow D ty o f H → H.size ≤ H1.size → (∀ q : Nat, q < H.size → ¬ Ac q → H1[q]? = H[q]?) → lrow D ty o f H1 := fun H H1 h _ hq => va_at.kept h (hq o (va_at.lt h) hno)
  refine g_aload_n S dL_ownerOn_0 rfl ?_
  refine g_iconst S (v := 0) dL_ownerOn_1 (by decide) ?_
  refine g_aload_n S dL_ownerOn_2 rfl ?_
  refine g_iload_n S dL_ownerOn_3 rfl ?_
  refine g_iload_n S dL_ownerOn_4 rfl ?_
  refine g_tcallVX (b0 := x) (As := [.int p1, .int p2]) (st := [.int 0, .ref o]) S hM (cwV 2 S.2.2.2.2 gL_ownerOn_X5_ownerOn rfl hrm.1 hrm.2.1 (by decide +kernel) ⟨Nat.succ_le_succ hrm.2.2.1, (by show 8 + (_ + 11) + rm.locals ≤ 460; have := hrm.2.2.2; omega)⟩) hK hsub hE' hkp (fun H h => h) (fun H h => hrc hK H h.1) rfl (Nat.le_of_ble_eq_true rfl) dL_ownerOn_5 ⟨(by show 0 + mc ≤ mc; omega), (by show 0 + ms ≤ ms; omega)⟩ ?_
  intro E
  by_cases hE9 : E = "java/lang/IllegalArgumentException"
  · subst hE9
    refine g_catch (name := "java/lang/IllegalArgumentException") S.2.2.2.1 [⟨0, 10, 13, 29⟩] ⟨0, 10, 17, 13⟩ [] htb (fun z hz => by
      simp only [List.mem_cons, List.not_mem_nil, or_false] at hz
      subst hz
      exact Or.inr ⟨by decide, "java/lang/IndexOutOfBoundsException", S.2.2.2.2 _ (List.mem_of_getElem? (i := 1) rfl), (hE rfl).2.2.2.2.2.2.2.2.1.2 ("java/lang/IllegalArgumentException", "java/lang/IndexOutOfBoundsException") (by simp [ncB])⟩) (by decide) (by decide) (S.2.2.2.2 _ (List.mem_of_getElem? (i := 2) rfl)) (exB_use (hE rfl).2.2.2.2.2.2.2.2.2 args _ (exB_in _ (by simp))) ?_
    intro q
    refine g_P (P' := fun H => P2 H ∧ lrow D ty o f H) (fun H h => ⟨h.1.2, h.2⟩) ?_
    refine g_astore S dL_ownerOn_17 (by decide) rfl ?_
    refine g_iconst S (v := 2) dL_ownerOn_19 (by decide) ?_
    exact g_iret S hlk hr (fun H h => ⟨rfl, h⟩) (by omega) (by omega) dL_ownerOn_20
  · exact g_noX (fun H h => hE9 h.1.1)
