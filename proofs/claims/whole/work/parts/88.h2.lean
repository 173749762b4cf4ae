/-! calls in a smaller world -/
theorem gE.sub {strs : List (Nat × String)} {A A' : Nat → Prop} {tE : Nat} {U : State} {H : Heap} (h : gE true strs A tE U H) (hs : ∀ q, A' q → A q) (hf : ∀ q, H.size ≤ q → A' q) : gE true strs A' tE U H := by
  intro hb
  obtain ⟨h1, h2, h3, h4, h5, h6, h7, h8, h9, h10⟩ := h hb
  exact ⟨h1.narrow hs, h2.narrow hs, h3, hf, h5.narrow hs, h6.narrow hs, h7, h8, h9, h10⟩
section CX
variable {p : Program} {l : Launch} {e : Env} {R : Room} {s : State} {m : MethodId} {args : Array Value} {below : List Frame} {meth : Method} {c : Code} {A A' : Nat → Prop} {Q : State → Prop} {nL : Nat} {P : Heap → Prop} {k n : Nat} {pc : Nat} {lv : List (Option Value)} {st : List Value}
variable {cc : ByteArray} {Ts : List Cond} {own : String}
variable {D : va_G} {ty : Nat → ClassId} {b : Bool} {strs : List (Nat × String)} {tE : Nat} {y : MethodName} {bytes : ByteArray} {maxL mc ms na index : Nat} {ret : Option FieldType} {ws : List Cond} {rm : Room} {P1 Pk : Heap → Prop} {Post : Option Value → Heap → Prop} {PX : String → Heap → Prop} {C : String} {b0 : Nat} {As : List Value}
theorem g_callX {st0 : List Value} {a : Array Value} (hsub : ∀ q, A' q → A q) (hkeep : ∀ H H1 : Heap, Pk H → H.size ≤ H1.size → (∀ q : Nat, q < H.size → ¬ A' q → H1[q]? = H[q]?) → Pk H1) (hPk : ∀ H, P H → Pk H)
    (hr : ∀ (H : Heap) (locs : List Loc) (ls : Array Slot), P H → va_S A s.heap H locs → gl_has ls nL lv → va_Run p l e R s m args below meth c H locs k n mc ms (F0 m pc ls st0) st (gQ A' Post a) A')
    (kk : ∀ r : Option Value, gW p l e R s m args below meth c A Q nL (fun H => Post r H ∧ Pk H) (k + mc) (n + ms) (pc + 3) lv (r.toList ++ st)) : gW p l e R s m args below meth c A Q nL P k n pc lv st0 := by
  intro H locs ls hP hS hl T hT X
  obtain ⟨v, st₀, t, T', L, h0, X', hL, e1, e2, ⟨⟨r, hv, hb⟩, hz, hk⟩, st9⟩ := hr H locs ls hP hS hl T hT X
  cases hv
  rw [h0] at hz hk
  obtain ⟨t2, a1, b1⟩ := kk v T'.heap (locs ++ L) ls ⟨by rw [e1]; exact hb, hkeep H _ (hPk H hP) (by rw [e1]; exact hz) (fun q h1 h2 => by rw [e1]; exact hk q h1 h2)⟩ ⟨Nat.le_trans hS.1 (by rw [e1]; exact hz), fun q h1 h2 => by rw [e1, hk q (Nat.lt_of_lt_of_le h1 hS.1) (fun z => h2 (hsub q z))]; exact hS.2.1 q h1 h2, fun q hq => by
      rcases List.mem_append.mp hq with h | h
      · exact hS.2.2 q h
      · exact hsub _ (hL q h)⟩ hl T' rfl X'
  exact ⟨t2, st9 t2 a1, b1⟩
theorem gPc_atX {av : List Value} {H : Heap} (hK : gK D ty s) (hP : P1 H) (hE' : ∀ U : State, U.heap = H → s.WarmedH U.vm → gE b strs A' tE U U.heap) : ∀ U : State, U.heap = H → s.WarmedH U.vm → gPc D ty b strs tE A' av P1 av.toArray U := by
  intro U hU hW
  exact ⟨rfl, by rw [hU]; exact hP, gK.moved hW hK, hE' U hU hW⟩
theorem gE_at {H : Heap} {locs : List Loc} (hE : gE true strs A tE s s.heap) (hS : va_S A s.heap H locs) (hsub : ∀ q, A' q → A q) (hf : ∀ q, H.size ≤ q → A' q) : ∀ U : State, U.heap = H → s.WarmedH U.vm → gE true strs A' tE U U.heap := by
  intro U hU hW
  rw [hU]
  exact (hE.moved hW hS.1 hS.2.1).sub hsub hf
theorem gE_no {H : Heap} {tE : Nat} : ∀ U : State, U.heap = H → s.WarmedH U.vm → gE false [] A' tE U U.heap := fun _ _ _ h => by cases h
theorem g_callVX (S : CallFix p m c cc nL s args Ts own) (hM : Met l y ws rm (gPc D ty b strs tE A' (.ref b0 :: As) P1) (gQ A' Post) mc ms A') (cw : CallW R s args own C index y bytes maxL ret ws rm mc ms na) (hK : gK D ty s) (hsub : ∀ q, A' q → A q)
    (hE' : ∀ (H : Heap) (locs : List Loc), P H → va_S A s.heap H locs → ∀ U : State, U.heap = H → s.WarmedH U.vm → gE b strs A' tE U U.heap) (hkeep : ∀ H H1 : Heap, Pk H → H.size ≤ H1.size → (∀ q : Nat, q < H.size → ¬ A' q → H1[q]? = H[q]?) → Pk H1)
    (hP1 : ∀ H, P H → P1 H ∧ Pk H) (hrecv : ∀ H, P H → ∃ cellB : Cell, H[b0]? = some cellB ∧ cellB.vm.isStatics = false ∧ s.vm.findClass C = some cellB.cls) (hn : As.length = na) (hcat : (st.map fun v => v.category).sum ≤ 8) (hdg : decode cc pc = .ok (.invokevirtual index, 3)) (hf : k + mc ≤ R.cells ∧ n + ms ≤ R.slots)
    (kk : ∀ r : Option Value, gW p l e R s m args below meth c A Q nL (fun H => Post r H ∧ Pk H) (k + mc) (n + ms) (pc + 3) lv (r.toList ++ st)) : gW p l e R s m args below meth c A Q nL P k n pc lv (As.reverse ++ .ref b0 :: st) :=
  g_callX hsub hkeep (fun H h => (hP1 H h).2) (fun H locs ls hP hS hl => va_runV S hM cw ⟨gPc_blind, hrecv H hP, gPc_atX hK (hP1 H hP).1 (hE' H locs hP hS)⟩ rfl hn (gl_size hl) rfl (lv_room hcat) hdg hf) kk
theorem g_callIX (S : CallFix p m c cc nL s args Ts own) (hM : Met l y ws rm (gPc D ty b strs tE A' (.ref b0 :: As) P1) (gQ A' Post) mc ms A') (cw : CallB R s args own index y bytes maxL none ws rm mc ms na ∧ y.name = "<init>" ∧ (Cond.instanceMethod y).before args s = true) (hK : gK D ty s) (hsub : ∀ q, A' q → A q)
    (hE' : ∀ (H : Heap) (locs : List Loc), P H → va_S A s.heap H locs → ∀ U : State, U.heap = H → s.WarmedH U.vm → gE b strs A' tE U U.heap) (hkeep : ∀ H H1 : Heap, Pk H → H.size ≤ H1.size → (∀ q : Nat, q < H.size → ¬ A' q → H1[q]? = H[q]?) → Pk H1)
    (hP1 : ∀ H, P H → P1 H ∧ Pk H) (hn : As.length = na) (hcat : (st.map fun v => v.category).sum ≤ 8) (hdg : decode cc pc = .ok (.invokespecial index, 3)) (hf : k + mc ≤ R.cells ∧ n + ms ≤ R.slots)
    (kk : ∀ r : Option Value, gW p l e R s m args below meth c A Q nL (fun H => Post r H ∧ Pk H) (k + mc) (n + ms) (pc + 3) lv (r.toList ++ st)) : gW p l e R s m args below meth c A Q nL P k n pc lv (As.reverse ++ .ref b0 :: st) :=
  g_callX hsub hkeep (fun H h => (hP1 H h).2) (fun H locs ls hP hS hl => va_runI S hM cw ⟨gPc_blind, gPc_atX hK (hP1 H hP).1 (hE' H locs hP hS)⟩ rfl hn (gl_size hl) rfl (lv_room hcat) hdg hf) kk
/-- a static method that has handlers -/
theorem g_callSWX {hh : List (Nat × Nat × Nat × Nat)} (S : CallFix p m c cc nL s args Ts own) (hM : Met l y ws rm (gPc D ty b strs tE A' As P1) (gQ A' Post) mc ms A') (cw : vx_CSW R s args own index y bytes maxL ret hh ws rm mc ms na) (hK : gK D ty s) (hsub : ∀ q, A' q → A q)
    (hE' : ∀ (H : Heap) (locs : List Loc), P H → va_S A s.heap H locs → ∀ U : State, U.heap = H → s.WarmedH U.vm → gE b strs A' tE U U.heap) (hkeep : ∀ H H1 : Heap, Pk H → H.size ≤ H1.size → (∀ q : Nat, q < H.size → ¬ A' q → H1[q]? = H[q]?) → Pk H1)
    (hP1 : ∀ H, P H → P1 H ∧ Pk H) (hn : As.length = na) (hcat : (st.map fun v => v.category).sum ≤ 8) (hdg : decode cc pc = .ok (.invokestatic index, 3)) (hf : k + mc ≤ R.cells ∧ n + ms ≤ R.slots)
    (kk : ∀ r : Option Value, gW p l e R s m args below meth c A Q nL (fun H => Post r H ∧ Pk H) (k + mc) (n + ms) (pc + 3) lv (r.toList ++ st)) : gW p l e R s m args below meth c A Q nL P k n pc lv (As.reverse ++ st) :=
  g_callX hsub hkeep (fun H h => (hP1 H h).2) (fun H locs ls hP hS hl => vx_runSW S hM cw ⟨gPc_blind, gPc_atX hK (hP1 H hP).1 (hE' H locs hP hS)⟩ rfl hn (gl_size hl) rfl (lv_room hcat) hdg hf) kk
theorem g_tcallX {st0 : List Value} {a : Array Value} (hsub : ∀ q, A' q → A q) (hkeep : ∀ H H1 : Heap, Pk H → H.size ≤ H1.size → (∀ q : Nat, q < H.size → ¬ A' q → H1[q]? = H[q]?) → Pk H1) (hPk : ∀ H, P H → Pk H)
    (hr : ∀ (H : Heap) (locs : List Loc) (ls : Array Slot), P H → va_S A s.heap H locs → gl_has ls nL lv → vx_Run p l e R s m args below meth c H locs k n mc ms (F0 m pc ls st0) st (gQ A' (fun _ _ => False) a) (gX A' PX) A')
    (kx : ∀ E : String, gXW p l e R s m args below meth c A Q nL E (fun H => PX E H ∧ Pk H) (k + mc) (n + ms) pc lv st) : gW p l e R s m args below meth c A Q nL P k n pc lv st0 := by
  intro H locs ls hP hS hl T hT X
  rcases hr H locs ls hP hS hl T hT X with ⟨v, st₀, t, T', L, h0, X', hL, e1, e2, ⟨⟨r, hv, hb⟩, hF⟩, st9⟩ | ⟨q, st₀, t, T', L, E, ce, h0, X', hL, e1, e2, ⟨hb, hz, hk⟩, hce, hcv, hcl, st9⟩
  · exact hb.elim
  · rw [h0] at hz hk
    obtain ⟨t2, a1, b1⟩ := kx E T'.heap (locs ++ L) ls q ce ⟨by rw [e1]; exact hb, hkeep H _ (hPk H hP) (by rw [e1]; exact hz) (fun q h1 h2 => by rw [e1]; exact hk q h1 h2)⟩ ⟨Nat.le_trans hS.1 (by rw [e1]; exact hz), fun q h1 h2 => by rw [e1, hk q (Nat.lt_of_lt_of_le h1 hS.1) (fun z => h2 (hsub q z))]; exact hS.2.1 q h1 h2, fun q hq => by
      rcases List.mem_append.mp hq with h | h
      · exact hS.2.2 q h
      · exact hsub _ (hL q h)⟩ hl (by rw [e1]; exact hce) hcv hcl T' rfl X'
    exact ⟨t2, st9.trans a1, b1⟩
theorem g_tcallVX (S : CallFix p m c cc nL s args Ts own) (hM : vx_Met l y ws rm (gPc D ty b strs tE A' (.ref b0 :: As) P1) (gQ A' (fun _ _ => False)) (gX A' PX) mc ms A') (cw : CallW R s args own C index y bytes maxL ret ws rm mc ms na) (hK : gK D ty s) (hsub : ∀ q, A' q → A q)
    (hE' : ∀ (H : Heap) (locs : List Loc), P H → va_S A s.heap H locs → ∀ U : State, U.heap = H → s.WarmedH U.vm → gE b strs A' tE U U.heap) (hkeep : ∀ H H1 : Heap, Pk H → H.size ≤ H1.size → (∀ q : Nat, q < H.size → ¬ A' q → H1[q]? = H[q]?) → Pk H1)
    (hP1 : ∀ H, P H → P1 H ∧ Pk H) (hrecv : ∀ H, P H → ∃ cellB : Cell, H[b0]? = some cellB ∧ cellB.vm.isStatics = false ∧ s.vm.findClass C = some cellB.cls) (hn : As.length = na) (hcat : (st.map fun v => v.category).sum ≤ 8) (hdg : decode cc pc = .ok (.invokevirtual index, 3)) (hf : k + mc ≤ R.cells ∧ n + ms ≤ R.slots)
    (kx : ∀ E : String, gXW p l e R s m args below meth c A Q nL E (fun H => PX E H ∧ Pk H) (k + mc) (n + ms) pc lv st) : gW p l e R s m args below meth c A Q nL P k n pc lv (As.reverse ++ .ref b0 :: st) :=
  g_tcallX hsub hkeep (fun H h => (hP1 H h).2) (fun H locs ls hP hS hl => vx_runV S hM cw ⟨gPc_blind, hrecv H hP, gPc_atX hK (hP1 H hP).1 (hE' H locs hP hS)⟩ rfl hn (gl_size hl) rfl (lv_room hcat) hdg hf) kx
/-- caught here -/
theorem g_catch {E name : String} {rest : List Value} (hown : s.vm.findClass own = some m.cls) (pre : List ExceptionTableEntry) (x : ExceptionTableEntry) (suf : List ExceptionTableEntry) (hsplit : c.exceptionTable.toList = pre ++ x :: suf)
    (hpass : ∀ z ∈ pre, covers z pc = false ∨ (z.catchType ≠ 0 ∧ ∃ nm : String, (Cond.classLink own z.catchType nm).before args s = true ∧ va_Nc E nm s)) (hx : covers x pc = true) (h0 : x.catchType ≠ 0)
    (hlink : (Cond.classLink own x.catchType name).before args s = true) (hcast : (Cond.castable E name).before args s = true)
    (kk : ∀ q : Nat, gW p l e R s m args below meth c A Q nL P k n x.handlerPc lv [.ref q]) : gXW p l e R s m args below meth c A Q nL E P k n pc lv rest :=
  fun H locs ls q ce hP hS hl hce hcv hcl => vx_catch hown pre x suf hsplit hpass hx h0 hlink hcast hce hcv hcl (kk q H locs ls hP hS hl)
/-- a thrown exception that can't be -/
theorem g_noX {E : String} {P : Heap → Prop} {rest : List Value} (h : ∀ H, P H → False) : gXW p l e R s m args below meth c A Q nL E P k n pc lv rest := fun H _ _ _ _ hP _ _ _ _ _ => (h H hP).elim
end CX
/-- the contract of a method that has handlers -/
theorem g_MetH {l : Launch} {D : va_G} {ty : Nat → ClassId} {b : Bool} {strs : List (Nat × String)} {tE : Nat} {A : Nat → Prop} {av : List Value} {P : Heap → Prop} {Post : Option Value → Heap → Prop} {mc ms : Nat} {y : MethodName} {ws ws' : List Cond} {rm : Room} {cc : ByteArray} {maxL : Nat} {ret : Option FieldType} {hh : List (Nat × Nat × Nat × Nat)} (lv : List (Option Value))
    (hy : plainName y.cls = true) (hw : ws = Cond.codeWith y cc maxL ret hh :: ws') (hle : (gl_ent av).length ≤ maxL) (hlv : gl_ent av ++ List.replicate (maxL - (gl_ent av).length) none = lv)
    (body : ∀ (p : Program) (e : Env) (s : State) (m : MethodId) (args : Array Value) (below : List Frame) (meth : Method) (c : Code), CallFix p m c cc maxL s args ws y.cls → meth.locks = false → meth.sig.returnType = ret → c.exceptionTable.toList = tableOf hh → gK D ty s → gE b strs A tE s s.heap → P s.heap →
      gW p l e (headSpec ws rm).room s m args below meth c A (gR below A args s mc ms Post) maxL P 0 0 0 lv []) : Met l y ws rm (gPc D ty b strs tE A av P) (gQ A Post) mc ms A := by
  refine MetFree.of_bodyS (code := cc) (maxLocals := maxL) (ret := ret) hy ?_ ?_
  · intro args s m h hn
    obtain ⟨m9, meth, c, hn9, h1, h2, h3, h4, -, h5, h6, -⟩ := Cond.codeWith_spec (atoms_spec (ws := ws) h _ (by rw [hw]; exact List.mem_cons_self))
    cases hn.symm.trans hn9
    exact ⟨meth, c, h1, h2, h3, h4, h5, h6⟩
  · intro p e s m args below meth c s₁ B hml hv _
    have hh0 : s₁.heap = s.heap := by rw [B.state]; rfl
    have ht := vx_table (p := p) (x := y) B (atoms_spec (ws := ws) B.pre _ (by rw [hw]; exact List.mem_cons_self))
    obtain ⟨rfl, hP, hK, hE⟩ := hv
    have hb := body p e s m _ below meth c ⟨B.exec, B.bytes, hml, findClass_of_methodNamed B.named, atoms_spec (ws := ws) B.pre⟩ B.notSynchronized B.returns ht hK hE hP s.heap [] _ hP va_S.rf (gl_entry hle hlv)
    rw [← lg_entry_eq] at hb
    obtain ⟨t, a1, o, b1, b2, b3⟩ := hb s₁ hh0 (Stand.of_body B)
    exact ⟨t, o, a1, b1, b2, b3⟩
