/-! rows of references: made, copied, stored into -/
section CLA
variable {p : Program} {l : Launch} {e : Env} {R : Room} {s : State} {m : MethodId} {args : Array Value} {below : List Frame} {meth : Method} {c : Code} {A : Nat → Prop} {Q : State → Prop} {nL : Nat} {k n : Nat} {pc : Nat} {lv : List (Option Value)} {st : List Value} {P : Heap → Prop}
variable {cc : ByteArray} {Ts : List Cond} {own : String} {D : va_G} {ty : Nat → ClassId} {tE : Nat} {el : Nat → Nat → Nat} {a : CS} {strs : List (Nat × String)}
theorem g_ishr (S : CallFix p m c cc nL s args Ts own) {x y : Int32} (hdg : decode cc pc = .ok (.ishr, 1)) (kk : gW p l e R s m args below meth c A Q nL P k n (pc + 1) lv (.int (x >>> (y &&& 31)) :: st)) : gW p l e R s m args below meth c A Q nL P k n pc lv (.int y :: .int x :: st) := fun H locs ls hP hS hl => lv_ishr S.1 S.2.1 hdg (kk H locs ls hP hS hl)
theorem g_mmax (S : CallFix p m c cc nL s args Ts own) {index : Nat} (hlink : (Cond.methodLink own index Lib.Math.max.name).before args s = true) (hstat : (Cond.static Lib.Math.max.name).before args s = true) (hini : (Cond.initialized "java/lang/Math").before args s = true) (hcode : (Cond.code Lib.Math.max.name Lib.Math.max.code 2 (some .int)).before args s = true)
    (hR : 1 ≤ R.frames ∧ 21 ≤ R.locals) (hst : (st.map fun v => v.category).sum ≤ 8) (hc : k ≤ R.cells) (hs : n ≤ R.slots) {x y : Int32} (hdg : decode cc pc = .ok (.invokestatic index, 3))
    (kk : gW p l e R s m args below meth c A Q nL P k n (pc + 3) lv (.int (if x < y then y else x) :: st)) : gW p l e R s m args below meth c A Q nL P k n pc lv (.int y :: .int x :: st) := fun H locs ls hP hS hl =>
  va_mmax S.1 S.2.1 (by rw [S.2.2.1]; exact (gl_size hl).symm) S.2.2.2.1 hlink hstat hini hcode hR.1 (by omega) hc hs hdg (kk H locs ls hP hS hl)
theorem g_ldcM (S : CallFix p m c cc nL s args Ts own) {C : String} {index mi : Nat} (hlink : (Cond.classLink own index C).before args s = true) (hM : va_Mi C mi s) (hdg : decode cc pc = .ok (.ldc index, 2)) (kk : gW p l e R s m args below meth c A Q nL P k n (pc + 2) lv (.ref mi :: st)) : gW p l e R s m args below meth c A Q nL P k n pc lv st := fun H locs ls hP hS hl => va_ldcM S.1 S.2.1 S.2.2.2.1 hlink hM hdg (kk H locs ls hP hS hl)
theorem gK_O (hK : gK D ty s) : s.vm.findClass "[Ljava/lang/Object;" = some (ty 3) := va_nmO (hK.1.2 3 _ rfl).2 (by decide)
theorem g_getC (S : CallFix p m c cc nL s args Ts own) {index mi a0 : Nat} (hlink : (Cond.methodLink own index ⟨"java/lang/Object", "getClass", "()Ljava/lang/Class;"⟩).before args s = true) (hdecl : va_Dc s)
    (hsel : (Cond.selects "[Ljava/lang/Object;" ⟨"java/lang/Object", "getClass", "()Ljava/lang/Class;"⟩ ⟨"java/lang/Object", "getClass", "()Ljava/lang/Class;"⟩).before args s = true) (hinst : (Cond.instanceMethod ⟨"java/lang/Object", "getClass", "()Ljava/lang/Class;"⟩).before args s = true) (hnat : (Cond.native ⟨"java/lang/Object", "getClass", "()Ljava/lang/Class;"⟩).before args s = true) (hM : va_Mi "[Ljava/lang/Object;" mi s)
    (hr : ∀ H, P H → ∃ cell : Cell, H[a0]? = some cell ∧ cell.vm.isStatics = false ∧ s.vm.findClass "[Ljava/lang/Object;" = some cell.cls) (hR : 1 ≤ R.frames ∧ 22 ≤ R.locals) (hst : (st.map fun v => v.category).sum ≤ 8) (hdg : decode cc pc = .ok (.invokevirtual index, 3))
    (kk : gW p l e R s m args below meth c A Q nL P k n (pc + 3) lv (.ref mi :: st)) : gW p l e R s m args below meth c A Q nL P k n pc lv (.ref a0 :: st) := fun H locs ls hP hS hl =>
  va_getC S.1 S.2.1 (by rw [S.2.2.1]; exact (gl_size hl).symm) S.2.2.2.1 hlink hdecl.use hsel hinst hnat hM (hr H hP) hR.1 (by omega) hdg (kk H locs ls hP hS hl)
theorem g_getsE (S : CallFix p m c cc nL s args Ts own) (hE : gE true strs A tE s s.heap) {index : Nat} (hlink : (Cond.fieldLink own index "java/util/ArrayList" "DEFAULTCAPACITY_EMPTY_ELEMENTDATA" "[Ljava/lang/Object;").before args s = true) (hdg : decode cc pc = .ok (.getstatic index, 3)) (kk : gW p l e R s m args below meth c A Q nL P k n (pc + 3) lv (.ref tE :: st)) : gW p l e R s m args below meth c A Q nL P k n pc lv st := fun H locs ls hP hS hl =>
  va_gets S.1 S.2.1 (hE rfl).2.2.2.2.1 hS S.2.2.2.1 hlink (fun _ h => h) hdg (kk H locs ls hP hS hl)
theorem g_lenE (S : CallFix p m c cc nL s args Ts own) (hE : gE true strs A tE s s.heap) (hdg : decode cc pc = .ok (.arraylength, 1)) (kk : gW p l e R s m args below meth c A Q nL P k n (pc + 1) lv (.int 0 :: st)) : gW p l e R s m args below meth c A Q nL P k n pc lv (.ref tE :: st) := fun H locs ls hP hS hl =>
  va_tlen S.1 S.2.1 (hE rfl).2.2.2.2.2.1 hS rfl hdg (kk H locs ls hP hS hl)
theorem g_anew (S : CallFix p m c cc nL s args Ts own) (hK : gK D ty s) {index N' : Nat} {z : Int32} {P' : Nat → Heap → Prop} (hcl : (Cond.classLink own index "java/lang/Object").before args s = true) (hover : va_AO "java/lang/Object" s) (hz : ¬ z < 0) (hN : z.toNatClampNeg = N') (hbytes : N' * 4 ≤ 536870912) (hA : ∀ q, s.heap.size ≤ q → A q) (hcells : k + 1 ≤ R.cells) (hslots : n + N' ≤ R.slots)
    (hput : ∀ H H1, P H → va_at D vwCl (H.size, .inl (ty 3, N', .inr (.inr (.inr (.inr (fun _ => none)))))) H1 → H1.size = H.size + 1 → (∀ q : Nat, q < H.size → H1[q]? = H[q]?) → A H.size → P' H.size H1) (hdg : decode cc pc = .ok (.anewarray index, 3))
    (kk : ∀ q : Nat, gW p l e R s m args below meth c A Q nL (P' q) (k + 1) (n + N') (pc + 3) lv (.ref q :: st)) : gW p l e R s m args below meth c A Q nL P k n pc lv (.int z :: st) := by
  intro H locs ls hP hS hL
  subst hN
  refine W.anew S.1 S.2.1 S.2.2.2.1 hcl (va_AO.use hover) rfl hdg rfl hz hbytes hcells hslots fun cA kA comp f1 f2 f3 f4 => ?_
  have hcA : cA = ty 3 := Option.some.inj (f1.symm.trans (gK_O hK))
  subst hcA
  generalize hH1 : H.push ({ cls := ty 3, slots := Array.replicate z.toNatClampNeg .null, vm := .none } : Cell) = H1
  have z1 : H1.size = H.size + 1 := by rw [← hH1, Array.size_push]
  have e1 : H1[H.size]? = some (arrV (ty 3) z.toNatClampNeg (fun _ => .null)) := by rw [← hH1, Array.getElem?_push_size, ← arrV_new]
  have o1 : ∀ q : Nat, q < H.size → H1[q]? = H[q]? := fun q hq => by rw [← hH1, Array.getElem?_push, if_neg (Nat.ne_of_lt hq)]
  refine kk H.size H1 locs ls (hput H H1 hP ?_ z1 o1 (hA _ hS.1)) ⟨Nat.le_trans hS.1 (by omega), fun x h1 h2 => (o1 x (Nat.lt_of_lt_of_le h1 hS.1)).trans (hS.2.1 x h1 h2), hS.2.2⟩ hL
  show H1[H.size]? = some (vp_cell _ _)
  rw [vp_cell_q]
  exact e1
theorem g_aast (S : CallFix p m c cc nL s args Ts own) (hK : gK D ty s) {a0 v N' : Nat} {f : Nat → Option Nat} {i : Int32} {P' : Heap → Prop} (hat : ∀ H, P H → va_at D vwCl (a0, .inl (ty 3, N', .inr (.inr (.inr (.inr f))))) H) (hA : ∀ H, P H → A a0) (hr : ∀ H, P H → va_Any "java/lang/Object" s H v)
    (hput : ∀ H H1, P H → va_at D vwCl (a0, .inl (ty 3, N', .inr (.inr (.inr (.inr (va_up f i.toNatClampNeg (some v))))))) H1 → H1.size = H.size → (∀ q : Nat, q ≠ a0 → H1[q]? = H[q]?) → P' H1) (hin : vp_in i N') (hdg : decode cc pc = .ok (.aastore, 1))
    (kk : gW p l e R s m args below meth c A Q nL P' k n (pc + 1) lv st) : gW p l e R s m args below meth c A Q nL P k n pc lv (.ref v :: .int i :: .ref a0 :: st) := by
  intro H locs ls hP hS hl
  have hlt : i.toNatClampNeg < N' := Nat.not_le.mp fun q => hin (Or.inr q)
  have h0 : ¬ i < 0 := fun q => hin (Or.inl q)
  obtain ⟨cellV, g1, g3, ⟨kC, hkC⟩, hasg⟩ := hr H hP
  obtain ⟨kA, comp, k1, k2, k3, -⟩ := (hK.1.2 3 _ rfl).2
  obtain ⟨kE, hkE, -⟩ := Vm.findClass_spec k3
  refine W.aast S.1 S.2.1 (hat H hP) (fun q h => by cases h) (fun h => by cases h) k1 k2 rfl hkE ⟨h0, by show _ < (arrV _ _ _).slots.size; rw [arrV_size]; exact hlt⟩ g1 (fun q h => by rw [h] at g3; cases g3) hkC (hasg _ k3) rfl rfl hdg fun H1 e z oq => ?_
  refine kk H1 _ ls (hput H H1 hP ?_ z oq) (hS.put z oq (hA H hP)) hl
  show H1[a0]? = some (vp_cell _ _)
  rw [e, vp_cell_q, vp_cell_q, arrV_store]
  congr 2
  funext q
  by_cases hq : q = i.toNatClampNeg
  · subst hq
    simp [updV, va_up, va_rf]
  · simp [updV, va_up, hq]
theorem g_acopy (S : CallFix p m c cc nL s args Ts own) (hK : gK D ty s) {index : Nat} (hlink : (Cond.methodLink own index arraycopyName).before args s = true) (hnat : (Cond.native arraycopyName).before args s = true) (hstat : (Cond.static arraycopyName).before args s = true) (hini : (Cond.initialized "java/lang/System").before args s = true)
    {a0 a1 n0 n1 : Nat} {f g : Nat → Option Nat} {z : Int32} {P' : Heap → Prop} (hat0 : ∀ H, P H → va_at D vwCl (a0, .inl (ty 3, n0, .inr (.inr (.inr (.inr f))))) H) (hat1 : ∀ H, P H → va_at D vwCl (a1, .inl (ty 3, n1, .inr (.inr (.inr (.inr g))))) H) (hA : ∀ H, P H → A a1)
    (h3 : ¬ z < 0) (h4 : z.toNatClampNeg ≤ n0) (h5 : z.toNatClampNeg ≤ n1) (hel : ∀ H, P H → ∀ i : Nat, i < z.toNatClampNeg → ∀ y : Nat, f i = some y → va_Any "java/lang/Object" s H y)
    (hR : 1 ≤ R.frames ∧ 40 ≤ R.locals) (hst : (st.map fun v => v.category).sum ≤ 8) (hdg : decode cc pc = .ok (.invokestatic index, 3))
    (hput : ∀ H H1, P H → va_at D vwCl (a1, .inl (ty 3, n1, .inr (.inr (.inr (.inr (va_cpy f g 0 0 z.toNatClampNeg)))))) H1 → H1.size = H.size → (∀ q : Nat, q ≠ a1 → H1[q]? = H[q]?) → P' H1)
    (kk : gW p l e R s m args below meth c A Q nL P' k n (pc + 3) lv st) : gW p l e R s m args below meth c A Q nL P k n pc lv (.int z :: .int 0 :: .ref a1 :: .int 0 :: .ref a0 :: st) := by
  intro H locs ls hP hS hl
  have nn : z.toInt = (z.toNatClampNeg : Int) := by
    have hz0 : (0 : Int) ≤ z.toInt := by
      have := Int32.not_lt.mp h3
      simpa using Int32.le_iff_toInt_le.mp this
    show z.toInt = ((z.toInt.toNat : Nat) : Int)
    omega
  have z0 : (0 : Int32).toInt = 0 := by decide
  have hnw : nativeFrameWords "java/lang/System" "arraycopy" 5 + 11 ≤ 32 := by decide
  intro T hT X
  have hc0 : H[a0]? = some (vp_cell (ty 3) (n0, .inr (.inr (.inr (.inr f))))) := hat0 H hP
  have hc1 : H[a1]? = some (vp_cell (ty 3) (n1, .inr (.inr (.inr (.inr g))))) := hat1 H hP
  obtain ⟨-, k0, hk0, cm0, hkk0⟩ := (hK.1.2 3 _ rfl).1 n0 (fun j => va_rf (f j))
  obtain ⟨-, k1, hk1, cm1, hkk1⟩ := (hK.1.2 3 _ rfl).1 n1 (fun j => va_rf (g j))
  obtain ⟨vm', X', step⟩ := X.arraycopy S.1 S.2.2.2.1 hlink hnat hstat hini (src := a0) (dst := a1) (cs := vp_cell (ty 3) (n0, .inr (.inr (.inr (.inr f))))) (cd := vp_cell (ty 3) (n1, .inr (.inr (.inr (.inr g))))) (srcPos := 0) (destPos := 0) (n := z) (by rw [hT]; exact hc0) (by rw [hT]; exact hc1)
    (fun _ h => by cases h) (fun _ h => by cases h) (fun h => by cases h) (fun h => by cases h) hk0 hk1 hkk0 hkk1 rfl (by decide) (by decide) h3
    (by rw [nn, z0]; show ¬ _ > ((arrV (ty 3) n0 (fun j => va_rf (f j))).slots.size : Int); rw [arrV_size]; omega)
    (by rw [nn, z0]; show ¬ _ > ((arrV (ty 3) n1 (fun j => va_rf (g j))).slots.size : Int); rw [arrV_size]; omega)
    (fun vm₁ hal i hi => by
      have e : (vp_cell (ty 3) (n0, .inr (.inr (.inr (.inr f))))).slots.getD ((0 : Int32).toNatClampNeg + i) .null = va_rf (f i) := by
        show (arrV (ty 3) n0 (fun j => va_rf (f j))).slots.getD _ _ = _
        rw [show (0 : Int32).toNatClampNeg + i = i from Nat.zero_add _, Array.getD_eq_getD_getElem?, arrV_read _ _ (by omega)]
        rfl
      rw [e]
      cases hy : f i with
      | none => exact ⟨rfl, trivial⟩
      | some y =>
        obtain ⟨cellV, g1, g2, ⟨kC, hkC⟩, hasg⟩ := hel H hP i hi y hy
        obtain ⟨kA, comp, r1, r2, r3, -⟩ := (hK.1.2 3 _ rfl).2
        cases hk1.symm.trans r1
        cases hkk1.symm.trans r2
        obtain ⟨kE, hkE, -⟩ := Vm.findClass_spec r3
        obtain ⟨kC', hkC', -⟩ := hal.2.2 _ _ hkC
        obtain ⟨kE', hkE', -⟩ := hal.2.2 _ _ hkE
        refine ⟨rfl, cellV, (show T.heap[y]? = some cellV by rw [hT]; exact g1), (fun q h => by rw [h] at g2; cases g2), ⟨kC', hkC'⟩, ?_, ?_⟩
        · exact ⟨kE', hkE'⟩
        · show vm₁.assignable _ _ = true
          rw [hal.assignable]
          exact hasg _ r3)
    (g := F0 m pc ls (.int z :: .int 0 :: .ref a1 :: .int 0 :: .ref a0 :: st)) rfl (by rw [S.2.2.1]; exact gl_size hl) (rest := st) rfl (by rw [S.2.1]; exact hdg) hR.1 (by show 2 * 0 + _ + _ ≤ _; omega)
  have e1 : copied (vp_cell (ty 3) (n0, .inr (.inr (.inr (.inr f))))) (vp_cell (ty 3) (n1, .inr (.inr (.inr (.inr g))))) 0 0 z = vp_cell (ty 3) (n1, .inr (.inr (.inr (.inr (va_cpy f g 0 0 z.toNatClampNeg))))) := by
    rw [vp_cell_q, vp_cell_q, vp_cell_q]
    exact va_copied (sp := 0) (dp := 0) (fun z => va_rf z) (ty 3) (ty 3) f g (by omega)
  rw [e1] at X' step
  have hlt : a1 < H.size := (Array.getElem?_eq_some_iff.mp hc1).1
  have oq : ∀ q : Nat, q ≠ a1 → (H.setIfInBounds a1 (vp_cell (ty 3) (n1, .inr (.inr (.inr (.inr (va_cpy f g 0 0 z.toNatClampNeg)))))))[q]? = H[q]? := fun q hq => by simp [Array.getElem?_setIfInBounds, Ne.symm hq]
  have hheap : ((T.setVm vm').setCell a1 (vp_cell (ty 3) (n1, .inr (.inr (.inr (.inr (va_cpy f g 0 0 z.toNatClampNeg))))))).heap = H.setIfInBounds a1 (vp_cell (ty 3) (n1, .inr (.inr (.inr (.inr (va_cpy f g 0 0 z.toNatClampNeg)))))) := by rw [← hT]; rfl
  obtain ⟨t, b1, b2⟩ := kk _ _ ls (hput H (H.setIfInBounds a1 (vp_cell (ty 3) (n1, .inr (.inr (.inr (.inr (va_cpy f g 0 0 z.toNatClampNeg))))))) hP (show (H.setIfInBounds a1 _)[a1]? = some _ by simp [Array.getElem?_setIfInBounds, hlt]) (by simp) oq) ⟨by simp; exact hS.1, fun q g1 g2 => by
      rw [oq q (fun e => g2 (by rw [e]; exact hA H hP))]
      exact hS.2.1 q g1 g2, fun q hq => by
      rcases List.mem_append.mp hq with h | h
      · exact hS.2.2 q h
      · obtain ⟨z, -, hz⟩ := List.mem_map.mp h
        rw [← hz]
        exact hA H hP⟩ hl _ hheap X'
  exact ⟨t, step t b1, b2⟩
/-- every object of a list may lie in a row of objects -/
theorem cAny (hK : gK D ty s) (hE : gE true strs A tE s s.heap) {z : kZ} {k0 i : Nat} (hk : 1 ≤ k0 ∧ k0 ≤ 4) (ho : cOb a k0 i) : ∀ H, hC9 D ty A tE el a z H → va_Any "java/lang/Object" s H (el k0 i) := by
  intro H h
  have hB := exB_use (hE rfl).2.2.2.2.2.2.2.2.2 #[]
  have hat := hC_at ho H (hC_close h)
  have fin : ∀ (q : vw_C) , vwCl[k0]? = some q → (Cond.castable q.1 "java/lang/Object") ∈ exB → va_Any "java/lang/Object" s H (el k0 i) := fun q hq hm => by
    obtain ⟨c1, t1, w1, w2, w3⟩ := Cond.castable_spec (hB _ hm)
    exact va_rAny (q0 := 0) (ws := [(el k0 i, .inr (k0, cfs el a k0 i))]) hK.1 (g_P1 hat) rfl hq (fun comp c0 h1 h2 => by
      rw [Option.some.inj (h1.symm.trans w2), Option.some.inj (h2.symm.trans w1)]
      exact w3)
  have hkk : k0 = 1 ∨ k0 = 2 ∨ k0 = 3 ∨ k0 = 4 := by omega
  rcases hkk with rfl | rfl | rfl | rfl
  · exact fin _ rfl (by simp [exB, RX0])
  · exact fin _ rfl (by simp [exB, RX1])
  · exact fin _ rfl (by simp [exB, RX2])
  · exact fin _ rfl (by simp [exB, RX3])
end CLA
