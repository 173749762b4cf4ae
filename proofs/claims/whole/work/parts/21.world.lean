/-! fields and arrays under gW: what P says of the cell, and what becomes of P -/
section GF
variable {p : Program} {l : Launch} {e : Env} {R : Room} {s : State} {m : MethodId} {args : Array Value} {below : List Frame} {meth : Method} {c : Code} {A : Nat → Prop} {Q : State → Prop} {nL : Nat} {P : Heap → Prop} {k n : Nat} {pc : Nat} {lv : List (Option Value)} {st : List Value}
variable {cc : ByteArray} {Ts : List Cond} {own : String} {D : va_G} {ty : Nat → ClassId}
theorem g_getf (S : CallFix p m c cc nL s args Ts own) (hK : gK D ty s) {C : String} {T : u_T} {N ci index a : Nat} {fs : List Value} {v : Value} (hat : ∀ H, P H → va_at D vwCl (a, .inr (ci, fs)) H) (hc : vwCl[ci]? = some (C, T, N)) (j : Nat) (hj : j < N) (hlink : (Cond.fieldLink own index (T j).1 (T j).2.1 (T j).2.2.1).before args s = true) (hv : fs[j]? = some v) (hdg : decode cc pc = .ok (.getfield index, 3))
    (kk : gW p l e R s m args below meth c A Q nL P k n (pc + 3) lv (v :: st)) : gW p l e R s m args below meth c A Q nL P k n pc lv (.ref a :: st) := fun H locs ls hP hS hl =>
  va_get (ws := [(a, .inr (ci, fs))]) S.1 S.2.1 (Ts := u_ws C T N) (fun w hw => hK.2 ci _ hc w hw args) (fun _ h => h) S.2.2.2.1 hK.1 (fun q0 q hq => by
    match q0, hq with
    | 0, hq => cases hq; exact hat H hP) 0 rfl hc j hj hlink (fun _ h => h) hv hdg (kk H locs ls hP hS hl)
theorem g_putf (S : CallFix p m c cc nL s args Ts own) (hK : gK D ty s) {C : String} {T : u_T} {N ci index a j : Nat} {fs : List Value} {v : Value} {P' : Heap → Prop} (ty0 : Nat → FieldType) (hty : ∀ k, k < N → parseFieldDescriptor (T k).2.2.1 = some (ty0 k)) (hnm : ∀ a, a < N → ∀ b, b < N → a ≠ b → (T a).2.1 ≠ (T b).2.1)
    (hat : ∀ H, P H → va_at D vwCl (a, .inr (ci, fs)) H) (hA : ∀ H, P H → A a) (hput : ∀ H H1, P H → va_at D vwCl (a, .inr (ci, fs.set j v)) H1 → H1.size = H.size → (∀ q : Nat, q ≠ a → H1[q]? = H[q]?) → P' H1)
    (hc : vwCl[ci]? = some (C, T, N)) (hj : j < N) (hlink : (Cond.fieldLink own index (T j).1 (T j).2.1 (T j).2.2.1).before args s = true) (hfin : (T j).2.2.2 = false ∨ ((T j).2.2.2 = true ∧ meth.name = "<init>" ∧ (T j).1 = own)) (hn : narrow (ty0 j) v = v) (hfit : fits (ty0 j) v = true) (hl : j < fs.length) (hdg : decode cc pc = .ok (.putfield index, 3))
    (kk : gW p l e R s m args below meth c A Q nL P' k n (pc + 3) lv st) : gW p l e R s m args below meth c A Q nL P k n pc lv (v :: .ref a :: st) := by
  intro H locs ls hP hS hL
  have hts : ∀ w ∈ u_ws C T N, w.before args s = true := fun w hw => hK.2 ci _ hc w hw args
  have hin : ∀ w ∈ u_ws C T N, w ∈ u_ws C T N := fun _ h => h
  have hap := va_apart (own := own) hts hin ty0 hty hnm hK.1 hc
  obtain ⟨r, h1, cell, q1, q2, q3, q4⟩ := hat H hP
  have hr : r = (C, T, N) := Option.some.inj (h1.symm.trans hc)
  subst hr
  obtain ⟨hSl, hfc, kC, hkC, hkind⟩ := hK.1.1 ci _ hc
  obtain ⟨cf, kf, fi, f, hi, hsl⟩ := hSl j hj
  have hst := (u_facts hfc hkC (u_lays hts hin hj) hi).1
  have fin : ∀ H1 : Heap, H1[a]? = some (cell.setSlot (D.2 ci j) v) → H1.size = H.size → (∀ q : Nat, q ≠ a → H1[q]? = H[q]?) → P' H1 := fun H1 e1 e2 e3 =>
    hput H H1 hP ⟨_, hc, t_OB.to (V := updV (vp_V fs) j v) ⟨_, e1, q2, q3, t_set q4 hap hj v⟩ (fun i _ => vp_updV_set hl v i)⟩ e2 e3
  have hlay := hts _ (hin _ (u_in_lay hj))
  unfold u_lay at hlay
  rcases hfin with hfin | ⟨hfin, hini, hdecl⟩
  · rw [if_neg (by rw [hfin]; decide)] at hlay
    have h6 := u_store hfc hkC hkind hlay hi (hty j hj) hn hfit
    refine W.putK S.1 S.2.1 (f := f) ⟨S.2.2.2.1, hlink, ⟨_, _, _, hi⟩, hst⟩ (by rw [q2]; exact h6) q1 q3 (by rw [hsl]; exact k2_hasslot (q4 j hj)) rfl rfl hdg fun H1 e1 e2 e3 => ?_
    rw [hsl] at e1 ⊢
    exact kk H1 _ ls (fin H1 e1 e2 e3) (hS.put e2 e3 (hA H hP)) hL
  · rw [if_pos hfin] at hlay
    have hcf : m.cls = cf := by
      obtain ⟨_, _, c', _, _, _, -, -, hf', -, -, -, hown2, -⟩ := Cond.laysFinal_spec hlay
      have e1 : c' = cf := by have := hi.symm.trans hf'; simp at this; exact this.1.symm
      rw [hdecl] at hown2
      rw [← e1]; exact Option.some.inj (S.2.2.2.1.symm.trans hown2)
    have h6 := u_fits hfc hkC hkind (Or.inr hlay) hi (hty j hj) hn hfit
    refine W.putFinK S.1 S.2.1 S.2.2.2.1 hlink hi hst hcf hini (by rw [q2]; exact h6) q1 q3 (by rw [hsl]; exact k2_hasslot (q4 j hj)) rfl rfl hdg fun H1 e1 e2 e3 => ?_
    rw [hsl] at e1 ⊢
    exact kk H1 _ ls (fin H1 e1 e2 e3) (hS.put e2 e3 (hA H hP)) hL
theorem g_new (S : CallFix p m c cc nL s args Ts own) (hK : gK D ty s) {C : String} {T : u_T} {N ci index : Nat} {fs : List Value} {P' : Nat → Heap → Prop} (ty0 : Nat → FieldType) (hty : ∀ k, k < N → parseFieldDescriptor (T k).2.2.1 = some (ty0 k)) (hc : vwCl[ci]? = some (C, T, N)) (hcl : (Cond.classLink own index C).before args s = true) (hinst : (Cond.instantiable C N).before args s = true) (hini : (Cond.initialized C).before args s = true)
    (hA : ∀ q, s.heap.size ≤ q → A q) (hfs : ∀ j, j < N → defaultValue (ty0 j) = vp_V fs j) (hcells : k + 1 ≤ R.cells) (hslots : n + N ≤ R.slots)
    (hput : ∀ H H1, P H → va_at D vwCl (H.size, .inr (ci, fs)) H1 → H1.size = H.size + 1 → (∀ q : Nat, q < H.size → H1[q]? = H[q]?) → A H.size → P' H.size H1) (hdg : decode cc pc = .ok (.new index, 3))
    (kk : ∀ q : Nat, gW p l e R s m args below meth c A Q nL (P' q) (k + 1) (n + N) (pc + 3) lv (.ref q :: st)) : gW p l e R s m args below meth c A Q nL P k n pc lv st := by
  intro H locs ls hP hS hL
  have hts : ∀ w ∈ u_ws C T N, w.before args s = true := fun w hw => hK.2 ci _ hc w hw args
  have hKn := hK.1.1 ci _ hc
  refine W.newcK S.1 S.2.1 S.2.2.2.1 hcl hinst hini rfl hdg hcells hslots hKn.2.1 rfl fun H1 kC hkC e1 z1 o1 => ?_
  exact kk H.size H1 locs ls (hput H H1 hP ⟨_, hc, (u_born ty0 hts (fun _ h => h) hKn hkC e1 hty).to hfs⟩ z1 o1 (hA _ hS.1)) ⟨Nat.le_trans hS.1 (by omega), fun x h1 h2 => (o1 x (Nat.lt_of_lt_of_le h1 hS.1)).trans (hS.2.1 x h1 h2), hS.2.2⟩ hL
theorem g_newa (S : CallFix p m c cc nL s args Ts own) (hK : gK D ty s) {atype : ArrayType} {t0 : Nat} {z : Int32} {N' : Nat} {a0 : vp_A} {P' : Nat → Heap → Prop} (harr : (Cond.arrayClass (newarray.typeOf atype)).before args s = true) {tt : FieldType} (htt : newarray.typeOf atype = tt) (ht : (gtys ty)[t0]? = some (ty t0, tt)) (hprim : ∀ U, va_RA U (ty t0) tt → U.vm.findClass ("[" ++ tt.toString) = some (ty t0))
    (ha : ∀ cA : ClassId, vp_cell cA a0 = arrV cA N' (fun _ => defaultValue tt)) (hz : ¬ z < 0) (hN : z.toNatClampNeg = N') (hbytes : N' * componentBytes tt ≤ 536870912) (hA : ∀ q, s.heap.size ≤ q → A q) (hcells : k + 1 ≤ R.cells) (hslots : n + N' ≤ R.slots)
    (hput : ∀ H H1, P H → va_at D vwCl (H.size, .inl (ty t0, a0)) H1 → H1.size = H.size + 1 → (∀ q : Nat, q < H.size → H1[q]? = H[q]?) → A H.size → P' H.size H1) (hdg : decode cc pc = .ok (.newarray atype, 2))
    (kk : ∀ q : Nat, gW p l e R s m args below meth c A Q nL (P' q) (k + 1) (n + N') (pc + 2) lv (.ref q :: st)) : gW p l e R s m args below meth c A Q nL P k n pc lv (.int z :: st) := by
  intro H locs ls hP hS hL
  subst htt
  refine va_newaK S.1 S.2.1 harr (g := F0 m pc ls (.int z :: st)) rfl hdg rfl hz hN hbytes hcells hslots rfl fun H1 cA e1 z1 o1 hAT hfA => ?_
  have hcA : cA = ty t0 := Option.some.inj (hfA.symm.trans (hprim s (hK.1.2 t0 _ ht).2))
  subst hcA
  exact kk H.size H1 locs ls (hput H H1 hP (by show H1[H.size]? = some (vp_cell _ _); rw [ha]; exact e1) z1 o1 (hA _ hS.1)) ⟨Nat.le_trans hS.1 (by omega), fun x h1 h2 => (o1 x (Nat.lt_of_lt_of_le h1 hS.1)).trans (hS.2.1 x h1 h2), hS.2.2⟩ hL
theorem g_P1 {a : Nat} {x : va_E} {H : Heap} (h : va_at D vwCl (a, x) H) : va_P D vwCl [(a, x)] H := fun q0 q hq => by
  match q0, hq with
  | 0, hq => cases hq; exact h
theorem g_alen (S : CallFix p m c cc nL s args Ts own) (hK : gK D ty s) {a : Nat} {x : vp_A} {t0 : Nat} {tt : FieldType} (hat : ∀ H, P H → va_at D vwCl (a, .inl (ty t0, x)) H) (ht : (gtys ty)[t0]? = some (ty t0, tt)) (hdg : decode cc pc = .ok (.arraylength, 1))
    (kk : gW p l e R s m args below meth c A Q nL P k n (pc + 1) lv (.int (nI x.1) :: st)) : gW p l e R s m args below meth c A Q nL P k n pc lv (.ref a :: st) := fun H locs ls hP hS hl =>
  va_alen (ws := [(a, .inl (ty t0, x))]) S.1 S.2.1 hK.1 (g_P1 (hat H hP)) 0 t0 rfl ht rfl hdg (kk H locs ls hP hS hl)
theorem g_iald (S : CallFix p m c cc nL s args Ts own) (hK : gK D ty s) {a N' : Nat} {f : Nat → Int32} {i : Int32} (hat : ∀ H, P H → va_at D vwCl (a, .inl (ty 0, N', .inl f)) H) (hin : vp_in i N') (hdg : decode cc pc = .ok (.iaload, 1))
    (kk : gW p l e R s m args below meth c A Q nL P k n (pc + 1) lv (.int (f i.toNatClampNeg) :: st)) : gW p l e R s m args below meth c A Q nL P k n pc lv (.int i :: .ref a :: st) := fun H locs ls hP hS hl =>
  va_iald (ws := [(a, .inl (ty 0, N', .inl f))]) S.1 S.2.1 hK.1 (g_P1 (hat H hP)) 0 0 rfl rfl hin hdg (kk H locs ls hP hS hl)
theorem g_zald (S : CallFix p m c cc nL s args Ts own) (hK : gK D ty s) {a N' : Nat} {f : Nat → Int32} {i : Int32} (hat : ∀ H, P H → va_at D vwCl (a, .inl (ty 2, N', .inl f)) H) (hin : vp_in i N') (hdg : decode cc pc = .ok (.baload, 1))
    (kk : gW p l e R s m args below meth c A Q nL P k n (pc + 1) lv (.int (f i.toNatClampNeg) :: st)) : gW p l e R s m args below meth c A Q nL P k n pc lv (.int i :: .ref a :: st) := fun H locs ls hP hS hl =>
  va_zald (ws := [(a, .inl (ty 2, N', .inl f))]) S.1 S.2.1 hK.1 (g_P1 (hat H hP)) 0 2 rfl rfl hin hdg (kk H locs ls hP hS hl)
theorem g_lald (S : CallFix p m c cc nL s args Ts own) (hK : gK D ty s) {a N' : Nat} {f : Nat → Int64} {i : Int32} (hat : ∀ H, P H → va_at D vwCl (a, .inl (ty 1, N', .inr (.inl f))) H) (hin : vp_in i N') (hdg : decode cc pc = .ok (.laload, 1))
    (kk : gW p l e R s m args below meth c A Q nL P k n (pc + 1) lv (.long (f i.toNatClampNeg) :: st)) : gW p l e R s m args below meth c A Q nL P k n pc lv (.int i :: .ref a :: st) := fun H locs ls hP hS hl =>
  va_lald (ws := [(a, .inl (ty 1, N', .inr (.inl f)))]) S.1 S.2.1 hK.1 (g_P1 (hat H hP)) 0 1 rfl rfl hin hdg (kk H locs ls hP hS hl)
theorem g_iast (S : CallFix p m c cc nL s args Ts own) (hK : gK D ty s) {a N' : Nat} {f : Nat → Int32} {i x : Int32} {P' : Heap → Prop} (hat : ∀ H, P H → va_at D vwCl (a, .inl (ty 0, N', .inl f)) H) (hA : ∀ H, P H → A a) (hput : ∀ H H1, P H → va_at D vwCl (a, .inl (ty 0, N', .inl (upd f i.toNatClampNeg x))) H1 → H1.size = H.size → (∀ q : Nat, q ≠ a → H1[q]? = H[q]?) → P' H1) (hin : vp_in i N') (hdg : decode cc pc = .ok (.iastore, 1))
    (kk : gW p l e R s m args below meth c A Q nL P' k n (pc + 1) lv st) : gW p l e R s m args below meth c A Q nL P k n pc lv (.int x :: .int i :: .ref a :: st) := by
  intro H locs ls hP hS hl
  refine W.iast S.1 S.2.1 (hat H hP) ((hK.1.2 0 _ rfl).1 N' (fun j => .int (f j))) (fun q => by cases q) (by show ¬ (i < 0 ∨ (arrV _ _ _).slots.size ≤ _); rw [arrV_size]; exact hin) rfl rfl hdg fun H1 e z oq => ?_
  refine kk H1 _ ls (hput H H1 hP ?_ z oq) (hS.put z oq (hA H hP)) hl
  show H1[a]? = some (vp_cell _ _)
  rw [e, vp_cell_i, vp_cell_i, arrV_store]
  congr 2
  funext q
  by_cases hq : q = i.toNatClampNeg
  · subst hq
    simp [updV, upd]
  · simp [updV, upd, hq]
theorem g_zast (S : CallFix p m c cc nL s args Ts own) (hK : gK D ty s) {a N' : Nat} {f : Nat → Int32} {i x : Int32} {P' : Heap → Prop} (hat : ∀ H, P H → va_at D vwCl (a, .inl (ty 2, N', .inl f)) H) (hA : ∀ H, P H → A a) (hput : ∀ H H1, P H → va_at D vwCl (a, .inl (ty 2, N', .inl (upd f i.toNatClampNeg (vp_nar .boolean x)))) H1 → H1.size = H.size → (∀ q : Nat, q ≠ a → H1[q]? = H[q]?) → P' H1) (hin : vp_in i N') (hdg : decode cc pc = .ok (.bastore, 1))
    (kk : gW p l e R s m args below meth c A Q nL P' k n (pc + 1) lv st) : gW p l e R s m args below meth c A Q nL P k n pc lv (.int x :: .int i :: .ref a :: st) := by
  intro H locs ls hP hS hl
  refine W.zast S.1 S.2.1 (hat H hP) ((hK.1.2 2 _ rfl).1 N' (fun j => .int (f j))) (fun q => by cases q) (by show ¬ (i < 0 ∨ (arrV _ _ _).slots.size ≤ _); rw [arrV_size]; exact hin) rfl rfl hdg fun H1 e z oq => ?_
  refine kk H1 _ ls (hput H H1 hP ?_ z oq) (hS.put z oq (hA H hP)) hl
  show H1[a]? = some (vp_cell _ _)
  rw [e, vp_cell_i, vp_cell_i, arrV_store]
  congr 2
  funext q
  by_cases hq : q = i.toNatClampNeg
  · subst hq
    simp [updV, upd, vp_nar]
    try rfl
  · simp [updV, upd, hq]
theorem g_last (S : CallFix p m c cc nL s args Ts own) (hK : gK D ty s) {a N' : Nat} {f : Nat → Int64} {i : Int32} {x : Int64} {P' : Heap → Prop} (hat : ∀ H, P H → va_at D vwCl (a, .inl (ty 1, N', .inr (.inl f))) H) (hA : ∀ H, P H → A a) (hput : ∀ H H1, P H → va_at D vwCl (a, .inl (ty 1, N', .inr (.inl (vp_updL f i.toNatClampNeg x)))) H1 → H1.size = H.size → (∀ q : Nat, q ≠ a → H1[q]? = H[q]?) → P' H1) (hin : vp_in i N') (hdg : decode cc pc = .ok (.lastore, 1))
    (kk : gW p l e R s m args below meth c A Q nL P' k n (pc + 1) lv st) : gW p l e R s m args below meth c A Q nL P k n pc lv (.long x :: .int i :: .ref a :: st) := by
  intro H locs ls hP hS hl
  refine W.last S.1 S.2.1 (hat H hP) ((hK.1.2 1 _ rfl).1 N' (fun j => .long (f j))) (fun q => by cases q) (by show ¬ (i < 0 ∨ (arrV _ _ _).slots.size ≤ _); rw [arrV_size]; exact hin) rfl rfl hdg fun H1 e z oq => ?_
  refine kk H1 _ ls (hput H H1 hP ?_ z oq) (hS.put z oq (hA H hP)) hl
  show H1[a]? = some (vp_cell _ _)
  rw [e, vp_cell_l, vp_cell_l, arrV_store]
  congr 2
  funext q
  by_cases hq : q = i.toNatClampNeg
  · subst hq
    simp [updV, vp_updL]
  · simp [updV, vp_updL, hq]
theorem g_recv {a ci : Nat} {q : vw_C} {fs : List Value} (hK : gK D ty s) (hat : ∀ H, P H → va_at D vwCl (a, .inr (ci, fs)) H) (hc : vwCl[ci]? = some q) : ∀ H, P H → ∃ cellB : Cell, H[a]? = some cellB ∧ cellB.vm.isStatics = false ∧ s.vm.findClass q.1 = some cellB.cls := fun H hP => va_recv hK.1 (g_P1 (hat H hP)) hc (q0 := 0) rfl
theorem g_objInit (S : CallFix p m c cc nL s args Ts own) {idx a : Nat} (hlink : (Cond.methodLink own idx Lib.objectInit).before args s = true) (hinst : (Cond.instanceMethod Lib.objectInit).before args s = true) (hcode : (Cond.code Lib.objectInit ⟨#[0xb1]⟩ 1 none).before args s = true) (hdg : decode cc pc = .ok (.invokespecial idx, 3)) (hst : (st.map fun v => v.category).sum ≤ 8) (hR : 1 ≤ R.frames ∧ 20 ≤ R.locals)
    (kk : gW p l e R s m args below meth c A Q nL P k n (pc + 3) lv st) : gW p l e R s m args below meth c A Q nL P k n pc lv (.ref a :: st) := fun H locs ls hP hS hl =>
  W.objInit S.1 S.2.1 S.2.2.2.1 hlink hinst hcode rfl (by rw [S.2.2.1]; exact gl_size hl) rfl hdg hR.1 (Nat.le_trans (Nat.add_le_add_right (lv_room hst) 12) hR.2) (kk H locs ls hP hS hl)
end GF
