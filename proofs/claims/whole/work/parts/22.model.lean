/-! the reference's state: its numbers S, its rows X of ints by the field's place, its row Y of longs; and what holds it in the heap -/
abbrev MS : Type := (Nat → Int32) × (Nat → Nat → Int32) × (Nat → Int64)
def mlen (k : Nat) : Nat := [0, 0, 0, 0, 0, 6, 6, 0, 6, 6, 6, 6, 6, 0, 40, 40, 40, 40, 40, 40, 0, 80, 80, 80, 80, 80, 80, 80, 80, 0, 6000, 6000, 6000, 0, 30, 30, 30, 30, 30, 30, 30, 30, 30, 30, 80, 80].getD k 0
def mfs (ad : Nat → Nat) (S : Nat → Int32) : List Value := [.int (S 0), .int (S 1), .int (S 2), .int (S 3), .int (S 4), .ref (ad 5), .ref (ad 6), .int (S 7), .ref (ad 8), .ref (ad 9), .ref (ad 10), .ref (ad 11), .ref (ad 12), .int (S 13), .ref (ad 14), .ref (ad 15), .ref (ad 16), .ref (ad 17), .ref (ad 18), .ref (ad 19), .int (S 20), .ref (ad 21), .ref (ad 22), .ref (ad 23), .ref (ad 24), .ref (ad 25), .ref (ad 26), .ref (ad 27), .ref (ad 28), .int (S 29), .ref (ad 30), .ref (ad 31), .ref (ad 32), .int (S 33), .ref (ad 34), .ref (ad 35), .ref (ad 36), .ref (ad 37), .ref (ad 38), .ref (ad 39), .ref (ad 40), .ref (ad 41), .ref (ad 42), .ref (ad 43), .ref (ad 44), .ref (ad 45)]
def uS (S : Nat → Int32) (k : Nat) (x : Int32) : Nat → Int32 := fun q => if q = k then x else S q
def u2 (X : Nat → Nat → Int32) (k i : Nat) (x : Int32) : Nat → Nat → Int32 := fun q => if q = k then upd (X k) i x else X q
def mS (a : MS) (k : Nat) (x : Int32) : MS := (uS a.1 k x, a.2.1, a.2.2)
def mX (a : MS) (k : Nat) (i x : Int32) : MS := (a.1, u2 a.2.1 k i.toNatClampNeg x, a.2.2)
def mY (a : MS) (i : Int32) (x : Int64) : MS := (a.1, a.2.1, vp_updL a.2.2 i.toNatClampNeg x)
/-- a number of the state, an int of a row, a long of the accounts -/
abbrev gS (a : MS) (k : Nat) : Int32 := a.1 k
abbrev gA (a : MS) (k : Nat) (i : Int32) : Int32 := a.2.1 k i.toNatClampNeg
abbrev gY (a : MS) (i : Int32) : Int64 := a.2.2 i.toNatClampNeg
def ment (ty : Nat → ClassId) (a : MS) (k : Nat) : va_E := if k = 5 then .inl (ty 1, 6, .inr (.inl a.2.2)) else if k = 41 then .inl (ty 2, 30, .inl (a.2.1 41)) else .inl (ty 0, mlen k, .inl (a.2.1 k))
def hM (D : va_G) (ty : Nat → ClassId) (A : Nat → Prop) (mo : Nat) (ad : Nat → Nat) (a : MS) (H : Heap) : Prop :=
  (va_at D vwCl (mo, .inr (7, mfs ad a.1)) H ∧ A mo) ∧ (∀ k, 0 < mlen k → va_at D vwCl (ad k, ment ty a k) H ∧ A (ad k) ∧ ad k ≠ mo) ∧ ∀ k k', 0 < mlen k → 0 < mlen k' → ad k = ad k' → k = k'
def b2 (b : Bool) : Int32 := cond b 1 0
theorem b2_0 {b : Bool} : b2 b = 0 ↔ b = false := by cases b <;> decide
theorem mlen_sc {k : Nat} (h : 0 < mlen k) : k < 46 := by
  rcases Nat.lt_or_ge k 46 with q | q
  · exact q
  · exfalso
    unfold mlen at h
    rw [List.getD_eq_getElem?_getD, List.getElem?_eq_none (by simpa using q)] at h
    simp at h
theorem mfs_set (ad : Nat → Nat) (S : Nat → Int32) (x : Int32) : ∀ j ∈ [0, 1, 2, 3, 4, 7, 13, 20, 29, 33], (mfs ad S).set j (.int x) = mfs ad (uS S j x) := by
  intro j hj
  simp only [List.mem_cons, List.not_mem_nil, or_false] at hj
  rcases hj with rfl | rfl | rfl | rfl | rfl | rfl | rfl | rfl | rfl | rfl <;> simp [mfs, uS]
theorem msc_ty : ∀ j ∈ [0, 1, 2, 3, 4, 7, 13, 20, 29, 33], tyX6 j = .int ∧ (TX6 j).2.2.2 = false ∧ j < 46 := by decide +kernel
theorem mfs_len (ad : Nat → Nat) (S : Nat → Int32) : (mfs ad S).length = 46 := rfl
theorem u2_same (X : Nat → Nat → Int32) (k i : Nat) (x : Int32) : u2 X k i x k = upd (X k) i x := by simp [u2]
theorem u2_other (X : Nat → Nat → Int32) {k k' : Nat} (h : k' ≠ k) (i : Nat) (x : Int32) : u2 X k i x k' = X k' := by simp [u2, h]
section MR
variable {p : Program} {l : Launch} {e : Env} {R : Room} {s : State} {m : MethodId} {args : Array Value} {below : List Frame} {meth : Method} {c : Code} {A : Nat → Prop} {Q : State → Prop} {nL : Nat} {P : Heap → Prop} {k n : Nat} {pc : Nat} {lv : List (Option Value)} {st : List Value}
variable {cc : ByteArray} {Ts : List Cond} {own : String} {D : va_G} {ty : Nat → ClassId} {mo : Nat} {ad : Nat → Nat} {a : MS}
theorem m_getf (S : CallFix p m c cc nL s args Ts own) (hK : gK D ty s) {index : Nat} {v : Value} (j : Nat) (hj : j < 46) (hlink : (Cond.fieldLink own index (TX6 j).1 (TX6 j).2.1 (TX6 j).2.2.1).before args s = true) (hv : (mfs ad a.1)[j]? = some v) (hdg : decode cc pc = .ok (.getfield index, 3))
    (kk : gW p l e R s m args below meth c A Q nL (hM D ty A mo ad a) k n (pc + 3) lv (v :: st)) : gW p l e R s m args below meth c A Q nL (hM D ty A mo ad a) k n pc lv (.ref mo :: st) :=
  g_getf S hK (C := RX6) (T := TX6) (N := 46) (fun H h => h.1.1) rfl j hj hlink hv hdg kk
theorem m_puts (S : CallFix p m c cc nL s args Ts own) (hK : gK D ty s) {index : Nat} {x : Int32} (j : Nat) (hj : j ∈ [0, 1, 2, 3, 4, 7, 13, 20, 29, 33]) (hlink : (Cond.fieldLink own index (TX6 j).1 (TX6 j).2.1 (TX6 j).2.2.1).before args s = true) (hdg : decode cc pc = .ok (.putfield index, 3))
    (kk : gW p l e R s m args below meth c A Q nL (hM D ty A mo ad (mS a j x)) k n (pc + 3) lv st) : gW p l e R s m args below meth c A Q nL (hM D ty A mo ad a) k n pc lv (.int x :: .ref mo :: st) := by
  obtain ⟨h1, h2, h3⟩ := msc_ty j hj
  refine g_putf S hK (C := RX6) (T := TX6) (N := 46) (j := j) (fs := mfs ad a.1) (P' := hM D ty A mo ad (mS a j x)) tyX6 tyX6_ok nmX6 (fun H h => h.1.1) (fun H h => h.1.2) ?_ rfl h3 hlink (Or.inl h2) (by rw [h1]; rfl) (by rw [h1]; rfl) (by rw [mfs_len]; exact h3) hdg kk
  intro H H1 hP hat z oq
  refine ⟨⟨by rw [mfs_set ad a.1 x j hj] at hat; exact hat, hP.1.2⟩, fun q hq => ?_, hP.2.2⟩
  obtain ⟨g1, g2, g3⟩ := hP.2.1 q hq
  exact ⟨g1.kept (oq _ g3), g2, g3⟩
theorem hM_row {H H1 : Heap} {a' : MS} {j : Nat} (hP : hM D ty A mo ad a H) (hj : 0 < mlen j) (h1 : a'.1 = a.1) (hat : va_at D vwCl (ad j, ment ty a' j) H1) (ho : ∀ q, q ≠ j → ment ty a' q = ment ty a q) (oq : ∀ q : Nat, q ≠ ad j → H1[q]? = H[q]?) : hM D ty A mo ad a' H1 := by
  obtain ⟨⟨g0, g9⟩, g1, g2⟩ := hP
  refine ⟨⟨by rw [h1]; exact g0.kept (oq _ (fun z => (g1 j hj).2.2 z.symm)), g9⟩, fun q hq => ?_, g2⟩
  obtain ⟨f1, f2, f3⟩ := g1 q hq
  by_cases hqj : q = j
  · subst hqj
    exact ⟨hat, f2, f3⟩
  · rw [ho q hqj]
    exact ⟨f1.kept (oq _ (fun z => hqj (g2 q j hq hj z))), f2, f3⟩
theorem ment_i {j : Nat} (h5 : j ≠ 5) (h41 : j ≠ 41) (ty : Nat → ClassId) (a : MS) : ment ty a j = .inl (ty 0, mlen j, .inl (a.2.1 j)) := by simp [ment, h5, h41]
theorem m_iald (S : CallFix p m c cc nL s args Ts own) (hK : gK D ty s) {j : Nat} {i : Int32} (hj : (0 < mlen j) ∧ j ≠ 5 ∧ j ≠ 41) (hin : vp_in i (mlen j)) (hdg : decode cc pc = .ok (.iaload, 1))
    (kk : gW p l e R s m args below meth c A Q nL (hM D ty A mo ad a) k n (pc + 1) lv (.int (gA a j i) :: st)) : gW p l e R s m args below meth c A Q nL (hM D ty A mo ad a) k n pc lv (.int i :: .ref (ad j) :: st) :=
  g_iald S hK (fun H h => by have := (h.2.1 j hj.1).1; rw [ment_i hj.2.1 hj.2.2] at this; exact this) hin hdg kk
theorem m_iast (S : CallFix p m c cc nL s args Ts own) (hK : gK D ty s) {j : Nat} {i x : Int32} (hj : (0 < mlen j) ∧ j ≠ 5 ∧ j ≠ 41) (hin : vp_in i (mlen j)) (hdg : decode cc pc = .ok (.iastore, 1))
    (kk : gW p l e R s m args below meth c A Q nL (hM D ty A mo ad (mX a j i x)) k n (pc + 1) lv st) : gW p l e R s m args below meth c A Q nL (hM D ty A mo ad a) k n pc lv (.int x :: .int i :: .ref (ad j) :: st) :=
  g_iast S hK (N' := mlen j) (f := a.2.1 j) (P' := hM D ty A mo ad (mX a j i x)) (fun H h => by have := (h.2.1 j hj.1).1; rw [ment_i hj.2.1 hj.2.2] at this; exact this) (fun H h => (h.2.1 j hj.1).2.1) (fun H H1 hP hat z oq => hM_row hP hj.1 rfl (by rw [ment_i hj.2.1 hj.2.2]; show va_at D vwCl (ad j, .inl (ty 0, mlen j, .inl (u2 a.2.1 j i.toNatClampNeg x j))) H1; rw [u2_same]; exact hat) (fun q hq => by
    have e : (mX a j i x).2.1 q = a.2.1 q := u2_other _ hq _ _
    have e41 : (mX a j i x).2.1 41 = a.2.1 41 := u2_other _ (fun z => hj.2.2 z.symm) _ _
    simp only [ment, e, e41]
    rfl) oq) hin hdg kk
theorem m_zald (S : CallFix p m c cc nL s args Ts own) (hK : gK D ty s) {i : Int32} (hin : vp_in i 30) (hdg : decode cc pc = .ok (.baload, 1))
    (kk : gW p l e R s m args below meth c A Q nL (hM D ty A mo ad a) k n (pc + 1) lv (.int (gA a 41 i) :: st)) : gW p l e R s m args below meth c A Q nL (hM D ty A mo ad a) k n pc lv (.int i :: .ref (ad 41) :: st) :=
  g_zald S hK (fun H h => (h.2.1 41 (by decide)).1) hin hdg kk
theorem m_zast (S : CallFix p m c cc nL s args Ts own) (hK : gK D ty s) {i x : Int32} (hx : vp_nar .boolean x = x) (hin : vp_in i 30) (hdg : decode cc pc = .ok (.bastore, 1))
    (kk : gW p l e R s m args below meth c A Q nL (hM D ty A mo ad (mX a 41 i x)) k n (pc + 1) lv st) : gW p l e R s m args below meth c A Q nL (hM D ty A mo ad a) k n pc lv (.int x :: .int i :: .ref (ad 41) :: st) :=
  g_zast S hK (N' := 30) (f := a.2.1 41) (P' := hM D ty A mo ad (mX a 41 i x)) (fun H h => (h.2.1 41 (by decide)).1) (fun H h => (h.2.1 41 (by decide)).2.1) (fun H H1 hP hat z oq => hM_row hP (j := 41) (by decide) rfl (by show va_at D vwCl (ad 41, .inl (ty 2, 30, .inl (u2 a.2.1 41 i.toNatClampNeg x 41))) H1; rw [u2_same]; rw [hx] at hat; exact hat) (fun q hq => by
    have e : (mX a 41 i x).2.1 q = a.2.1 q := u2_other _ hq _ _
    simp only [ment, if_neg hq, e]
    rfl) oq) hin hdg kk
theorem m_lald (S : CallFix p m c cc nL s args Ts own) (hK : gK D ty s) {i : Int32} (hin : vp_in i 6) (hdg : decode cc pc = .ok (.laload, 1))
    (kk : gW p l e R s m args below meth c A Q nL (hM D ty A mo ad a) k n (pc + 1) lv (.long (gY a i) :: st)) : gW p l e R s m args below meth c A Q nL (hM D ty A mo ad a) k n pc lv (.int i :: .ref (ad 5) :: st) :=
  g_lald S hK (fun H h => (h.2.1 5 (by decide)).1) hin hdg kk
theorem m_last (S : CallFix p m c cc nL s args Ts own) (hK : gK D ty s) {i : Int32} {x : Int64} (hin : vp_in i 6) (hdg : decode cc pc = .ok (.lastore, 1))
    (kk : gW p l e R s m args below meth c A Q nL (hM D ty A mo ad (mY a i x)) k n (pc + 1) lv st) : gW p l e R s m args below meth c A Q nL (hM D ty A mo ad a) k n pc lv (.long x :: .int i :: .ref (ad 5) :: st) :=
  g_last S hK (N' := 6) (f := a.2.2) (P' := hM D ty A mo ad (mY a i x)) (fun H h => (h.2.1 5 (by decide)).1) (fun H h => (h.2.1 5 (by decide)).2.1) (fun H H1 hP hat z oq => hM_row hP (j := 5) (by decide) rfl hat (fun q hq => by simp only [ment, if_neg hq]; rfl) oq) hin hdg kk
theorem m_recv (hK : gK D ty s) : ∀ H, hM D ty A mo ad a H → ∃ cellB : Cell, H[mo]? = some cellB ∧ cellB.vm.isStatics = false ∧ s.vm.findClass RX6 = some cellB.cls := g_recv (q := (RX6, TX6, 46)) hK (fun H h => h.1.1) rfl
/-- what a method answers, and what holds behind it -/
def gRet (v : Option Value) (P : Heap → Prop) : Option Value → Heap → Prop := fun r H => r = v ∧ P H
section CR
variable {b : Bool} {strs : List (Nat × String)} {tE : Nat} {y : MethodName} {bytes : ByteArray} {maxL mc ms na index : Nat} {ret : Option FieldType} {ws : List Cond} {rm : Room} {P1 P2 : Heap → Prop} {C : String} {b0 : Nat} {As : List Value} {v : Value}
theorem g_cVr (S : CallFix p m c cc nL s args Ts own) (hM : Met l y ws rm (gPc D ty b strs tE A (.ref b0 :: As) P1) (gQ A (gRet (some v) P2)) mc ms A) (cw : CallW R s args own C index y bytes maxL ret ws rm mc ms na) (hK : gK D ty s) (hE : gE b strs A tE s s.heap)
    (hP1 : ∀ H, P H → P1 H) (hrecv : ∀ H, P H → ∃ cellB : Cell, H[b0]? = some cellB ∧ cellB.vm.isStatics = false ∧ s.vm.findClass C = some cellB.cls) (hn : As.length = na) (hcat : (st.map fun v => v.category).sum ≤ 8) (hdg : decode cc pc = .ok (.invokevirtual index, 3)) (hf : k + mc ≤ R.cells ∧ n + ms ≤ R.slots)
    (kk : gW p l e R s m args below meth c A Q nL P2 (k + mc) (n + ms) (pc + 3) lv (v :: st)) : gW p l e R s m args below meth c A Q nL P k n pc lv (As.reverse ++ .ref b0 :: st) :=
  g_callV S hM cw hK hE hP1 hrecv hn hcat hdg hf (fun r => g_and (fun H h => h) (fun hr => by subst hr; exact kk))
theorem g_cVv (S : CallFix p m c cc nL s args Ts own) (hM : Met l y ws rm (gPc D ty b strs tE A (.ref b0 :: As) P1) (gQ A (gRet none P2)) mc ms A) (cw : CallW R s args own C index y bytes maxL ret ws rm mc ms na) (hK : gK D ty s) (hE : gE b strs A tE s s.heap)
    (hP1 : ∀ H, P H → P1 H) (hrecv : ∀ H, P H → ∃ cellB : Cell, H[b0]? = some cellB ∧ cellB.vm.isStatics = false ∧ s.vm.findClass C = some cellB.cls) (hn : As.length = na) (hcat : (st.map fun v => v.category).sum ≤ 8) (hdg : decode cc pc = .ok (.invokevirtual index, 3)) (hf : k + mc ≤ R.cells ∧ n + ms ≤ R.slots)
    (kk : gW p l e R s m args below meth c A Q nL P2 (k + mc) (n + ms) (pc + 3) lv st) : gW p l e R s m args below meth c A Q nL P k n pc lv (As.reverse ++ .ref b0 :: st) :=
  g_callV S hM cw hK hE hP1 hrecv hn hcat hdg hf (fun r => g_and (fun H h => h) (fun hr => by subst hr; exact kk))
theorem g_cSr (S : CallFix p m c cc nL s args Ts own) (hM : Met l y ws rm (gPc D ty b strs tE A As P1) (gQ A (gRet (some v) P2)) mc ms A) (cw : CallB R s args own index y bytes maxL ret ws rm mc ms na ∧ (Cond.static y).before args s = true) (hK : gK D ty s) (hE : gE b strs A tE s s.heap)
    (hP1 : ∀ H, P H → P1 H) (hn : As.length = na) (hcat : (st.map fun v => v.category).sum ≤ 8) (hdg : decode cc pc = .ok (.invokestatic index, 3)) (hf : k + mc ≤ R.cells ∧ n + ms ≤ R.slots)
    (kk : gW p l e R s m args below meth c A Q nL P2 (k + mc) (n + ms) (pc + 3) lv (v :: st)) : gW p l e R s m args below meth c A Q nL P k n pc lv (As.reverse ++ st) :=
  g_callS S hM cw hK hE hP1 hn hcat hdg hf (fun r => g_and (fun H h => h) (fun hr => by subst hr; exact kk))
theorem g_cSv (S : CallFix p m c cc nL s args Ts own) (hM : Met l y ws rm (gPc D ty b strs tE A As P1) (gQ A (gRet none P2)) mc ms A) (cw : CallB R s args own index y bytes maxL ret ws rm mc ms na ∧ (Cond.static y).before args s = true) (hK : gK D ty s) (hE : gE b strs A tE s s.heap)
    (hP1 : ∀ H, P H → P1 H) (hn : As.length = na) (hcat : (st.map fun v => v.category).sum ≤ 8) (hdg : decode cc pc = .ok (.invokestatic index, 3)) (hf : k + mc ≤ R.cells ∧ n + ms ≤ R.slots)
    (kk : gW p l e R s m args below meth c A Q nL P2 (k + mc) (n + ms) (pc + 3) lv st) : gW p l e R s m args below meth c A Q nL P k n pc lv (As.reverse ++ st) :=
  g_callS S hM cw hK hE hP1 hn hcat hdg hf (fun r => g_and (fun H h => h) (fun hr => by subst hr; exact kk))
theorem g_cIv (S : CallFix p m c cc nL s args Ts own) (hM : Met l y ws rm (gPc D ty b strs tE A (.ref b0 :: As) P1) (gQ A (gRet none P2)) mc ms A) (cw : CallB R s args own index y bytes maxL none ws rm mc ms na ∧ y.name = "<init>" ∧ (Cond.instanceMethod y).before args s = true) (hK : gK D ty s) (hE : gE b strs A tE s s.heap)
    (hP1 : ∀ H, P H → P1 H) (hn : As.length = na) (hcat : (st.map fun v => v.category).sum ≤ 8) (hdg : decode cc pc = .ok (.invokespecial index, 3)) (hf : k + mc ≤ R.cells ∧ n + ms ≤ R.slots)
    (kk : gW p l e R s m args below meth c A Q nL P2 (k + mc) (n + ms) (pc + 3) lv st) : gW p l e R s m args below meth c A Q nL P k n pc lv (As.reverse ++ .ref b0 :: st) :=
  g_callI S hM cw hK hE hP1 hn hcat hdg hf (fun r => g_and (fun H h => h) (fun hr => by subst hr; exact kk))
end CR
theorem g_ifb_eq (S : CallFix p m c cc nL s args Ts own) {b : Bool} {off : Int} {tgt : Nat} (hdg : decode cc pc = .ok (.ifCond .eq off, 3)) (ht : (pc : Int) + off = (tgt : Int))
    (kt : b = false → gW p l e R s m args below meth c A Q nL P k n tgt lv st) (kf : b = true → gW p l e R s m args below meth c A Q nL P k n (pc + 3) lv st) : gW p l e R s m args below meth c A Q nL P k n pc lv (.int (b2 b) :: st) := g_if_eq S hdg ht (fun z => kt (b2_0.mp z)) (fun z => kf (by cases b <;> simp_all [b2_0]))
theorem g_ifb_ne (S : CallFix p m c cc nL s args Ts own) {b : Bool} {off : Int} {tgt : Nat} (hdg : decode cc pc = .ok (.ifCond .ne off, 3)) (ht : (pc : Int) + off = (tgt : Int))
    (kt : b = true → gW p l e R s m args below meth c A Q nL P k n tgt lv st) (kf : b = false → gW p l e R s m args below meth c A Q nL P k n (pc + 3) lv st) : gW p l e R s m args below meth c A Q nL P k n pc lv (.int (b2 b) :: st) := g_if_ne S hdg ht (fun z => kt (by cases b <;> simp_all [b2_0])) (fun z => kf (b2_0.mp z))
theorem g_tableIn (S : CallFix p m c cc nL s args Ts own) {dflt lo hi : Int} {offs : Array Int} {len : Nat} {x : Int32} {off : Int} {tgt : Nat} (hdg : decode cc pc = .ok (.tableswitch dflt lo hi offs, len)) (h1 : ¬ x.toInt < lo) (h2 : ¬ hi < x.toInt) (ho : offs[(x.toInt - lo).toNat]? = some off) (ht : (pc : Int) + off = (tgt : Int))
    (kk : gW p l e R s m args below meth c A Q nL P k n tgt lv st) : gW p l e R s m args below meth c A Q nL P k n pc lv (.int x :: st) := fun H locs ls hP hS hl => lv_tableIn S.1 S.2.1 hdg h1 h2 ho ht (kk H locs ls hP hS hl)
theorem g_tableOut (S : CallFix p m c cc nL s args Ts own) {dflt lo hi : Int} {offs : Array Int} {len : Nat} {x : Int32} {tgt : Nat} (hdg : decode cc pc = .ok (.tableswitch dflt lo hi offs, len)) (h : x.toInt < lo ∨ hi < x.toInt) (ht : (pc : Int) + dflt = (tgt : Int))
    (kk : gW p l e R s m args below meth c A Q nL P k n tgt lv st) : gW p l e R s m args below meth c A Q nL P k n pc lv (.int x :: st) := fun H locs ls hP hS hl => lv_tableOut S.1 S.2.1 hdg h ht (kk H locs ls hP hS hl)
end MR
