/-! lists that grow -/
def cfl (el : Nat → Nat → Nat) (a : CS) (j : Nat) : Nat → Option Nat := fun x => if x < cL a j then some (el (lkd j) x) else none
def zU (z : kZ) (j N q : Nat) : kZ := (z.1, fun x => if x = j then N else z.2.1 x, fun x => if x = j then q else z.2.2 x)
def zM (z : kZ) (j : Nat) (v : Int32) : kZ := (fun x => if x = j then v else z.1 x, z.2.1, z.2.2)
/-- beside all that z says, a row of references at q that belongs to no list -/
def hCq (D : va_G) (ty : Nat → ClassId) (A : Nat → Prop) (tE : Nat) (el : Nat → Nat → Nat) (a : CS) (z : kZ) (q N : Nat) (f : Nat → Option Nat) : Heap → Prop := fun H => hC9 D ty A tE el a z H ∧ va_at D vwCl (q, .inl (ty 3, N, .inr (.inr (.inr (.inr (f)))))) H ∧ A q ∧ ∀ j i, cown a z.2.1 j i → cadr el z.2.2 j i ≠ q
/-- as z says, but that list j's row holds f -/
def hC9x (D : va_G) (ty : Nat → ClassId) (A : Nat → Prop) (tE : Nat) (el : Nat → Nat → Nat) (a : CS) (z : kZ) (j : Nat) (f : Nat → Option Nat) : Heap → Prop := fun H =>
  (∀ j' i, cown a z.2.1 j' i → va_at D vwCl (cadr el z.2.2 j' i, if j' = 10 ∧ i = j then .inl (ty 3, z.2.1 j, .inr (.inr (.inr (.inr (f))))) else cent ty tE el a z.1 z.2.1 z.2.2 j' i) H ∧ A (cadr el z.2.2 j' i)) ∧ (∀ j i j' i', cown a z.2.1 j i → cown a z.2.1 j' i' → cadr el z.2.2 j i = cadr el z.2.2 j' i' → j = j' ∧ i = i') ∧ ∀ i, i < 4 → cL a i ≤ z.2.1 i ∧ z.2.1 i ≤ 200 ∧ cL a i ≤ cN a (lkd i)
section HQ
variable {D : va_G} {ty : Nat → ClassId} {A : Nat → Prop} {tE : Nat} {el : Nat → Nat → Nat} {a : CS} {z : kZ} {q N : Nat} {f : Nat → Option Nat} {H H1 : Heap}
theorem hCq_new (h : hC9 D ty A tE el a z H) (hat : va_at D vwCl (H.size, .inl (ty 3, N, .inr (.inr (.inr (.inr (f)))))) H1) (oq : ∀ q : Nat, q < H.size → H1[q]? = H[q]?) (hA : A H.size) : hCq D ty A tE el a z H.size N f H1 := by
  obtain ⟨g1, g2, g3⟩ := h
  exact ⟨⟨fun j i ho => ⟨(g1 j i ho).1.kept (oq _ (g1 j i ho).1.lt), (g1 j i ho).2⟩, g2, g3⟩, hat, hA, fun j i ho => Nat.ne_of_lt (g1 j i ho).1.lt⟩
theorem hCq_set {f' : Nat → Option Nat} (h : hCq D ty A tE el a z q N f H) (hat : va_at D vwCl (q, .inl (ty 3, N, .inr (.inr (.inr (.inr (f')))))) H1) (oq : ∀ x : Nat, x ≠ q → H1[x]? = H[x]?) : hCq D ty A tE el a z q N f' H1 := by
  obtain ⟨⟨g1, g2, g3⟩, -, hA, hn⟩ := h
  exact ⟨⟨fun j i ho => ⟨(g1 j i ho).1.kept (oq _ (hn j i ho)), (g1 j i ho).2⟩, g2, g3⟩, hat, hA, hn⟩
theorem hC9_row {j : Nat} (hj : j < 4) (h0 : 0 < z.2.1 j) (h : hC9 D ty A tE el a z H) : va_at D vwCl (z.2.2 j, .inl (ty 3, z.2.1 j, .inr (.inr (.inr (.inr (cfl el a j)))))) H := (h.1 10 j (Or.inr (Or.inr (Or.inr (Or.inr ⟨rfl, hj, h0⟩))))).1
theorem hC9_rowA {j : Nat} (hj : j < 4) (h0 : 0 < z.2.1 j) (h : hC9 D ty A tE el a z H) : A (z.2.2 j) := (h.1 10 j (Or.inr (Or.inr (Or.inr (Or.inr ⟨rfl, hj, h0⟩))))).2
theorem hC9_lA {j : Nat} (hj : j < 4) (h : hC9 D ty A tE el a z H) : A (el 0 j) := (h.1 0 j (Or.inl ⟨rfl, hj⟩)).2
theorem cown0 {a : CS} {cp : Nat → Nat} {j : Nat} (hj : j < 4) : cown a cp 0 j := Or.inl ⟨rfl, hj⟩
theorem cent0 {md : Nat → Int32} {cp ea : Nat → Nat} {i : Nat} : cent ty tE el a md cp ea 0 i = .inr (0, [.int (md i), .ref (if cp i = 0 then tE else ea i), .int (nI (cL a i))]) := rfl
theorem cent10 {md : Nat → Int32} {cp ea : Nat → Nat} {i : Nat} : cent ty tE el a md cp ea 10 i = .inl (ty 3, cp i, .inr (.inr (.inr (.inr (cfl el a i))))) := rfl
theorem cent_o {a' : CS} {md md' : Nat → Int32} {cp cp' ea ea' : Nat → Nat} {j i : Nat} (h0 : j ≠ 0) (h10 : j ≠ 10) (e1 : a'.2.2.2.1 = a.2.2.2.1) (e2 : a'.2.2.2.2.1 = a.2.2.2.2.1) (e3 : cfs el a' j i = cfs el a j i) : cent ty tE el a' md' cp' ea' j i = cent ty tE el a md cp ea j i := by
  unfold cent
  rw [if_neg h0, if_neg h0, if_neg h10, if_neg h10, e1, e2, e3]
/-- the list's own cell changes: its count of changes -/
theorem hC9_md {j : Nat} {v : Int32} (hj : j < 4) (h : hC9 D ty A tE el a z H) (hat : va_at D vwCl (el 0 j, .inr (0, [.int v, .ref (if z.2.1 j = 0 then tE else z.2.2 j), .int (nI (cL a j))])) H1) (oq : ∀ x : Nat, x ≠ el 0 j → H1[x]? = H[x]?) : hC9 D ty A tE el a (zM z j v) H1 := by
  obtain ⟨g1, g2, g3⟩ := h
  refine ⟨fun j' i ho => ?_, g2, g3⟩
  obtain ⟨f1, f2⟩ := g1 j' i ho
  refine ⟨?_, f2⟩
  by_cases hs : j' = 0 ∧ i = j
  · obtain ⟨rfl, rfl⟩ := hs
    have e : cent ty tE el a (zM z i v).1 (zM z i v).2.1 (zM z i v).2.2 0 i = .inr (0, [.int v, .ref (if z.2.1 i = 0 then tE else z.2.2 i), .int (nI (cL a i))]) := by
      rw [cent0]
      show Sum.inr (0, [Value.int (if i = i then v else z.1 i), .ref (if z.2.1 i = 0 then tE else z.2.2 i), .int (nI (cL a i))]) = _
      rw [if_pos rfl]
    rw [e]
    exact hat
  · have e : cent ty tE el a (zM z j v).1 (zM z j v).2.1 (zM z j v).2.2 j' i = cent ty tE el a z.1 z.2.1 z.2.2 j' i := by
      by_cases h0 : j' = 0
      · subst h0
        have : i ≠ j := fun q => hs ⟨rfl, q⟩
        rw [cent0, cent0]
        show Sum.inr (0, [Value.int (if i = j then v else z.1 i), .ref (if z.2.1 i = 0 then tE else z.2.2 i), .int (nI (cL a i))]) = _
        rw [if_neg this]
      · by_cases h10 : j' = 10
        · subst h10; rfl
        · exact cent_o h0 h10 rfl rfl rfl
    rw [e]
    refine f1.kept (oq _ (fun q => hs ?_))
    exact g2 j' i 0 j ho (cown0 hj) q
/-- the list takes the row at q for its own -/
theorem hCq_put {j : Nat} (hj : j < 4) (hN : 0 < N) (hN2 : N ≤ 200) (hL : cL a j ≤ N) (h : hCq D ty A tE el a z q N (cfl el a j) H) (hat : va_at D vwCl (el 0 j, .inr (0, [.int (z.1 j), .ref q, .int (nI (cL a j))])) H1) (oq : ∀ x : Nat, x ≠ el 0 j → H1[x]? = H[x]?) : hC9 D ty A tE el a (zU z j N q) H1 := by
  obtain ⟨⟨g1, g2, g3⟩, hq, hA, hn⟩ := h
  have own' : ∀ {j' i : Nat}, ¬ (j' = 10 ∧ i = j) → cown a (zU z j N q).2.1 j' i → cown a z.2.1 j' i := by
    intro j' i hs ho
    rcases ho with h | h | h | h | ⟨h1, h2, h3⟩
    · exact Or.inl h
    · exact Or.inr (Or.inl h)
    · exact Or.inr (Or.inr (Or.inl h))
    · exact Or.inr (Or.inr (Or.inr (Or.inl h)))
    · refine Or.inr (Or.inr (Or.inr (Or.inr ⟨h1, h2, ?_⟩)))
      have : i ≠ j := fun q => hs ⟨h1, q⟩
      have h4 : 0 < (if i = j then N else z.2.1 i) := h3
      rwa [if_neg this] at h4
  have ad' : ∀ {j' i : Nat}, ¬ (j' = 10 ∧ i = j) → cadr el (zU z j N q).2.2 j' i = cadr el z.2.2 j' i := by
    intro j' i hs
    unfold cadr
    by_cases h10 : j' = 10
    · have : i ≠ j := fun q => hs ⟨h10, q⟩
      rw [if_pos h10, if_pos h10]
      exact if_neg this
    · rw [if_neg h10, if_neg h10]
  have adq : cadr el (zU z j N q).2.2 10 j = q := by
    show (if j = j then q else z.2.2 j) = q
    rw [if_pos rfl]
  have nq : el 0 j ≠ q := hn 0 j (cown0 hj)
  refine ⟨fun j' i ho => ?_, fun x y x' y' hx hy hxy => ?_, fun i hi => ?_⟩
  · by_cases hs : j' = 10 ∧ i = j
    · obtain ⟨rfl, rfl⟩ := hs
      rw [adq]
      refine ⟨?_, hA⟩
      have e : cent ty tE el a (zU z i N q).1 (zU z i N q).2.1 (zU z i N q).2.2 10 i = .inl (ty 3, N, .inr (.inr (.inr (.inr (cfl el a i))))) := by
        rw [cent10]; simp [zU]
      rw [e]
      exact hq.kept (oq _ (fun w => nq w.symm))
    · have ho' := own' hs ho
      obtain ⟨f1, f2⟩ := g1 j' i ho'
      rw [ad' hs]
      refine ⟨?_, f2⟩
      by_cases h0 : j' = 0 ∧ i = j
      · obtain ⟨rfl, rfl⟩ := h0
        have e : cent ty tE el a (zU z i N q).1 (zU z i N q).2.1 (zU z i N q).2.2 0 i = .inr (0, [.int (z.1 i), .ref q, .int (nI (cL a i))]) := by
          rw [cent0]; simp [zU]; omega
        rw [e]
        exact hat
      · have e : cent ty tE el a (zU z j N q).1 (zU z j N q).2.1 (zU z j N q).2.2 j' i = cent ty tE el a z.1 z.2.1 z.2.2 j' i := by
          by_cases h00 : j' = 0
          · subst h00
            have : i ≠ j := fun w => h0 ⟨rfl, w⟩
            rw [cent0, cent0]; simp [zU, this]
          · by_cases h10 : j' = 10
            · subst h10
              have : i ≠ j := fun w => hs ⟨rfl, w⟩
              rw [cent10, cent10]; simp [zU, this]
            · exact cent_o h00 h10 rfl rfl rfl
        rw [e]
        exact f1.kept (oq _ (fun w => h0 (g2 j' i 0 j ho' (cown0 hj) w)))
  · by_cases hs : x = 10 ∧ y = j <;> by_cases hs' : x' = 10 ∧ y' = j
    · exact ⟨hs.1.trans hs'.1.symm, hs.2.trans hs'.2.symm⟩
    · rw [ad' hs', hs.1, hs.2, adq] at hxy
      exact absurd hxy.symm (hn _ _ (own' hs' hy))
    · rw [ad' hs, hs'.1, hs'.2, adq] at hxy
      exact absurd hxy (hn _ _ (own' hs hx))
    · rw [ad' hs, ad' hs'] at hxy
      exact g2 x y x' y' (own' hs hx) (own' hs' hy) hxy
  · obtain ⟨f1, f2, f3⟩ := g3 i hi
    refine ⟨?_, ?_, f3⟩
    · show cL a i ≤ (if i = j then N else z.2.1 i)
      split
      · rename_i w; rw [w]; exact hL
      · exact f1
    · show (if i = j then N else z.2.1 i) ≤ 200
      split
      · exact hN2
      · exact f2
theorem hC9x_of {j : Nat} (hj : j < 4) (h0 : 0 < z.2.1 j) (h : hC9 D ty A tE el a z H) (hat : va_at D vwCl (z.2.2 j, .inl (ty 3, z.2.1 j, .inr (.inr (.inr (.inr (f)))))) H1) (oq : ∀ x : Nat, x ≠ z.2.2 j → H1[x]? = H[x]?) : hC9x D ty A tE el a z j f H1 := by
  obtain ⟨g1, g2, g3⟩ := h
  have o10 : cown a z.2.1 10 j := Or.inr (Or.inr (Or.inr (Or.inr ⟨rfl, hj, h0⟩)))
  refine ⟨fun j' i ho => ?_, g2, g3⟩
  obtain ⟨f1, f2⟩ := g1 j' i ho
  refine ⟨?_, f2⟩
  by_cases hs : j' = 10 ∧ i = j
  · rw [if_pos hs, hs.1, hs.2]
    exact hat
  · rw [if_neg hs]
    exact f1.kept (oq _ (fun w => hs (g2 j' i 10 j ho o10 w)))
theorem hC9x_at {j : Nat} (hj : j < 4) (h : hC9x D ty A tE el a z j f H) : va_at D vwCl (el 0 j, .inr (0, [.int (z.1 j), .ref (if z.2.1 j = 0 then tE else z.2.2 j), .int (nI (cL a j))])) H := by
  have := (h.1 0 j (cown0 hj)).1
  rw [if_neg (by omega)] at this
  exact this
theorem hC9x_A {j : Nat} (hj : j < 4) (h : hC9x D ty A tE el a z j f H) : A (el 0 j) := (h.1 0 j (cown0 hj)).2
theorem cfl_up {j : Nat} {el : Nat → Nat → Nat} {a : CS} : va_up (cfl el a j) (cL a j) (some (el (lkd j) (cL a j))) = cfl el (cSL a j (cL a j + 1)) j := by
  have e : cL (cSL a j (cL a j + 1)) j = cL a j + 1 := if_pos rfl
  funext x
  unfold va_up cfl
  rw [e]
  by_cases h : x = cL a j
  · subst h
    rw [if_pos rfl, if_pos (Nat.lt_succ_self _)]
  · rw [if_neg h]
    by_cases h2 : x < cL a j
    · rw [if_pos h2, if_pos (by omega)]
    · rw [if_neg h2, if_neg (by omega)]
theorem hC9x_put {j : Nat} (hj : j < 4) (h0 : cL a j < z.2.1 j) (hn : cL a j < cN a (lkd j)) (h : hC9x D ty A tE el a z j (va_up (cfl el a j) (cL a j) (some (el (lkd j) (cL a j)))) H)
    (hat : va_at D vwCl (el 0 j, .inr (0, [.int (z.1 j), .ref (if z.2.1 j = 0 then tE else z.2.2 j), .int (nI (cL a j + 1))])) H1) (oq : ∀ x : Nat, x ≠ el 0 j → H1[x]? = H[x]?) : hC9 D ty A tE el (cSL a j (cL a j + 1)) z H1 := by
  obtain ⟨g1, g2, g3⟩ := h
  have eL : ∀ i, cL (cSL a j (cL a j + 1)) i = if i = j then cL a j + 1 else cL a i := fun i => rfl
  refine ⟨fun j' i ho => ?_, g2, fun i hi => ?_⟩
  · obtain ⟨f1, f2⟩ := g1 j' i ho
    refine ⟨?_, f2⟩
    by_cases hs : j' = 10 ∧ i = j
    · rw [if_pos hs, cfl_up] at f1
      obtain ⟨rfl, rfl⟩ := hs
      rw [cent10]
      exact f1.kept (oq _ (fun w => by
        have := (g2 10 i 0 i ho (cown0 hj) w).1
        omega))
    · rw [if_neg hs] at f1
      by_cases h00 : j' = 0 ∧ i = j
      · obtain ⟨rfl, rfl⟩ := h00
        rw [cent0, eL, if_pos rfl]
        exact hat
      · have e : cent ty tE el (cSL a j (cL a j + 1)) z.1 z.2.1 z.2.2 j' i = cent ty tE el a z.1 z.2.1 z.2.2 j' i := by
          by_cases k0 : j' = 0
          · subst k0
            have : i ≠ j := fun w => h00 ⟨rfl, w⟩
            rw [cent0, cent0, eL, if_neg this]
          · by_cases h10 : j' = 10
            · subst h10
              have : i ≠ j := fun w => hs ⟨rfl, w⟩
              rw [cent10, cent10]
              unfold cfl
              rw [eL, if_neg this]
            · exact cent_o k0 h10 rfl rfl rfl
        rw [e]
        exact f1.kept (oq _ (fun w => h00 (g2 j' i 0 j ho (cown0 hj) w)))
  · obtain ⟨f1, f2, f3⟩ := g3 i hi
    refine ⟨?_, f2, ?_⟩
    · rw [eL]
      split
      · rename_i w; rw [w]; exact h0
      · exact f1
    · show cL (cSL a j (cL a j + 1)) i ≤ cN a (lkd i)
      rw [eL]
      split
      · rename_i w; rw [w]; exact hn
      · exact f3
end HQ
/-- the state knows the class object of rows of objects -/
def gPm (D : va_G) (ty : Nat → ClassId) (b : Bool) (strs : List (Nat × String)) (tE : Nat) (A : Nat → Prop) (mi : Nat) (av : List Value) (P : Heap → Prop) : Array Value → State → Prop := fun v U => gPc D ty b strs tE A av P v U ∧ va_Mi "[Ljava/lang/Object;" mi U
theorem gPm_blind {D : va_G} {ty : Nat → ClassId} {b : Bool} {strs : List (Nat × String)} {tE : Nat} {A : Nat → Prop} {mi : Nat} {av : List Value} {P : Heap → Prop} : FrameBlind (gPm D ty b strs tE A mi av P) := by
  intro a U g mk q
  exact ⟨gPc_blind a U g mk q.1, va_Mi.moved (u := U) (U := U.calling g mk a) (State.WarmedH.refl U).alike q.2⟩
theorem gPm_at {D : va_G} {ty : Nat → ClassId} {b : Bool} {strs : List (Nat × String)} {tE : Nat} {A : Nat → Prop} {mi : Nat} {av : List Value} {P : Heap → Prop} {s : State} {H : Heap} {locs : List Loc} (hK : gK D ty s) (hE : gE b strs A tE s s.heap) (hM : va_Mi "[Ljava/lang/Object;" mi s) (hP : P H) (hS : va_S A s.heap H locs) : ∀ U : State, U.heap = H → s.WarmedH U.vm → gPm D ty b strs tE A mi av P av.toArray U :=
  fun U hU hW => ⟨gPc_at hK hE hP hS U hU hW, hM.moved hW.alike⟩
section CLM
variable {p : Program} {l : Launch} {e : Env} {R : Room} {s : State} {m : MethodId} {args : Array Value} {below : List Frame} {meth : Method} {c : Code} {A : Nat → Prop} {Q : State → Prop} {nL : Nat} {k n : Nat} {pc : Nat} {lv : List (Option Value)} {st : List Value} {P : Heap → Prop}
variable {cc : ByteArray} {Ts : List Cond} {own : String} {D : va_G} {ty : Nat → ClassId} {tE : Nat} {el : Nat → Nat → Nat} {a : CS} {strs : List (Nat × String)}
theorem g_callSm {b : Bool} {y : MethodName} {bytes : ByteArray} {maxL mc ms na index mi : Nat} {ret : Option FieldType} {ws : List Cond} {rm : Room} {P1 : Heap → Prop} {Post : Option Value → Heap → Prop} {As : List Value} (S : CallFix p m c cc nL s args Ts own) (hM : Met l y ws rm (gPm D ty b strs tE A mi As P1) (gQ A Post) mc ms A) (cw : CallB R s args own index y bytes maxL ret ws rm mc ms na ∧ (Cond.static y).before args s = true) (hK : gK D ty s) (hE : gE b strs A tE s s.heap) (hMi : va_Mi "[Ljava/lang/Object;" mi s)
    (hP1 : ∀ H, P H → P1 H) (hn : As.length = na) (hcat : (st.map fun v => v.category).sum ≤ 8) (hdg : decode cc pc = .ok (.invokestatic index, 3)) (hf : k + mc ≤ R.cells ∧ n + ms ≤ R.slots)
    (kk : ∀ r : Option Value, gW p l e R s m args below meth c A Q nL (Post r) (k + mc) (n + ms) (pc + 3) lv (r.toList ++ st)) : gW p l e R s m args below meth c A Q nL P k n pc lv (As.reverse ++ st) :=
  g_call (fun H locs ls hP hS hl => va_runS S hM cw ⟨gPm_blind, gPm_at hK hE hMi (hP1 H hP) hS⟩ rfl hn (gl_size hl) rfl (lv_room hcat) hdg hf) kk
theorem g_MetM {l : Launch} {D : va_G} {ty : Nat → ClassId} {b : Bool} {strs : List (Nat × String)} {tE mi : Nat} {A : Nat → Prop} {av : List Value} {P : Heap → Prop} {Post : Option Value → Heap → Prop} {mc ms : Nat} {y : MethodName} {ws ws' : List Cond} {rm : Room} {cc : ByteArray} {maxL : Nat} {ret : Option FieldType} (lv : List (Option Value))
    (hy : plainName y.cls = true) (hw : ws = Cond.code y cc maxL ret :: ws') (hle : (gl_ent av).length ≤ maxL) (hlv : gl_ent av ++ List.replicate (maxL - (gl_ent av).length) none = lv)
    (body : ∀ (p : Program) (e : Env) (s : State) (m : MethodId) (args : Array Value) (below : List Frame) (meth : Method) (c : Code), CallFix p m c cc maxL s args ws y.cls → meth.locks = false → meth.sig.returnType = ret → meth.name = y.name → gK D ty s → gE b strs A tE s s.heap → va_Mi "[Ljava/lang/Object;" mi s → P s.heap →
      gW p l e (headSpec ws rm).room s m args below meth c A (gR below A args s mc ms Post) maxL P 0 0 0 lv []) : Met l y ws rm (gPm D ty b strs tE A mi av P) (gQ A Post) mc ms A := by
  refine Met.ofW (cc := cc) (maxL := maxL) (ret := ret) hy hw ?_
  intro p e s m args below meth c s₁ B hml hv
  obtain ⟨⟨rfl, hP, hK, hE⟩, hMi⟩ := hv
  rw [lg_entry_eq]
  exact body p e s m _ below meth c ⟨B.exec, B.bytes, hml, findClass_of_methodNamed B.named, atoms_spec (ws := ws) B.pre⟩ B.notSynchronized B.returns (name_of_methodNamed B.named B.method).1 hK hE hMi hP s.heap [] _ hP va_S.rf (gl_entry hle hlv)
/-- fields told by a heir's name -/
theorem k0_getM (S : CallFix p m c cc nL s args Ts own) (hK : gK D ty s) {z : kZ} {index j : Nat} (hj : j < 4) (hlink : (Cond.fieldLink own index "java/util/ArrayList" "modCount" "I").before args s = true) (hsame : (Cond.sameField "java/util/ArrayList" "java/util/AbstractList" "modCount" "I").before args s = true) (hdg : decode cc pc = .ok (.getfield index, 3))
    (kk : gW p l e R s m args below meth c A Q nL (hC9 D ty A tE el a z) k n (pc + 3) lv (.int (z.1 j) :: st)) : gW p l e R s m args below meth c A Q nL (hC9 D ty A tE el a z) k n pc lv (.ref (el 0 j) :: st) := fun H locs ls hP hS hl =>
  va_get (ws := [(el 0 j, .inr (0, [.int (z.1 j), .ref (if z.2.1 j = 0 then tE else z.2.2 j), .int (nI (cL a j))]))]) S.1 S.2.1 (ref := "java/util/ArrayList") (C := RJx4a65c) (T := TJx4a65c) (N := 3) (Ts := u_ws RJx4a65c TJx4a65c 3) (fun w hw => hK.2 0 _ rfl w hw args) (fun _ h => h) S.2.2.2.1 hK.1 (g_P1 (hC9_at hj H hP)) 0 rfl rfl 0 (by decide) hlink (fun x9 h9 => u_same hsame x9 h9) rfl hdg (kk H locs ls hP hS hl)
theorem k0_putM (S : CallFix p m c cc nL s args Ts own) (hK : gK D ty s) {z : kZ} {index j : Nat} {v : Int32} (hj : j < 4) (hlink : (Cond.fieldLink own index "java/util/ArrayList" "modCount" "I").before args s = true) (hsame : (Cond.sameField "java/util/ArrayList" "java/util/AbstractList" "modCount" "I").before args s = true) (hdg : decode cc pc = .ok (.putfield index, 3))
    (kk : gW p l e R s m args below meth c A Q nL (hC9 D ty A tE el a (zM z j v)) k n (pc + 3) lv st) : gW p l e R s m args below meth c A Q nL (hC9 D ty A tE el a z) k n pc lv (.int v :: .ref (el 0 j) :: st) := by
  intro H locs ls hP hS hL
  have hts : ∀ w ∈ u_ws RJx4a65c TJx4a65c 3, w.before args s = true := fun w hw => hK.2 0 _ rfl w hw args
  have hin : ∀ w ∈ u_ws RJx4a65c TJx4a65c 3, w ∈ u_ws RJx4a65c TJx4a65c 3 := fun _ h => h
  have hap := va_apart (own := own) (ci := 0) hts hin tyJx4a65c tyJx4a65c_ok nmJx4a65c hK.1 rfl
  obtain ⟨r, h1, cell, q1, q2, q3, q4⟩ := hC9_at hj H hP
  have hr : r = (RJx4a65c, TJx4a65c, 3) := Option.some.inj (h1.symm.trans rfl)
  subst hr
  obtain ⟨hSl, hfc, kC, hkC, hkind⟩ := hK.1.1 0 _ rfl
  obtain ⟨cf, kf, fi, f, hi, hsl⟩ := hSl 0 (by decide)
  have hst := (u_facts hfc hkC (u_lays hts hin (by decide)) hi).1
  have hlay := hts _ (hin _ (u_in_lay (C := RJx4a65c) (T := TJx4a65c) (N := 3) (k := 0) (by decide)))
  unfold u_lay at hlay
  rw [if_neg (by decide)] at hlay
  have h6 := u_store (v := .int v) hfc hkC hkind hlay hi (tyJx4a65c_ok 0 (by decide)) rfl rfl
  refine W.putK S.1 S.2.1 (f := f) ⟨S.2.2.2.1, hlink, ⟨_, _, _, u_same hsame _ hi⟩, hst⟩ (by rw [q2]; exact h6) q1 q3 (by rw [hsl]; exact k2_hasslot (q4 0 (by decide))) rfl rfl hdg fun H1 e1 e2 e3 => ?_
  rw [hsl] at e1 ⊢
  refine kk H1 _ ls (hC9_md hj hP ⟨_, rfl, t_OB.to (V := updV (vp_V _) 0 (.int v)) ⟨_, e1, q2, q3, t_set q4 hap (by decide) (.int v)⟩ (fun i _ => vp_updV_set (Nat.zero_lt_succ _) (.int v) i)⟩ e3) (hS.put e2 e3 (hC9_lA hj hP)) hL
theorem k0_putE (S : CallFix p m c cc nL s args Ts own) (hK : gK D ty s) {z : kZ} {index j q N : Nat} (hj : j < 4) (hN : 0 < N) (hN2 : N ≤ 200) (hL : cL a j ≤ N) (hlink : (Cond.fieldLink own index (TJx4a65c 1).1 (TJx4a65c 1).2.1 (TJx4a65c 1).2.2.1).before args s = true) (hdg : decode cc pc = .ok (.putfield index, 3))
    (kk : gW p l e R s m args below meth c A Q nL (hC9 D ty A tE el a (zU z j N q)) k n (pc + 3) lv st) : gW p l e R s m args below meth c A Q nL (hCq D ty A tE el a z q N (cfl el a j)) k n pc lv (.ref q :: .ref (el 0 j) :: st) :=
  g_putf S hK (C := RJx4a65c) (T := TJx4a65c) (N := 3) (j := 1) (P' := hC9 D ty A tE el a (zU z j N q)) tyJx4a65c tyJx4a65c_ok nmJx4a65c (fun H h => hC9_at hj H h.1) (fun H h => hC9_lA hj h.1) (fun H H1 hP hat _ oq => hCq_put hj hN hN2 hL hP hat oq) rfl (by decide) hlink (Or.inl rfl) rfl rfl (Nat.le_of_ble_eq_true rfl) hdg kk
theorem k0_putS (S : CallFix p m c cc nL s args Ts own) (hK : gK D ty s) {z : kZ} {index j : Nat} {v : Int32} (hj : j < 4) (h0 : cL a j < z.2.1 j) (hn : cL a j < cN a (lkd j)) (hv : v = nI (cL a j + 1)) (hlink : (Cond.fieldLink own index (TJx4a65c 2).1 (TJx4a65c 2).2.1 (TJx4a65c 2).2.2.1).before args s = true) (hdg : decode cc pc = .ok (.putfield index, 3))
    (kk : gW p l e R s m args below meth c A Q nL (hC9 D ty A tE el (cSL a j (cL a j + 1)) z) k n (pc + 3) lv st) : gW p l e R s m args below meth c A Q nL (hC9x D ty A tE el a z j (va_up (cfl el a j) (cL a j) (some (el (lkd j) (cL a j))))) k n pc lv (.int v :: .ref (el 0 j) :: st) := by
  subst hv
  exact g_putf S hK (C := RJx4a65c) (T := TJx4a65c) (N := 3) (j := 2) (P' := hC9 D ty A tE el (cSL a j (cL a j + 1)) z) tyJx4a65c tyJx4a65c_ok nmJx4a65c (fun H h => hC9x_at hj h) (fun H h => hC9x_A hj h) (fun H H1 hP hat _ oq => hC9x_put hj h0 hn hP hat oq) rfl (by decide) hlink (Or.inl rfl) rfl rfl (Nat.le_of_ble_eq_true rfl) hdg kk
end CLM
theorem nI_growB : ∀ n : Nat, n < 100 → 0 < n → ¬ nI n + (if nI (n + 1) - nI n < nI n >>> ((1 : Int32) &&& 31) then nI n >>> ((1 : Int32) &&& 31) else nI (n + 1) - nI n) ≤ 0 ∧ ¬ (2147483639 : Int32) < nI n + (if nI (n + 1) - nI n < nI n >>> ((1 : Int32) &&& 31) then nI n >>> ((1 : Int32) &&& 31) else nI (n + 1) - nI n) ∧ nI n + (if nI (n + 1) - nI n < nI n >>> ((1 : Int32) &&& 31) then nI n >>> ((1 : Int32) &&& 31) else nI (n + 1) - nI n) = nI (n + max 1 (n / 2)) := by decide +kernel
abbrev rmJ8_newLength_cabcc : Room := { frames := 1, cells := 0, slots := 0, locals := 40 }
set_option maxHeartbeats 1500000 in
set_option maxRecDepth 100000 in
theorem k_newLength (l : Launch) (D : va_G) (ty : Nat → ClassId) (A : Nat → Prop) (tE : Nat) (el : Nat → Nat → Nat) (a : CS) (P : Heap → Prop) (a9 x1 x2 : Int32) (h0 : ¬ a9 + (if x1 < x2 then x2 else x1) ≤ 0) (h1 : ¬ (2147483639 : Int32) < a9 + (if x1 < x2 then x2 else x1)) : Met l yJ8_newLength_cabcc wsJ8_newLength_cabcc rmJ8_newLength_cabcc (gPc D ty true cstrs tE A [.int a9, .int x1, .int x2] P) (gQ A (gRet (some (.int (a9 + (if x1 < x2 then x2 else x1)))) P)) 0 0 A := by
  refine g_Met (cc := cJ8_newLength_cabcc) (maxL := 4) (ret := (some .int)) [some (.int a9), some (.int x1), some (.int x2), none] (by decide) rfl (Nat.le_of_ble_eq_true rfl) rfl ?_
  intro p e s m args below meth c S hlk hr hnm hK hE hP0
  have S : CallFix p m c cJ8_newLength_cabcc 4 s args wsJ8_newLength_cabcc RJ8 := S
  refine g_iload_n S dJ8_newLength_cabcc_0 rfl ?_
  refine g_iload_n S dJ8_newLength_cabcc_1 rfl ?_
  refine g_iload_n S dJ8_newLength_cabcc_2 rfl ?_
  refine g_mmax S (S.2.2.2.2 _ (List.mem_of_getElem? (i := 1) rfl)) (S.2.2.2.2 _ (List.mem_of_getElem? (i := 2) rfl)) (S.2.2.2.2 _ (List.mem_of_getElem? (i := 3) rfl)) (S.2.2.2.2 _ (List.mem_of_getElem? (i := 4) rfl)) ⟨Nat.le_of_ble_eq_true rfl, Nat.le_of_ble_eq_true rfl⟩ (Nat.le_of_ble_eq_true rfl) (Nat.le_of_ble_eq_true rfl) (Nat.le_of_ble_eq_true rfl) dJ8_newLength_cabcc_3 ?_
  refine g_iadd S dJ8_newLength_cabcc_6 ?_
  refine g_istore_n S dJ8_newLength_cabcc_7 (by decide) rfl ?_
  refine g_iconst S (v := 0) dJ8_newLength_cabcc_8 (by decide) ?_
  refine g_iload_n S dJ8_newLength_cabcc_9 rfl ?_
  refine g_icmp_ge S (tgt := 21) dJ8_newLength_cabcc_10 (by decide) (fun c_10 => ?_) (fun c_10 => ?_)
  · exact absurd c_10 h0
  · refine g_iload_n S dJ8_newLength_cabcc_13 rfl ?_
    refine g_ldc S (S.2.2.2.2 _ (List.mem_of_getElem? (i := 5) rfl)) dJ8_newLength_cabcc_14 ?_
    refine g_icmp_gt S (tgt := 21) dJ8_newLength_cabcc_16 (by decide) (fun c_16 => ?_) (fun c_16 => ?_)
    · exact absurd c_16 h1
    · refine g_iload_n S dJ8_newLength_cabcc_19 rfl ?_
      exact g_iret S hlk hr (fun H h => ⟨rfl, h⟩) (Nat.le_refl _) (Nat.le_refl _) dJ8_newLength_cabcc_20

abbrev rmJ7_copyOf_6403c : Room := { frames := 1, cells := 1, slots := 150, locals := 60 }
set_option maxHeartbeats 1500000 in
set_option maxRecDepth 100000 in
theorem k_copyOf3 (l : Launch) (D : va_G) (ty : Nat → ClassId) (A : Nat → Prop) (tE : Nat) (el : Nat → Nat → Nat) (a : CS) {z : kZ} {j : Nat} (hj : j < 4) (h0 : 0 < z.2.1 j) {N : Nat} (hN : z.2.1 j < N) (hN2 : N ≤ 150) {mi : Nat} : Met l yJ7_copyOf_6403c wsJ7_copyOf_6403c rmJ7_copyOf_6403c (gPm D ty true cstrs tE A mi [.ref (z.2.2 j), .int (nI N), .ref mi] (hC9 D ty A tE el a z)) (gQ A (fun r H => ∃ q, r = some (.ref q) ∧ hCq D ty A tE el a z q N (cfl el a j) H)) 1 150 A := by
  refine g_MetM (cc := cJ7_copyOf_6403c) (maxL := 4) (ret := (some (.array (.object "java/lang/Object")))) [some (.ref (z.2.2 j)), some (.int (nI N)), some (.ref mi), none] (by decide) rfl (Nat.le_of_ble_eq_true rfl) rfl ?_
  intro p e s m args below meth c S hlk hr hnm hK hE hMi hP0
  have S : CallFix p m c cJ7_copyOf_6403c 4 s args wsJ7_copyOf_6403c RJ7 := S
  have ecp : va_cpy (cfl el a j) (fun _ => none) 0 0 (nI (z.2.1 j)).toNatClampNeg = cfl el a j := by
    obtain ⟨b1, b2, b3⟩ := hP0.2.2 j hj
    rw [nI_clamp (by omega)]
    funext x
    unfold va_cpy
    by_cases hx : 0 ≤ x ∧ x < 0 + z.2.1 j
    · rw [if_pos hx]; congr 1; omega
    · rw [if_neg hx]; unfold cfl; rw [if_neg (by omega)]
  refine g_aload_n S dJ7_copyOf_6403c_0 rfl ?_
  refine g_ldcM S (S.2.2.2.2 _ (List.mem_of_getElem? (i := 1) rfl)) hMi dJ7_copyOf_6403c_1 ?_
  refine g_acmp_ne S (tgt := 13) dJ7_copyOf_6403c_3 (by decide) (fun c_3 => ?_) (fun c_3 => ?_)
  · exact absurd rfl c_3
  · refine g_iload_n S dJ7_copyOf_6403c_6 rfl ?_
    refine g_anew S hK (N' := N) (P' := fun q => hCq D ty A tE el a z q N (fun _ => none)) (S.2.2.2.2 _ (List.mem_of_getElem? (i := 2) rfl)) (hE rfl).2.2.2.2.2.2.2.2.1.1 (nI_pos (by omega)) (nI_clamp (by omega)) (by omega) (hE rfl).2.2.2.1 (Nat.le_of_ble_eq_true rfl) (by show 0 + N ≤ 150; omega) (fun H H1 hP hat _ oq hA => hCq_new hP hat oq hA) dJ7_copyOf_6403c_7 (fun q => ?_)
    refine g_goto S (tgt := 24) dJ7_copyOf_6403c_10 (by decide) ?_
    refine g_astore_n S dJ7_copyOf_6403c_24 (by decide) rfl ?_
    refine g_aload_n S dJ7_copyOf_6403c_25 rfl ?_
    refine g_iconst S (v := 0) dJ7_copyOf_6403c_26 (by decide) ?_
    refine g_aload_n S dJ7_copyOf_6403c_27 rfl ?_
    refine g_iconst S (v := 0) dJ7_copyOf_6403c_28 (by decide) ?_
    refine g_aload_n S dJ7_copyOf_6403c_29 rfl ?_
    refine g_alen S hK (t0 := 3) (tt := .object "java/lang/Object") (x := (z.2.1 j, .inr (.inr (.inr (.inr (cfl el a j)))))) (fun H h => hC9_row hj h0 h.1) rfl dJ7_copyOf_6403c_30 ?_
    refine g_iload_n S dJ7_copyOf_6403c_31 rfl ?_
    refine g_mmin S (S.2.2.2.2 _ (List.mem_of_getElem? (i := 3) rfl)) (S.2.2.2.2 _ (List.mem_of_getElem? (i := 4) rfl)) (S.2.2.2.2 _ (List.mem_of_getElem? (i := 5) rfl)) (S.2.2.2.2 _ (List.mem_of_getElem? (i := 6) rfl)) ⟨Nat.le_of_ble_eq_true rfl, Nat.le_of_ble_eq_true rfl⟩ (Nat.le_of_ble_eq_true rfl) (Nat.le_of_ble_eq_true rfl) (by show 0 + N ≤ 150; omega) dJ7_copyOf_6403c_32 ?_
    rw [if_neg (show ¬ nI N < nI (z.2.1 j) from nI_nlt (by omega) (by omega))]
    refine g_acopy S hK (S.2.2.2.2 _ (List.mem_of_getElem? (i := 7) rfl)) (S.2.2.2.2 _ (List.mem_of_getElem? (i := 8) rfl)) (S.2.2.2.2 _ (List.mem_of_getElem? (i := 9) rfl)) (S.2.2.2.2 _ (List.mem_of_getElem? (i := 10) rfl)) (n0 := z.2.1 j) (n1 := N) (f := cfl el a j) (g := fun _ => none) (P' := hCq D ty A tE el a z q N (cfl el a j)) (fun H h => hC9_row hj h0 h.1) (fun H h => h.2.1) (fun H h => h.2.2.1) (nI_pos (by omega)) (by rw [nI_clamp (by omega)]; exact Nat.le_refl _) (by rw [nI_clamp (by omega)]; omega) (fun H h i hi y hy => ?_) ⟨Nat.le_of_ble_eq_true rfl, Nat.le_of_ble_eq_true rfl⟩ (Nat.le_of_ble_eq_true rfl) dJ7_copyOf_6403c_35 (fun H H1 hP hat _ oq => hCq_set hP (by rw [ecp] at hat; exact hat) oq) ?_
    · rw [nI_clamp (by omega)] at hi
      unfold cfl at hy
      obtain ⟨b1, b2, b3⟩ := h.1.2.2 j hj
      by_cases hx : i < cL a j
      · rw [if_pos hx] at hy
        cases hy
        have hk : 1 ≤ lkd j ∧ lkd j ≤ 4 := by
          have : j = 0 ∨ j = 1 ∨ j = 2 ∨ j = 3 := by omega
          rcases this with rfl | rfl | rfl | rfl <;> decide
        exact cAny hK hE hk (Or.inl ⟨by omega, by omega⟩) H h.1
      · rw [if_neg hx] at hy
        cases hy
    refine g_aload_n S dJ7_copyOf_6403c_38 rfl ?_
    exact g_aret S hlk hr (Or.inr ⟨_, rfl⟩) (Or.inr ⟨_, rfl⟩) (fun H h => ⟨q, rfl, h⟩) (Nat.le_of_ble_eq_true rfl) (by show 0 + N ≤ 150; omega) dJ7_copyOf_6403c_39

abbrev rmJ7_copyOf_1904c : Room := { frames := 2, cells := 1, slots := 150, locals := 83 }
set_option maxHeartbeats 1500000 in
set_option maxRecDepth 100000 in
theorem k_copyOf (l : Launch) (D : va_G) (ty : Nat → ClassId) (A : Nat → Prop) (tE : Nat) (el : Nat → Nat → Nat) (a : CS) {z : kZ} {j : Nat} (hj : j < 4) (h0 : 0 < z.2.1 j) {N : Nat} (hN : z.2.1 j < N) (hN2 : N ≤ 150) : Met l yJ7_copyOf_1904c wsJ7_copyOf_1904c rmJ7_copyOf_1904c (gPc D ty true cstrs tE A [.ref (z.2.2 j), .int (nI N)] (hC9 D ty A tE el a z)) (gQ A (fun r H => ∃ q, r = some (.ref q) ∧ hCq D ty A tE el a z q N (cfl el a j) H)) 1 150 A := by
  refine g_Met (cc := cJ7_copyOf_1904c) (maxL := 2) (ret := (some (.array (.object "java/lang/Object")))) [some (.ref (z.2.2 j)), some (.int (nI N))] (by decide) rfl (Nat.le_of_ble_eq_true rfl) rfl ?_
  intro p e s m args below meth c S hlk hr hnm hK hE hP0
  have S : CallFix p m c cJ7_copyOf_1904c 2 s args wsJ7_copyOf_1904c RJ7 := S
  obtain ⟨mi, hMi⟩ := (hE rfl).2.2.2.2.2.2.1
  refine g_aload_n S dJ7_copyOf_1904c_0 rfl ?_
  refine g_iload_n S dJ7_copyOf_1904c_1 rfl ?_
  refine g_aload_n S dJ7_copyOf_1904c_2 rfl ?_
  refine g_getC S (S.2.2.2.2 _ (List.mem_of_getElem? (i := 1) rfl)) (hE rfl).2.2.2.2.2.2.2.1 (S.2.2.2.2 _ (List.mem_of_getElem? (i := 2) rfl)) (S.2.2.2.2 _ (List.mem_of_getElem? (i := 3) rfl)) (S.2.2.2.2 _ (List.mem_of_getElem? (i := 4) rfl)) hMi (fun H h => ⟨_, hC9_row hj h0 h, rfl, gK_O hK⟩) ⟨Nat.le_of_ble_eq_true rfl, Nat.le_of_ble_eq_true rfl⟩ (Nat.le_of_ble_eq_true rfl) dJ7_copyOf_1904c_3 ?_
  refine g_callSm S (k_copyOf3 l D ty A tE el a hj h0 hN hN2) (va_cwS 3 S.2.2.2.2 gJ7_copyOf_1904c_J7_copyOf_6403c rfl rfl rfl (by decide +kernel) ⟨Nat.le_of_ble_eq_true rfl, Nat.le_of_ble_eq_true rfl⟩) hK hE hMi (fun H h => h) rfl (Nat.le_of_ble_eq_true rfl) dJ7_copyOf_1904c_6 ⟨Nat.le_of_ble_eq_true rfl, Nat.le_of_ble_eq_true rfl⟩ (fun r => ?_)
  refine g_ex (P' := fun q H => r = some (.ref q) ∧ hCq D ty A tE el a z q N (cfl el a j) H) (fun H h => h) (fun q => ?_)
  refine g_and (fun H h => h) (fun hr9 => ?_)
  subst hr9
  exact g_aret S hlk hr (Or.inr ⟨_, rfl⟩) (Or.inr ⟨_, rfl⟩) (fun H h => ⟨q, rfl, h⟩) (Nat.le_of_ble_eq_true rfl) (Nat.le_of_ble_eq_true rfl) dJ7_copyOf_1904c_9

abbrev rmJx4a65c_grow_92f84 : Room := { frames := 3, cells := 1, slots := 150, locals := 104 }
set_option maxHeartbeats 1500000 in
set_option maxRecDepth 100000 in
theorem k_growE (l : Launch) (D : va_G) (ty : Nat → ClassId) (A : Nat → Prop) (tE : Nat) (el : Nat → Nat → Nat) (a : CS) {z : kZ} {j : Nat} (hj : j < 4) (hz0 : z.2.1 j = 0) (hL0 : cL a j = 0) : Met l yJx4a65c_grow_92f84 wsJx4a65c_grow_92f84 rmJx4a65c_grow_92f84 (gPc D ty true cstrs tE A [.ref (el 0 j), .int (nI (cL a j + 1))] (hC9 D ty A tE el a z)) (gQ A (fun r H => ∃ q N, r = some (.ref q) ∧ cL a j < N ∧ N ≤ 150 ∧ hC9 D ty A tE el a (zU z j N q) H)) 1 150 A := by
  refine g_Met (cc := cJx4a65c_grow_92f84) (maxL := 4) (ret := (some (.array (.object "java/lang/Object")))) [some (.ref (el 0 j)), some (.int (nI (cL a j + 1))), none, none] (by decide) rfl (Nat.le_of_ble_eq_true rfl) rfl ?_
  intro p e s m args below meth c S hlk hr hnm hK hE hP0
  have S : CallFix p m c cJx4a65c_grow_92f84 4 s args wsJx4a65c_grow_92f84 RJx4a65c := S
  refine g_aload_n S dJx4a65c_grow_92f84_0 rfl ?_
  refine k0_get S hK hj 1 (by decide) (S.2.2.2.2 _ (List.mem_of_getElem? (i := 1) rfl)) (v := .ref tE) (by simp [hz0]) dJx4a65c_grow_92f84_1 ?_
  refine g_lenE S hE dJx4a65c_grow_92f84_4 ?_
  refine g_istore_n S dJx4a65c_grow_92f84_5 (by decide) rfl ?_
  refine g_iload_n S dJx4a65c_grow_92f84_6 rfl ?_
  refine g_if_gt S (tgt := 20) dJx4a65c_grow_92f84_7 (by decide) (fun c_7 => ?_) (fun c_7 => ?_)
  · exact absurd c_7 (by decide)
  · refine g_aload_n S dJx4a65c_grow_92f84_10 rfl ?_
    refine k0_get S hK hj 1 (by decide) (S.2.2.2.2 _ (List.mem_of_getElem? (i := 1) rfl)) (v := .ref tE) (by simp [hz0]) dJx4a65c_grow_92f84_11 ?_
    refine g_getsE S hE (S.2.2.2.2 _ (List.mem_of_getElem? (i := 2) rfl)) dJx4a65c_grow_92f84_14 ?_
    refine g_acmp_eq S (tgt := 45) dJx4a65c_grow_92f84_17 (by decide) (fun c_17 => ?_) (fun c_17 => ?_)
    · refine g_aload_n S dJx4a65c_grow_92f84_45 rfl ?_
      refine g_bipush S (v := 10) dJx4a65c_grow_92f84_46 (by decide) ?_
      refine g_iload_n S dJx4a65c_grow_92f84_48 rfl ?_
      refine g_mmax S (S.2.2.2.2 _ (List.mem_of_getElem? (i := 3) rfl)) (S.2.2.2.2 _ (List.mem_of_getElem? (i := 4) rfl)) (S.2.2.2.2 _ (List.mem_of_getElem? (i := 5) rfl)) (S.2.2.2.2 _ (List.mem_of_getElem? (i := 6) rfl)) ⟨Nat.le_of_ble_eq_true rfl, Nat.le_of_ble_eq_true rfl⟩ (Nat.le_of_ble_eq_true rfl) (Nat.le_of_ble_eq_true rfl) (Nat.le_of_ble_eq_true rfl) dJx4a65c_grow_92f84_49 ?_
      rw [hL0, show (if (10 : Int32) < nI (0 + 1) then nI (0 + 1) else 10) = nI 10 by decide]
      refine g_anew S hK (N' := 10) (P' := fun q => hCq D ty A tE el a z q 10 (cfl el a j)) (S.2.2.2.2 _ (List.mem_of_getElem? (i := 7) rfl)) (hE rfl).2.2.2.2.2.2.2.2.1.1 (by decide) (by decide) (by decide) (hE rfl).2.2.2.1 (Nat.le_of_ble_eq_true rfl) (Nat.le_of_ble_eq_true rfl) (fun H H1 hP hat _ oq hA => hCq_new hP (by rw [show cfl el a j = fun _ => none by funext x; unfold cfl; rw [hL0, if_neg (Nat.not_lt_zero _)]]; exact hat) oq hA) dJx4a65c_grow_92f84_52 (fun q => ?_)
      refine g_dup_x1 S dJx4a65c_grow_92f84_55 rfl rfl ?_
      refine k0_putE S hK hj (N := 10) (by omega) (by omega) (by omega) (S.2.2.2.2 _ (List.mem_of_getElem? (i := 1) rfl)) dJx4a65c_grow_92f84_56 ?_
      exact g_aret S hlk hr (Or.inr ⟨_, rfl⟩) (Or.inr ⟨_, rfl⟩) (fun H h => ⟨q, 10, rfl, by omega, by omega, h⟩) (Nat.le_of_ble_eq_true rfl) (Nat.le_of_ble_eq_true rfl) dJx4a65c_grow_92f84_59
    · exact absurd rfl c_17

theorem nI_gt0 {n : Nat} (h0 : 0 < n) (h : n < 2 ^ 31) : 0 < nI n := by rw [← nI_0]; exact nI_lt h0 h
set_option maxHeartbeats 1500000 in
set_option maxRecDepth 100000 in
theorem k_growF (l : Launch) (D : va_G) (ty : Nat → ClassId) (A : Nat → Prop) (tE : Nat) (el : Nat → Nat → Nat) (a : CS) {z : kZ} {j : Nat} (hj : j < 4) (h0 : 0 < z.2.1 j) (hf : cL a j = z.2.1 j) (hb : cL a j < 100) : Met l yJx4a65c_grow_92f84 wsJx4a65c_grow_92f84 rmJx4a65c_grow_92f84 (gPc D ty true cstrs tE A [.ref (el 0 j), .int (nI (cL a j + 1))] (hC9 D ty A tE el a z)) (gQ A (fun r H => ∃ q N, r = some (.ref q) ∧ cL a j < N ∧ N ≤ 150 ∧ hC9 D ty A tE el a (zU z j N q) H)) 1 150 A := by
  refine g_Met (cc := cJx4a65c_grow_92f84) (maxL := 4) (ret := (some (.array (.object "java/lang/Object")))) [some (.ref (el 0 j)), some (.int (nI (cL a j + 1))), none, none] (by decide) rfl (Nat.le_of_ble_eq_true rfl) rfl ?_
  intro p e s m args below meth c S hlk hr hnm hK hE hP0
  have S : CallFix p m c cJx4a65c_grow_92f84 4 s args wsJx4a65c_grow_92f84 RJx4a65c := S
  have hg := nI_growB (cL a j) hb (by omega)
  obtain ⟨N, hNe⟩ : ∃ N, N = cL a j + max 1 (cL a j / 2) := ⟨_, rfl⟩
  rw [← hNe] at hg
  have hN1 : cL a j < N := by omega
  have hN2 : N ≤ 150 := by omega
  refine g_aload_n S dJx4a65c_grow_92f84_0 rfl ?_
  refine k0_get S hK hj 1 (by decide) (S.2.2.2.2 _ (List.mem_of_getElem? (i := 1) rfl)) (v := .ref (z.2.2 j)) (by simp [Nat.ne_of_gt h0]) dJx4a65c_grow_92f84_1 ?_
  refine g_alen S hK (t0 := 3) (tt := .object "java/lang/Object") (x := (z.2.1 j, .inr (.inr (.inr (.inr (cfl el a j)))))) (fun H h => hC9_row hj h0 h) rfl dJx4a65c_grow_92f84_4 ?_
  rw [show z.2.1 j = cL a j from hf.symm]
  refine g_istore_n S dJx4a65c_grow_92f84_5 (by decide) rfl ?_
  refine g_iload_n S dJx4a65c_grow_92f84_6 rfl ?_
  refine g_if_gt S (tgt := 20) dJx4a65c_grow_92f84_7 (by decide) (fun c_7 => ?_) (fun c_7 => ?_)
  · refine g_iload_n S dJx4a65c_grow_92f84_20 rfl ?_
    refine g_iload_n S dJx4a65c_grow_92f84_21 rfl ?_
    refine g_iload_n S dJx4a65c_grow_92f84_22 rfl ?_
    refine g_isub S dJx4a65c_grow_92f84_23 ?_
    refine g_iload_n S dJx4a65c_grow_92f84_24 rfl ?_
    refine g_iconst S (v := 1) dJx4a65c_grow_92f84_25 (by decide) ?_
    refine g_ishr S dJx4a65c_grow_92f84_26 ?_
    refine g_cSr S (k_newLength l D ty A tE el a (hC9 D ty A tE el a z) _ _ _ hg.1 hg.2.1) (va_cwS 3 S.2.2.2.2 gJx4a65c_grow_92f84_J8_newLength_cabcc rfl rfl rfl (by decide +kernel) ⟨Nat.le_of_ble_eq_true rfl, Nat.le_of_ble_eq_true rfl⟩) hK hE (fun H h => h) rfl (Nat.le_of_ble_eq_true rfl) dJx4a65c_grow_92f84_27 ⟨Nat.le_of_ble_eq_true rfl, Nat.le_of_ble_eq_true rfl⟩ ?_
    rw [hg.2.2]
    refine g_istore_n S dJx4a65c_grow_92f84_30 (by decide) rfl ?_
    refine g_aload_n S dJx4a65c_grow_92f84_31 rfl ?_
    refine g_aload_n S dJx4a65c_grow_92f84_32 rfl ?_
    refine k0_get S hK hj 1 (by decide) (S.2.2.2.2 _ (List.mem_of_getElem? (i := 1) rfl)) (v := .ref (z.2.2 j)) (by simp [Nat.ne_of_gt h0]) dJx4a65c_grow_92f84_33 ?_
    refine g_iload_n S dJx4a65c_grow_92f84_36 rfl ?_
    refine g_callS S (k_copyOf l D ty A tE el a hj h0 (N := N) (by omega) (by omega)) (va_cwS 2 S.2.2.2.2 gJx4a65c_grow_92f84_J7_copyOf_1904c rfl rfl rfl (by decide +kernel) ⟨Nat.le_of_ble_eq_true rfl, Nat.le_of_ble_eq_true rfl⟩) hK hE (fun H h => h) rfl (Nat.le_of_ble_eq_true rfl) dJx4a65c_grow_92f84_37 ⟨Nat.le_of_ble_eq_true rfl, Nat.le_of_ble_eq_true rfl⟩ (fun r => ?_)
    refine g_ex (P' := fun q H => r = some (.ref q) ∧ hCq D ty A tE el a z q N (cfl el a j) H) (fun H h => h) (fun q => ?_)
    refine g_and (fun H h => h) (fun hr9 => ?_)
    subst hr9
    refine g_dup_x1 S dJx4a65c_grow_92f84_40 rfl rfl ?_
    refine k0_putE S hK hj (N := N) (by omega) (by omega) (by omega) (S.2.2.2.2 _ (List.mem_of_getElem? (i := 1) rfl)) dJx4a65c_grow_92f84_41 ?_
    exact g_aret S hlk hr (Or.inr ⟨_, rfl⟩) (Or.inr ⟨_, rfl⟩) (fun H h => ⟨q, N, rfl, by omega, by omega, h⟩) (Nat.le_of_ble_eq_true rfl) (Nat.le_of_ble_eq_true rfl) dJx4a65c_grow_92f84_44
  · exact absurd (nI_gt0 (by omega) (by omega)) c_7

theorem k_grow1 (l : Launch) (D : va_G) (ty : Nat → ClassId) (A : Nat → Prop) (tE : Nat) (el : Nat → Nat → Nat) (a : CS) {z : kZ} {j : Nat} (hj : j < 4) (hf : cL a j = z.2.1 j) (hb : cL a j < 100) : Met l yJx4a65c_grow_92f84 wsJx4a65c_grow_92f84 rmJx4a65c_grow_92f84 (gPc D ty true cstrs tE A [.ref (el 0 j), .int (nI (cL a j + 1))] (hC9 D ty A tE el a z)) (gQ A (fun r H => ∃ q N, r = some (.ref q) ∧ cL a j < N ∧ N ≤ 150 ∧ hC9 D ty A tE el a (zU z j N q) H)) 1 150 A := by
  by_cases h0 : z.2.1 j = 0
  · exact k_growE l D ty A tE el a hj h0 (by omega)
  · exact k_growF l D ty A tE el a hj (by omega) hf hb

abbrev rmJx4a65c_grow_d5877 : Room := { frames := 4, cells := 1, slots := 150, locals := 127 }
set_option maxHeartbeats 1500000 in
set_option maxRecDepth 100000 in
theorem k_grow0 (l : Launch) (D : va_G) (ty : Nat → ClassId) (A : Nat → Prop) (tE : Nat) (el : Nat → Nat → Nat) (a : CS) {z : kZ} {j : Nat} (hj : j < 4) (hf : cL a j = z.2.1 j) (hb : cL a j < 100) : Met l yJx4a65c_grow_d5877 wsJx4a65c_grow_d5877 rmJx4a65c_grow_d5877 (gPc D ty true cstrs tE A [.ref (el 0 j)] (hC9 D ty A tE el a z)) (gQ A (fun r H => ∃ q N, r = some (.ref q) ∧ cL a j < N ∧ N ≤ 150 ∧ hC9 D ty A tE el a (zU z j N q) H)) 1 150 A := by
  refine g_Met (cc := cJx4a65c_grow_d5877) (maxL := 1) (ret := (some (.array (.object "java/lang/Object")))) [some (.ref (el 0 j))] (by decide) rfl (Nat.le_of_ble_eq_true rfl) rfl ?_
  intro p e s m args below meth c S hlk hr hnm hK hE hP0
  have S : CallFix p m c cJx4a65c_grow_d5877 1 s args wsJx4a65c_grow_d5877 RJx4a65c := S
  refine g_aload_n S dJx4a65c_grow_d5877_0 rfl ?_
  refine g_aload_n S dJx4a65c_grow_d5877_1 rfl ?_
  refine k0_get S hK hj 2 (by decide) (S.2.2.2.2 _ (List.mem_of_getElem? (i := 1) rfl)) rfl dJx4a65c_grow_d5877_2 ?_
  refine g_iconst S (v := 1) dJx4a65c_grow_d5877_5 (by decide) ?_
  refine g_iadd S dJx4a65c_grow_d5877_6 ?_
  rw [show nI (cL a j) + 1 = nI (cL a j + 1) from nI_1 _]
  refine g_callV S (k_grow1 l D ty A tE el a hj hf hb) (cwV 1 S.2.2.2.2 gJx4a65c_grow_d5877_Jx4a65c_grow_92f84 rfl rfl rfl (by decide +kernel) ⟨Nat.le_of_ble_eq_true rfl, Nat.le_of_ble_eq_true rfl⟩) hK hE (fun H h => h) (fun H h => k0_recv hK hj H (hC_close h)) rfl (Nat.le_of_ble_eq_true rfl) dJx4a65c_grow_d5877_7 ⟨Nat.le_of_ble_eq_true rfl, Nat.le_of_ble_eq_true rfl⟩ (fun r => ?_)
  refine g_ex (P' := fun q H => ∃ N, r = some (.ref q) ∧ cL a j < N ∧ N ≤ 150 ∧ hC9 D ty A tE el a (zU z j N q) H) (fun H h => h) (fun q => ?_)
  refine g_ex (P' := fun N H => r = some (.ref q) ∧ cL a j < N ∧ N ≤ 150 ∧ hC9 D ty A tE el a (zU z j N q) H) (fun H h => h) (fun N => ?_)
  refine g_and (fun H h => h) (fun hr9 => ?_)
  subst hr9
  exact g_aret S hlk hr (Or.inr ⟨_, rfl⟩) (Or.inr ⟨_, rfl⟩) (fun H h => ⟨q, N, rfl, h⟩) (Nat.le_of_ble_eq_true rfl) (Nat.le_of_ble_eq_true rfl) dJx4a65c_grow_d5877_10

abbrev rmJx4a65c_add_72be8 : Room := { frames := 5, cells := 1, slots := 150, locals := 147 }
set_option maxHeartbeats 1500000 in
set_option maxRecDepth 100000 in
theorem k_add3R (l : Launch) (D : va_G) (ty : Nat → ClassId) (A : Nat → Prop) (tE : Nat) (el : Nat → Nat → Nat) (a : CS) {z : kZ} {j : Nat} (hj : j < 4) (hb : cL a j < 100) (hn : cL a j < cN a (lkd j)) (hr9 : cL a j < z.2.1 j) : Met l yJx4a65c_add_72be8 wsJx4a65c_add_72be8 rmJx4a65c_add_72be8 (gPc D ty true cstrs tE A [.ref (el 0 j), .ref (el (lkd j) (cL a j)), .ref (if z.2.1 j = 0 then tE else z.2.2 j), .int (nI (cL a j))] (hC9 D ty A tE el a z)) (gQ A (gRet none (hC D ty A tE el (cSL a j (cL a j + 1))))) 1 150 A := by
  refine g_Met (cc := cJx4a65c_add_72be8) (maxL := 4) (ret := none) [some (.ref (el 0 j)), some (.ref (el (lkd j) (cL a j))), some (.ref (if z.2.1 j = 0 then tE else z.2.2 j)), some (.int (nI (cL a j)))] (by decide) rfl (Nat.le_of_ble_eq_true rfl) rfl ?_
  intro p e s m args below meth c S hlk hr hnm hK hE hP0
  have S : CallFix p m c cJx4a65c_add_72be8 4 s args wsJx4a65c_add_72be8 RJx4a65c := S
  have hb2 := (hP0.2.2 j hj).2.1
  have hlk4 : 1 ≤ lkd j ∧ lkd j ≤ 4 := by
    have : j = 0 ∨ j = 1 ∨ j = 2 ∨ j = 3 := by omega
    rcases this with rfl | rfl | rfl | rfl <;> decide
  have hob : cOb a (lkd j) (cL a j) := Or.inl ⟨by omega, hn⟩
  refine g_lv (show _ = [some (.ref (el 0 j)), some (.ref (el (lkd j) (cL a j))), some (.ref (z.2.2 j)), some (.int (nI (cL a j)))] from by rw [if_neg (by omega)]) ?_
  refine g_iload_n S dJx4a65c_add_72be8_0 rfl ?_
  refine g_aload_n S dJx4a65c_add_72be8_1 rfl ?_
  refine g_alen S hK (t0 := 3) (tt := .object "java/lang/Object") (x := (z.2.1 j, .inr (.inr (.inr (.inr (cfl el a j)))))) (fun H h => hC9_row hj (by omega) h) rfl dJx4a65c_add_72be8_2 ?_
  refine g_icmp_ne S (tgt := 11) dJx4a65c_add_72be8_3 (by decide) (fun c_3 => ?_) (fun c_3 => ?_)
  · refine g_aload_n S dJx4a65c_add_72be8_11 rfl ?_
    refine g_iload_n S dJx4a65c_add_72be8_12 rfl ?_
    refine g_aload_n S dJx4a65c_add_72be8_13 rfl ?_
    refine g_aast S hK (N' := z.2.1 j) (f := cfl el a j) (P' := hC9x D ty A tE el a z j (va_up (cfl el a j) (cL a j) (some (el (lkd j) (cL a j))))) (fun H h => hC9_row hj (by omega) h) (fun H h => hC9_rowA hj (by omega) h) (cAny hK hE hlk4 hob) (fun H H1 hP hat _ oq => hC9x_of hj (by omega) hP (by rw [nI_clamp (by omega)] at hat; exact hat) oq) (vp_in_nI (by omega) (by omega)) dJx4a65c_add_72be8_14 ?_
    refine g_aload_n S dJx4a65c_add_72be8_15 rfl ?_
    refine g_iload_n S dJx4a65c_add_72be8_16 rfl ?_
    refine g_iconst S (v := 1) dJx4a65c_add_72be8_17 (by decide) ?_
    refine g_iadd S dJx4a65c_add_72be8_18 ?_
    refine k0_putS S hK (z := z) hj (by omega) hn (nI_1 _) (S.2.2.2.2 _ (List.mem_of_getElem? (i := 1) rfl)) dJx4a65c_add_72be8_19 ?_
    exact g_vret S hlk hr (fun H h => ⟨rfl, hC_close h⟩) (Nat.zero_le _) (Nat.zero_le _) dJx4a65c_add_72be8_22
  · exact absurd c_3 (fun w => by rw [nI_eq (by omega) (by omega)] at w; omega)

section CLF
variable {p : Program} {l : Launch} {e : Env} {R : Room} {s : State} {m : MethodId} {args : Array Value} {below : List Frame} {meth : Method} {c : Code} {A : Nat → Prop} {Q : State → Prop} {nL : Nat} {k n : Nat} {pc : Nat} {lv : List (Option Value)} {st : List Value} {P : Heap → Prop}
variable {cc : ByteArray} {Ts : List Cond} {own : String} {D : va_G} {ty : Nat → ClassId} {tE : Nat} {el : Nat → Nat → Nat} {a : CS} {strs : List (Nat × String)}
theorem g_lenF (S : CallFix p m c cc nL s args Ts own) (hK : gK D ty s) (hE : gE true strs A tE s s.heap) {hz9 : kZ} {j : Nat} (hj : j < 4) (hdg : decode cc pc = .ok (.arraylength, 1))
    (kk : gW p l e R s m args below meth c A Q nL (hC9 D ty A tE el a hz9) k n (pc + 1) lv (.int (nI (hz9.2.1 j)) :: st)) : gW p l e R s m args below meth c A Q nL (hC9 D ty A tE el a hz9) k n pc lv (.ref (if hz9.2.1 j = 0 then tE else hz9.2.2 j) :: st) := by
  by_cases h0 : hz9.2.1 j = 0
  · rw [if_pos h0]
    refine g_lenE S hE hdg ?_
    rw [h0] at kk
    exact kk
  · rw [if_neg h0]
    exact g_alen S hK (t0 := 3) (tt := .object "java/lang/Object") (x := (hz9.2.1 j, .inr (.inr (.inr (.inr (cfl el a j)))))) (fun H h => hC9_row hj (by omega) h) rfl hdg kk
end CLF
set_option maxHeartbeats 1500000 in
set_option maxRecDepth 100000 in
theorem k_add3F (l : Launch) (D : va_G) (ty : Nat → ClassId) (A : Nat → Prop) (tE : Nat) (el : Nat → Nat → Nat) (a : CS) {z : kZ} {j : Nat} (hj : j < 4) (hb : cL a j < 100) (hn : cL a j < cN a (lkd j)) (hf : cL a j = z.2.1 j) : Met l yJx4a65c_add_72be8 wsJx4a65c_add_72be8 rmJx4a65c_add_72be8 (gPc D ty true cstrs tE A [.ref (el 0 j), .ref (el (lkd j) (cL a j)), .ref (if z.2.1 j = 0 then tE else z.2.2 j), .int (nI (cL a j))] (hC9 D ty A tE el a z)) (gQ A (gRet none (hC D ty A tE el (cSL a j (cL a j + 1))))) 1 150 A := by
  refine g_Met (cc := cJx4a65c_add_72be8) (maxL := 4) (ret := none) [some (.ref (el 0 j)), some (.ref (el (lkd j) (cL a j))), some (.ref (if z.2.1 j = 0 then tE else z.2.2 j)), some (.int (nI (cL a j)))] (by decide) rfl (Nat.le_of_ble_eq_true rfl) rfl ?_
  intro p e s m args below meth c S hlk hr hnm hK hE hP0
  have S : CallFix p m c cJx4a65c_add_72be8 4 s args wsJx4a65c_add_72be8 RJx4a65c := S
  have hlk4 : 1 ≤ lkd j ∧ lkd j ≤ 4 := by
    have : j = 0 ∨ j = 1 ∨ j = 2 ∨ j = 3 := by omega
    rcases this with rfl | rfl | rfl | rfl <;> decide
  have hob : cOb a (lkd j) (cL a j) := Or.inl ⟨by omega, hn⟩
  refine g_iload_n S dJx4a65c_add_72be8_0 rfl ?_
  refine g_aload_n S dJx4a65c_add_72be8_1 rfl ?_
  refine g_lenF S hK hE hj (hz9 := z) dJx4a65c_add_72be8_2 ?_
  refine g_icmp_ne S (tgt := 11) dJx4a65c_add_72be8_3 (by decide) (fun c_3 => ?_) (fun c_3 => ?_)
  · exact absurd (by rw [hf] : nI (cL a j) = nI (z.2.1 j)) c_3
  · refine g_aload_n S dJx4a65c_add_72be8_6 rfl ?_
    refine g_callV S (k_grow0 l D ty A tE el a hj hf hb) (cwV 0 S.2.2.2.2 gJx4a65c_add_72be8_Jx4a65c_grow_d5877 rfl rfl rfl (by decide +kernel) ⟨Nat.le_of_ble_eq_true rfl, Nat.le_of_ble_eq_true rfl⟩) hK hE (fun H h => h) (fun H h => k0_recv hK hj H (hC_close h)) rfl (Nat.le_of_ble_eq_true rfl) dJx4a65c_add_72be8_7 ⟨Nat.le_of_ble_eq_true rfl, Nat.le_of_ble_eq_true rfl⟩ (fun r => ?_)
    refine g_ex (P' := fun q H => ∃ N, r = some (.ref q) ∧ cL a j < N ∧ N ≤ 150 ∧ hC9 D ty A tE el a (zU z j N q) H) (fun H h => h) (fun q => ?_)
    refine g_ex (P' := fun N H => r = some (.ref q) ∧ cL a j < N ∧ N ≤ 150 ∧ hC9 D ty A tE el a (zU z j N q) H) (fun H h => h) (fun N => ?_)
    refine g_and (fun H h => h) (fun hr9 => ?_)
    refine g_and (fun H h => h) (fun hN1 => ?_)
    refine g_and (fun H h => h) (fun hN2 => ?_)
    subst hr9
    obtain ⟨z2, hz2⟩ : ∃ z2, z2 = zU z j N q := ⟨_, rfl⟩
    rw [← hz2]
    have eN : z2.2.1 j = N := by rw [hz2]; exact if_pos rfl
    have eq : q = z2.2.2 j := by rw [hz2]; exact (if_pos rfl).symm
    subst eq
    refine g_astore_n S dJx4a65c_add_72be8_10 (by decide) rfl ?_
    refine g_aload_n S dJx4a65c_add_72be8_11 rfl ?_
    refine g_iload_n S dJx4a65c_add_72be8_12 rfl ?_
    refine g_aload_n S dJx4a65c_add_72be8_13 rfl ?_
    refine g_aast S hK (N' := z2.2.1 j) (f := cfl el a j) (P' := hC9x D ty A tE el a z2 j (va_up (cfl el a j) (cL a j) (some (el (lkd j) (cL a j))))) (fun H h => hC9_row hj (by omega) h) (fun H h => hC9_rowA hj (by omega) h) (cAny hK hE hlk4 hob) (fun H H1 hP hat _ oq => hC9x_of hj (by omega) hP (by rw [nI_clamp (by omega)] at hat; exact hat) oq) (vp_in_nI (by omega) (by omega)) dJx4a65c_add_72be8_14 ?_
    refine g_aload_n S dJx4a65c_add_72be8_15 rfl ?_
    refine g_iload_n S dJx4a65c_add_72be8_16 rfl ?_
    refine g_iconst S (v := 1) dJx4a65c_add_72be8_17 (by decide) ?_
    refine g_iadd S dJx4a65c_add_72be8_18 ?_
    refine k0_putS S hK (z := z2) hj (by omega) hn (nI_1 _) (S.2.2.2.2 _ (List.mem_of_getElem? (i := 1) rfl)) dJx4a65c_add_72be8_19 ?_
    exact g_vret S hlk hr (fun H h => ⟨rfl, hC_close h⟩) (Nat.le_of_ble_eq_true rfl) (Nat.le_of_ble_eq_true rfl) dJx4a65c_add_72be8_22

theorem k_add3 (l : Launch) (D : va_G) (ty : Nat → ClassId) (A : Nat → Prop) (tE : Nat) (el : Nat → Nat → Nat) (a : CS) {z : kZ} {j : Nat} (hj : j < 4) (hb : cL a j < 100) (hn : cL a j < cN a (lkd j)) (hle : cL a j ≤ z.2.1 j) : Met l yJx4a65c_add_72be8 wsJx4a65c_add_72be8 rmJx4a65c_add_72be8 (gPc D ty true cstrs tE A [.ref (el 0 j), .ref (el (lkd j) (cL a j)), .ref (if z.2.1 j = 0 then tE else z.2.2 j), .int (nI (cL a j))] (hC9 D ty A tE el a z)) (gQ A (gRet none (hC D ty A tE el (cSL a j (cL a j + 1))))) 1 150 A := by
  by_cases h0 : cL a j = z.2.1 j
  · exact k_add3F l D ty A tE el a hj hb hn h0
  · exact k_add3R l D ty A tE el a hj hb hn (by omega)

abbrev rmJx4a65c_add_9ea2d : Room := { frames := 6, cells := 1, slots := 150, locals := 170 }
set_option maxHeartbeats 1500000 in
set_option maxRecDepth 100000 in
theorem k_add (l : Launch) (D : va_G) (ty : Nat → ClassId) (A : Nat → Prop) (tE : Nat) (el : Nat → Nat → Nat) (a : CS) {j : Nat} (hj : j < 4) (hb : cL a j < 100) (hn : cL a j < cN a (lkd j)) : Met l yJx4a65c_add_9ea2d wsJx4a65c_add_9ea2d rmJx4a65c_add_9ea2d (gPc D ty true cstrs tE A [.ref (el 0 j), .ref (el (lkd j) (cL a j))] (hC D ty A tE el a)) (gQ A (gRet (some (.int 1)) (hC D ty A tE el (cSL a j (cL a j + 1))))) 1 150 A := by
  refine g_Met (cc := cJx4a65c_add_9ea2d) (maxL := 2) (ret := (some .boolean)) [some (.ref (el 0 j)), some (.ref (el (lkd j) (cL a j)))] (by decide) rfl (Nat.le_of_ble_eq_true rfl) rfl ?_
  intro p e s m args below meth c S hlk hr hnm hK hE hP0
  have S : CallFix p m c cJx4a65c_add_9ea2d 2 s args wsJx4a65c_add_9ea2d RJx4a65c := S
  refine hC_open (fun z => ?_)
  refine g_and (P' := hC9 D ty A tE el a z) (fun H h => ⟨(h.2.2 j hj).1, h⟩) (fun hle => ?_)
  refine g_aload_n S dJx4a65c_add_9ea2d_0 rfl ?_
  refine g_dup S dJx4a65c_add_9ea2d_1 rfl ?_
  refine k0_getM S hK hj (S.2.2.2.2 _ (List.mem_of_getElem? (i := 1) rfl)) (S.2.2.2.2 _ (List.mem_of_getElem? (i := 2) rfl)) dJx4a65c_add_9ea2d_2 ?_
  refine g_iconst S (v := 1) dJx4a65c_add_9ea2d_5 (by decide) ?_
  refine g_iadd S dJx4a65c_add_9ea2d_6 ?_
  refine k0_putM S hK hj (S.2.2.2.2 _ (List.mem_of_getElem? (i := 1) rfl)) (S.2.2.2.2 _ (List.mem_of_getElem? (i := 2) rfl)) dJx4a65c_add_9ea2d_7 ?_
  obtain ⟨z2, hz2⟩ : ∃ z2, z2 = zM z j (z.1 j + 1) := ⟨_, rfl⟩
  rw [← hz2]
  have hle2 : cL a j ≤ z2.2.1 j := by rw [hz2]; exact hle
  refine g_aload_n S dJx4a65c_add_9ea2d_10 rfl ?_
  refine g_aload_n S dJx4a65c_add_9ea2d_11 rfl ?_
  refine g_aload_n S dJx4a65c_add_9ea2d_12 rfl ?_
  refine k0_get S hK hj 1 (by decide) (S.2.2.2.2 _ (List.mem_of_getElem? (i := 3) rfl)) rfl dJx4a65c_add_9ea2d_13 ?_
  refine g_aload_n S dJx4a65c_add_9ea2d_16 rfl ?_
  refine k0_get S hK hj 2 (by decide) (S.2.2.2.2 _ (List.mem_of_getElem? (i := 4) rfl)) rfl dJx4a65c_add_9ea2d_17 ?_
  refine g_cVv S (k_add3 l D ty A tE el a hj hb hn hle2) (cwV 3 S.2.2.2.2 gJx4a65c_add_9ea2d_Jx4a65c_add_72be8 rfl rfl rfl (by decide +kernel) ⟨Nat.le_of_ble_eq_true rfl, Nat.le_of_ble_eq_true rfl⟩) hK hE (fun H h => h) (fun H h => k0_recv hK hj H (hC_close h)) rfl (Nat.le_of_ble_eq_true rfl) dJx4a65c_add_9ea2d_20 ⟨Nat.le_of_ble_eq_true rfl, Nat.le_of_ble_eq_true rfl⟩ ?_
  refine g_iconst S (v := 1) dJx4a65c_add_9ea2d_23 (by decide) ?_
  exact g_zret S hlk hr (by first | rfl | exact nar_b2 _) (fun H h => ⟨rfl, h⟩) (Nat.le_of_ble_eq_true rfl) (Nat.le_of_ble_eq_true rfl) dJx4a65c_add_9ea2d_24

