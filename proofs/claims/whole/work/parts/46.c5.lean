/-! new objects -/
/-- references go to objects that are there -/
def cRwf (a : CS) : Prop := ∀ q ∈ cRefs, ∀ i x, i < cN a q.1 → cR a q.1 q.2 i = some x → x < cN a (ctg q.1 q.2)
theorem map_el {el : Nat → Nat → Nat} {t j n q : Nat} {o : Option Nat} (h : ∀ x, o = some x → ¬ (t = j ∧ x = n)) : va_rf (o.map (elU el j n q t)) = va_rf (o.map (el t)) := by
  cases o with
  | none => rfl
  | some x => show Value.ref _ = Value.ref _; rw [elU, if_neg (h x rfl)]
theorem elU_self {el : Nat → Nat → Nat} {j i q : Nat} : elU el j i q j i = q := if_pos ⟨rfl, rfl⟩
theorem elU_ne {el : Nat → Nat → Nat} {j i q i' : Nat} (h : i' ≠ i) : elU el j i q j i' = el j i' := if_neg (fun z => h z.2)
theorem cfs_new {el : Nat → Nat → Nat} {a : CS} {j q : Nat} (hw : cRwf a) {j' i' : Nat} (ho : cOb a j' i') (hj : 1 ≤ j ∧ j ≤ 5) : cfs (elU el j (cN a j) q) (cNew a j) j' i' = cfs el a j' i' := by
  have hne : ¬ (j' = j ∧ i' = a.1 j) := by
    rintro ⟨rfl, rfl⟩
    rcases ho with ⟨-, h⟩ | ⟨h, -⟩
    · exact Nat.lt_irrefl _ h
    · omega
  have eI : ∀ k, (cNew a j).2.1 j' k i' = a.2.1 j' k i' := fun k => if_neg hne
  have eR : ∀ k, (cNew a j).2.2.1 j' k i' = a.2.2.1 j' k i' := fun k => if_neg hne
  have eE : ∀ k t, (j', k) ∈ cRefs → ctg j' k = t → va_rf ((a.2.2.1 j' k i').map (elU el j (cN a j) q t)) = va_rf ((a.2.2.1 j' k i').map (el t)) := fun k t hk ht => map_el (fun x hx => by
    have hi : i' < cN a j' := by
      rcases ho with ⟨-, h⟩ | ⟨h, -⟩
      · exact h
      · subst h; simp [cRefs] at hk
    have := hw (j', k) hk i' x hi hx
    rw [ht] at this
    rintro ⟨rfl, rfl⟩
    exact Nat.lt_irrefl _ this)
  have e0 : ∀ t, t = 0 ∨ t = 8 ∨ t = 9 → ∀ x, elU el j (cN a j) q t x = el t x := fun t ht x => if_neg (by omega)
  rcases ho.j with ⟨h1, h6⟩
  have hjj : j' = 1 ∨ j' = 2 ∨ j' = 3 ∨ j' = 4 ∨ j' = 5 ∨ j' = 6 := by omega
  rcases hjj with rfl | rfl | rfl | rfl | rfl | rfl
  · simp only [cfs, cI, eI]
  · simp only [cfs, cI, cR, eI, eR, eE 4 4 (by decide) (by decide)]
  · simp only [cfs, cI, cR, eI, eR, eE 1 2 (by decide) (by decide), eE 2 5 (by decide) (by decide), eE 7 1 (by decide) (by decide)]
  · simp only [cfs, cI, eI]
  · simp only [cfs, cI, cR, eI, eR, eE 1 5 (by decide) (by decide)]
  · simp only [cfs, cI, eI, e0 0 (by omega), e0 8 (by omega), e0 9 (by omega)]
theorem hC_new {D : va_G} {ty : Nat → ClassId} {A : Nat → Prop} {tE : Nat} {el : Nat → Nat → Nat} {a : CS} {j : Nat} {H H1 : Heap} {fs : List Value} (hw : cRwf a) (hj : 1 ≤ j ∧ j ≤ 5) (h : hC D ty A tE el a H) (hat : va_at D vwCl (H.size, .inr (j, fs)) H1) (oq : ∀ q : Nat, q < H.size → H1[q]? = H[q]?) (hA : A H.size)
    (hb : cfs (elU el j (cN a j) H.size) (cNew a j) j (cN a j) = fs) : hC D ty A tE (elU el j (cN a j) H.size) (cNew a j) H1 := by
  obtain ⟨md, cp, ea, g1, g2, g3⟩ := h
  have eN : ∀ t, cN (cNew a j) t = if t = j then cN a j + 1 else cN a t := fun t => rfl
  have own' : ∀ {j' i' : Nat}, cown (cNew a j) cp j' i' → cown a cp j' i' ∨ (j' = j ∧ i' = cN a j) := by
    intro j' i' ho
    by_cases hn : j' = j ∧ i' = cN a j
    · exact Or.inr hn
    · left
      rcases ho with h | ⟨h, h2⟩ | h | h | h
      · exact Or.inl h
      · refine Or.inr (Or.inl ⟨h, ?_⟩)
        rw [eN] at h2
        by_cases hq : j' = j
        · rw [if_pos hq] at h2
          subst hq
          have : i' ≠ cN a j' := fun z => hn ⟨rfl, z⟩
          omega
        · rwa [if_neg hq] at h2
      · exact Or.inr (Or.inr (Or.inl h))
      · exact Or.inr (Or.inr (Or.inr (Or.inl h)))
      · exact Or.inr (Or.inr (Or.inr (Or.inr h)))
  have old : ∀ {j' i' : Nat}, cown a cp j' i' → ¬ (j' = j ∧ i' = cN a j) := by
    rintro j' i' ho ⟨rfl, rfl⟩
    rcases ho with h | ⟨-, h⟩ | h | h | h <;> omega
  have eadr : ∀ {j' i' : Nat}, cown a cp j' i' → cadr (elU el j (cN a j) H.size) ea j' i' = cadr el ea j' i' := fun {j' i'} ho => by
    unfold cadr
    split
    · rfl
    · exact if_neg (old ho)
  have enew : cadr (elU el j (cN a j) H.size) ea j (cN a j) = H.size := by
    rw [cadr_ne (by omega)]
    exact if_pos ⟨rfl, rfl⟩
  have elt : ∀ {j' i' : Nat}, cown a cp j' i' → cadr el ea j' i' < H.size := fun ho => (g1 _ _ ho).1.lt
  refine ⟨md, cp, ea, fun j' i' ho => ?_, fun x y x' y' hx hy hxy => ?_, fun i hi => ?_⟩
  · rcases own' ho with ho' | ⟨rfl, rfl⟩
    · obtain ⟨f1, f2⟩ := g1 j' i' ho'
      rw [eadr ho']
      refine ⟨?_, f2⟩
      have e : cent ty tE (elU el j (cN a j) H.size) (cNew a j) md cp ea j' i' = cent ty tE el a md cp ea j' i' := by
        unfold cent
        split
        · rfl
        · split
          · rfl
          · split
            · rfl
            · split
              · rename_i h10
                subst h10
                have hi4 : i' < 4 := by rcases ho' with h | h | h | h | h <;> omega
                have : (fun x => if x < cL a i' then some (elU el j (cN a j) H.size (lkd i') x) else none) = (fun x => if x < cL a i' then some (el (lkd i') x) else none) := by
                  funext x
                  by_cases hx : x < cL a i'
                  · rw [if_pos hx, if_pos hx, elU, if_neg]
                    rintro ⟨e1, e2⟩
                    have := (g3 i' hi4).2.2
                    rw [e1] at this
                    omega
                  · rw [if_neg hx, if_neg hx]
                show Sum.inl (ty 3, cp i', Sum.inr (Sum.inr (Sum.inr (Sum.inr (fun x => if x < cL a i' then some (elU el j (cN a j) H.size (lkd i') x) else none))))) = _
                rw [this]
              · rename_i n0 n8 n9 n10
                have hob : cOb a j' i' := by
                  rcases ho' with h | h | h | h | h
                  · exact absurd h.1 n0
                  · exact Or.inl h
                  · exact Or.inr h
                  · rcases h.1 with z | z
                    · exact absurd z n8
                    · exact absurd z n9
                  · exact absurd h.1 n10
                rw [cfs_new hw hob hj]
      rw [e]
      exact f1.kept (oq _ f1.lt)
    · rw [enew, cent_ob (by omega), hb]
      exact ⟨hat, hA⟩
  · rcases own' hx with hx' | ⟨rfl, rfl⟩ <;> rcases own' hy with hy' | ⟨rfl, rfl⟩
    · rw [eadr hx', eadr hy'] at hxy
      exact g2 x y x' y' hx' hy' hxy
    · rw [eadr hx', enew] at hxy
      have := elt hx'
      omega
    · rw [eadr hy', enew] at hxy
      have := elt hy'
      omega
    · exact ⟨rfl, rfl⟩
  · obtain ⟨f1, f2, f3⟩ := g3 i hi
    refine ⟨f1, f2, Nat.le_trans f3 ?_⟩
    rw [eN]
    split
    · rename_i z; rw [z]; exact Nat.le_succ _
    · exact Nat.le_refl _
section CL6
variable {p : Program} {l : Launch} {e : Env} {R : Room} {s : State} {m : MethodId} {args : Array Value} {below : List Frame} {meth : Method} {c : Code} {A : Nat → Prop} {Q : State → Prop} {nL : Nat} {k n : Nat} {pc : Nat} {lv : List (Option Value)} {st : List Value} {P : Heap → Prop}
variable {cc : ByteArray} {Ts : List Cond} {own : String} {D : va_G} {ty : Nat → ClassId} {tE : Nat} {el : Nat → Nat → Nat} {a : CS}
theorem k1_new (S : CallFix p m c cc nL s args Ts own) (hK : gK D ty s) {index : Nat} (hw : cRwf a) (hcl : (Cond.classLink own index RX0).before args s = true) (hinst : (Cond.instantiable RX0 11).before args s = true) (hini : (Cond.initialized RX0).before args s = true) (hA : ∀ q, s.heap.size ≤ q → A q) (hcells : k + 1 ≤ R.cells) (hslots : n + 11 ≤ R.slots) (hdg : decode cc pc = .ok (.new index, 3))
    (kk : ∀ q : Nat, gW p l e R s m args below meth c A Q nL (hC D ty A tE (elU el 1 (cN a 1) q) (cNew a 1)) (k + 1) (n + 11) (pc + 3) lv (.ref (elU el 1 (cN a 1) q 1 (cN a 1)) :: st)) : gW p l e R s m args below meth c A Q nL (hC D ty A tE el a) k n pc lv st :=
  g_new S hK (C := RX0) (T := TX0) (N := 11) (fs := [.int 0, .int 0, .int 0, .int 0, .int 0, .int 0, .int 0, .int 0, .int 0, .int 0, .int 0]) (P' := fun q => hC D ty A tE (elU el 1 (cN a 1) q) (cNew a 1)) tyX0 tyX0_ok rfl hcl hinst hini hA (fun j hj => by rcases (show j = 0 ∨ j = 1 ∨ j = 2 ∨ j = 3 ∨ j = 4 ∨ j = 5 ∨ j = 6 ∨ j = 7 ∨ j = 8 ∨ j = 9 ∨ j = 10 by omega) with rfl | rfl | rfl | rfl | rfl | rfl | rfl | rfl | rfl | rfl | rfl <;> rfl) hcells hslots
    (fun H H1 hP hat z oq hAq => hC_new hw (by decide) hP hat oq hAq (by simp [cfs, cNew, cI, cR, cN, va_rf])) hdg (fun q => by have h9 := kk q; rw [elU_self] at h9; exact h9)
theorem k2_new (S : CallFix p m c cc nL s args Ts own) (hK : gK D ty s) {index : Nat} (hw : cRwf a) (hcl : (Cond.classLink own index RX1).before args s = true) (hinst : (Cond.instantiable RX1 7).before args s = true) (hini : (Cond.initialized RX1).before args s = true) (hA : ∀ q, s.heap.size ≤ q → A q) (hcells : k + 1 ≤ R.cells) (hslots : n + 7 ≤ R.slots) (hdg : decode cc pc = .ok (.new index, 3))
    (kk : ∀ q : Nat, gW p l e R s m args below meth c A Q nL (hC D ty A tE (elU el 2 (cN a 2) q) (cNew a 2)) (k + 1) (n + 7) (pc + 3) lv (.ref (elU el 2 (cN a 2) q 2 (cN a 2)) :: st)) : gW p l e R s m args below meth c A Q nL (hC D ty A tE el a) k n pc lv st :=
  g_new S hK (C := RX1) (T := TX1) (N := 7) (fs := [.int 0, .int 0, .int 0, .int 0, .null, .int 0, .int 0]) (P' := fun q => hC D ty A tE (elU el 2 (cN a 2) q) (cNew a 2)) tyX1 tyX1_ok rfl hcl hinst hini hA (fun j hj => by rcases (show j = 0 ∨ j = 1 ∨ j = 2 ∨ j = 3 ∨ j = 4 ∨ j = 5 ∨ j = 6 by omega) with rfl | rfl | rfl | rfl | rfl | rfl | rfl <;> rfl) hcells hslots
    (fun H H1 hP hat z oq hAq => hC_new hw (by decide) hP hat oq hAq (by simp [cfs, cNew, cI, cR, cN, va_rf])) hdg (fun q => by have h9 := kk q; rw [elU_self] at h9; exact h9)
theorem k3_new (S : CallFix p m c cc nL s args Ts own) (hK : gK D ty s) {index : Nat} (hw : cRwf a) (hcl : (Cond.classLink own index RX2).before args s = true) (hinst : (Cond.instantiable RX2 9).before args s = true) (hini : (Cond.initialized RX2).before args s = true) (hA : ∀ q, s.heap.size ≤ q → A q) (hcells : k + 1 ≤ R.cells) (hslots : n + 9 ≤ R.slots) (hdg : decode cc pc = .ok (.new index, 3))
    (kk : ∀ q : Nat, gW p l e R s m args below meth c A Q nL (hC D ty A tE (elU el 3 (cN a 3) q) (cNew a 3)) (k + 1) (n + 9) (pc + 3) lv (.ref (elU el 3 (cN a 3) q 3 (cN a 3)) :: st)) : gW p l e R s m args below meth c A Q nL (hC D ty A tE el a) k n pc lv st :=
  g_new S hK (C := RX2) (T := TX2) (N := 9) (fs := [.int 0, .null, .null, .int 0, .int 0, .int 0, .int 0, .null, .int 0]) (P' := fun q => hC D ty A tE (elU el 3 (cN a 3) q) (cNew a 3)) tyX2 tyX2_ok rfl hcl hinst hini hA (fun j hj => by rcases (show j = 0 ∨ j = 1 ∨ j = 2 ∨ j = 3 ∨ j = 4 ∨ j = 5 ∨ j = 6 ∨ j = 7 ∨ j = 8 by omega) with rfl | rfl | rfl | rfl | rfl | rfl | rfl | rfl | rfl <;> rfl) hcells hslots
    (fun H H1 hP hat z oq hAq => hC_new hw (by decide) hP hat oq hAq (by simp [cfs, cNew, cI, cR, cN, va_rf])) hdg (fun q => by have h9 := kk q; rw [elU_self] at h9; exact h9)
theorem k4_new (S : CallFix p m c cc nL s args Ts own) (hK : gK D ty s) {index : Nat} (hw : cRwf a) (hcl : (Cond.classLink own index RX3).before args s = true) (hinst : (Cond.instantiable RX3 6).before args s = true) (hini : (Cond.initialized RX3).before args s = true) (hA : ∀ q, s.heap.size ≤ q → A q) (hcells : k + 1 ≤ R.cells) (hslots : n + 6 ≤ R.slots) (hdg : decode cc pc = .ok (.new index, 3))
    (kk : ∀ q : Nat, gW p l e R s m args below meth c A Q nL (hC D ty A tE (elU el 4 (cN a 4) q) (cNew a 4)) (k + 1) (n + 6) (pc + 3) lv (.ref (elU el 4 (cN a 4) q 4 (cN a 4)) :: st)) : gW p l e R s m args below meth c A Q nL (hC D ty A tE el a) k n pc lv st :=
  g_new S hK (C := RX3) (T := TX3) (N := 6) (fs := [.int 0, .int 0, .int 0, .int 0, .int 0, .int 0]) (P' := fun q => hC D ty A tE (elU el 4 (cN a 4) q) (cNew a 4)) tyX3 tyX3_ok rfl hcl hinst hini hA (fun j hj => by rcases (show j = 0 ∨ j = 1 ∨ j = 2 ∨ j = 3 ∨ j = 4 ∨ j = 5 by omega) with rfl | rfl | rfl | rfl | rfl | rfl <;> rfl) hcells hslots
    (fun H H1 hP hat z oq hAq => hC_new hw (by decide) hP hat oq hAq (by simp [cfs, cNew, cI, cR, cN, va_rf])) hdg (fun q => by have h9 := kk q; rw [elU_self] at h9; exact h9)
theorem k5_new (S : CallFix p m c cc nL s args Ts own) (hK : gK D ty s) {index : Nat} (hw : cRwf a) (hcl : (Cond.classLink own index RX4).before args s = true) (hinst : (Cond.instantiable RX4 3).before args s = true) (hini : (Cond.initialized RX4).before args s = true) (hA : ∀ q, s.heap.size ≤ q → A q) (hcells : k + 1 ≤ R.cells) (hslots : n + 3 ≤ R.slots) (hdg : decode cc pc = .ok (.new index, 3))
    (kk : ∀ q : Nat, gW p l e R s m args below meth c A Q nL (hC D ty A tE (elU el 5 (cN a 5) q) (cNew a 5)) (k + 1) (n + 3) (pc + 3) lv (.ref (elU el 5 (cN a 5) q 5 (cN a 5)) :: st)) : gW p l e R s m args below meth c A Q nL (hC D ty A tE el a) k n pc lv st :=
  g_new S hK (C := RX4) (T := TX4) (N := 3) (fs := [.int 0, .null, .int 0]) (P' := fun q => hC D ty A tE (elU el 5 (cN a 5) q) (cNew a 5)) tyX4 tyX4_ok rfl hcl hinst hini hA (fun j hj => by rcases (show j = 0 ∨ j = 1 ∨ j = 2 by omega) with rfl | rfl | rfl <;> rfl) hcells hslots
    (fun H H1 hP hat z oq hAq => hC_new hw (by decide) hP hat oq hAq (by simp [cfs, cNew, cI, cR, cN, va_rf])) hdg (fun q => by have h9 := kk q; rw [elU_self] at h9; exact h9)
end CL6
