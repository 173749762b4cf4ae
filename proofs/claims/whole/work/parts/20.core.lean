/-! the judgement gW: from every heap with P (what lies outside A being as at the method's entry), with the locals lv by place, the machine at pc with the stack st comes to Q -/
def gl_pr : Nat → List (Option Value) → List (Nat × Value)
  | _, [] => []
  | i, none :: t => gl_pr (i + 1) t
  | i, some v :: t => (i, v) :: gl_pr (i + 1) t
theorem gl_pr_get : ∀ (lv : List (Option Value)) (b i : Nat) (v : Value), lv[i]? = some (some v) → (b + i, v) ∈ gl_pr b lv
  | [], b, i, v, h => by simp at h
  | none :: t, b, 0, v, h => by simp at h
  | none :: t, b, i + 1, v, h => by
    rw [List.getElem?_cons_succ] at h
    have := gl_pr_get t (b + 1) i v h
    rw [show b + (i + 1) = b + 1 + i by omega]
    exact this
  | some x :: t, b, 0, v, h => by
    rw [List.getElem?_cons_zero] at h
    cases h
    exact List.mem_cons_self
  | some x :: t, b, i + 1, v, h => by
    rw [List.getElem?_cons_succ] at h
    have := gl_pr_get t (b + 1) i v h
    rw [show b + (i + 1) = b + 1 + i by omega]
    exact List.mem_cons_of_mem _ this
theorem gl_pr_mem : ∀ (lv : List (Option Value)) (b : Nat) (q : Nat × Value), q ∈ gl_pr b lv → b ≤ q.1 ∧ lv[q.1 - b]? = some (some q.2)
  | [], b, q, h => by simp [gl_pr] at h
  | none :: t, b, q, h => by
    obtain ⟨h1, h2⟩ := gl_pr_mem t (b + 1) q h
    refine ⟨by omega, ?_⟩
    rw [show q.1 - b = (q.1 - (b + 1)) + 1 by omega, List.getElem?_cons_succ]
    exact h2
  | some x :: t, b, q, h => by
    rcases List.mem_cons.mp h with rfl | h
    · simp
    · obtain ⟨h1, h2⟩ := gl_pr_mem t (b + 1) q h
      refine ⟨by omega, ?_⟩
      rw [show q.1 - b = (q.1 - (b + 1)) + 1 by omega, List.getElem?_cons_succ]
      exact h2
/-- the locals by place: some v where v is held -/
def gl_has (ls : Array Slot) (nL : Nat) (lv : List (Option Value)) : Prop := lv.length = nL ∧ lv_has ls nL (gl_pr 0 lv)
theorem gl_at {ls : Array Slot} {nL : Nat} {lv : List (Option Value)} (h : gl_has ls nL lv) {i : Nat} {v : Value} (hk : lv[i]? = some (some v)) : ls[i]? = some (.val v) := by
  have := h.2.2.2 (0 + i, v) (gl_pr_get lv 0 i v hk)
  simpa using this
def gl_ok (lv : List (Option Value)) : Nat → Bool
  | 0 => true
  | j + 1 => match lv[j]? with
    | some (some v) => v.category == 1
    | _ => true
theorem gl_ok_use {lv : List (Option Value)} {i j : Nat} {v : Value} (h : gl_ok lv i = true) (hj : j + 1 = i) (hv : lv[j]? = some (some v)) : v.category = 1 := by
  subst hj
  simpa [gl_ok, hv] using h
theorem gl_set1 {ls ls' : Array Slot} {nL : Nat} {lv : List (Option Value)} {i : Nat} {v : Value} (h : gl_has ls nL lv) (hi : i < nL) (hok : gl_ok lv i = true)
    (h' : lv_has ls' nL ((i, v) :: (gl_pr 0 lv).filter (fun q => !(q.1 == i) && !(q.1 + 1 == i && q.2.category == 2)))) : gl_has ls' nL (lv.set i (some v)) := by
  refine ⟨by rw [List.length_set]; exact h.1, h'.1, h'.2.1, fun q hq => ?_⟩
  obtain ⟨-, hq2⟩ := gl_pr_mem _ 0 q hq
  rw [Nat.sub_zero] at hq2
  by_cases a : q.1 = i
  · rw [a, List.getElem?_set_self (by rw [h.1]; exact hi)] at hq2
    cases hq2
    rw [a]
    exact h'.2.2 (i, q.2) List.mem_cons_self
  · rw [List.getElem?_set_ne (fun z => a z.symm)] at hq2
    refine h'.2.2 q (List.mem_cons_of_mem _ (List.mem_filter.mpr ⟨?_, ?_⟩))
    · have := gl_pr_get lv 0 q.1 q.2 hq2
      rwa [Nat.zero_add] at this
    · simp only [Bool.and_eq_true, Bool.not_eq_true', beq_eq_false_iff_ne, ne_eq, Bool.and_eq_false_iff]
      refine ⟨a, ?_⟩
      by_cases b : q.1 + 1 = i
      · right
        rw [gl_ok_use hok b hq2]
        decide
      · left; exact b
theorem gl_set2 {ls ls' : Array Slot} {nL : Nat} {lv : List (Option Value)} {i : Nat} {v : Value} (h : gl_has ls nL lv) (hi : i + 1 < nL) (hok : gl_ok lv i = true)
    (h' : lv_has ls' nL ((i, v) :: (gl_pr 0 lv).filter (fun q => !(q.1 == i) && (!(q.1 == i + 1) && !(q.1 + 1 == i && q.2.category == 2))))) : gl_has ls' nL ((lv.set i (some v)).set (i + 1) none) := by
  refine ⟨by rw [List.length_set, List.length_set]; exact h.1, h'.1, h'.2.1, fun q hq => ?_⟩
  obtain ⟨-, hq2⟩ := gl_pr_mem _ 0 q hq
  rw [Nat.sub_zero] at hq2
  by_cases a1 : q.1 = i + 1
  · rw [a1, List.getElem?_set_self (by rw [List.length_set, h.1]; exact hi)] at hq2
    cases hq2
  rw [List.getElem?_set_ne (fun z => a1 z.symm)] at hq2
  by_cases a : q.1 = i
  · rw [a, List.getElem?_set_self (by rw [h.1]; omega)] at hq2
    cases hq2
    rw [a]
    exact h'.2.2 (i, q.2) List.mem_cons_self
  · rw [List.getElem?_set_ne (fun z => a z.symm)] at hq2
    refine h'.2.2 q (List.mem_cons_of_mem _ (List.mem_filter.mpr ⟨?_, ?_⟩))
    · have := gl_pr_get lv 0 q.1 q.2 hq2
      rwa [Nat.zero_add] at this
    · simp only [Bool.and_eq_true, Bool.not_eq_true', beq_eq_false_iff_ne, ne_eq, Bool.and_eq_false_iff]
      refine ⟨a, a1, ?_⟩
      by_cases b : q.1 + 1 = i
      · right
        rw [gl_ok_use hok b hq2]
        decide
      · left; exact b
def gW (p : Program) (l : Launch) (e : Env) (R : Room) (s : State) (m : MethodId) (args : Array Value) (below : List Frame) (meth : Method) (c : Code) (A : Nat → Prop) (Q : State → Prop) (nL : Nat) (P : Heap → Prop) (k n : Nat) (pc : Nat) (lv : List (Option Value)) (st : List Value) : Prop :=
  ∀ (H : Heap) (locs : List Loc) (ls : Array Slot), P H → va_S A s.heap H locs → gl_has ls nL lv → W p l e R s m args below meth c H locs k n Q (F0 m pc ls st)
section GW
variable {p : Program} {l : Launch} {e : Env} {R : Room} {s : State} {m : MethodId} {args : Array Value} {below : List Frame} {meth : Method} {c : Code} {A : Nat → Prop} {Q : State → Prop} {nL : Nat} {P : Heap → Prop} {k n : Nat} {pc : Nat} {lv : List (Option Value)} {st : List Value}
variable {cc : ByteArray} {Ts : List Cond} {own : String}
theorem g_iconst (S : CallFix p m c cc nL s args Ts own) {z : Int} {v : Int32} (hdg : decode cc pc = .ok (.iconst z, 1)) (hv : Int32.ofInt z = v)
    (kk : gW p l e R s m args below meth c A Q nL P k n (pc + 1) lv (.int v :: st)) : gW p l e R s m args below meth c A Q nL P k n pc lv st := fun H locs ls hP hS hl => lv_iconst S.1 S.2.1 hdg hv (kk H locs ls hP hS hl)
theorem g_bipush (S : CallFix p m c cc nL s args Ts own) {z : Int} {v : Int32} (hdg : decode cc pc = .ok (.bipush z, 2)) (hv : (Int8.ofInt z).toInt32 = v)
    (kk : gW p l e R s m args below meth c A Q nL P k n (pc + 2) lv (.int v :: st)) : gW p l e R s m args below meth c A Q nL P k n pc lv st := fun H locs ls hP hS hl => lv_bipush S.1 S.2.1 hdg hv (kk H locs ls hP hS hl)
theorem g_sipush (S : CallFix p m c cc nL s args Ts own) {z : Int} {v : Int32} (hdg : decode cc pc = .ok (.sipush z, 3)) (hv : (Int16.ofInt z).toInt32 = v)
    (kk : gW p l e R s m args below meth c A Q nL P k n (pc + 3) lv (.int v :: st)) : gW p l e R s m args below meth c A Q nL P k n pc lv st := fun H locs ls hP hS hl => lv_sipush S.1 S.2.1 hdg hv (kk H locs ls hP hS hl)
theorem g_lconst (S : CallFix p m c cc nL s args Ts own) {z : Fin 2} {v : Int64} (hdg : decode cc pc = .ok (.lconst z, 1)) (hv : Int64.ofNat (z : Nat) = v)
    (kk : gW p l e R s m args below meth c A Q nL P k n (pc + 1) lv (.long v :: st)) : gW p l e R s m args below meth c A Q nL P k n pc lv st := fun H locs ls hP hS hl => lv_lconst S.1 S.2.1 hdg hv (kk H locs ls hP hS hl)
theorem g_iload_n (S : CallFix p m c cc nL s args Ts own) {i : Fin 4} {x : Int32} (hdg : decode cc pc = .ok (.iload_n i, 1)) (hl : lv[(i : Nat)]? = some (some (.int x)))
    (kk : gW p l e R s m args below meth c A Q nL P k n (pc + 1) lv (.int x :: st)) : gW p l e R s m args below meth c A Q nL P k n pc lv st := fun H locs ls hP hS hL => lv_iload_n S.1 S.2.1 hdg rfl (gl_at hL hl) (kk H locs ls hP hS hL)
theorem g_iload (S : CallFix p m c cc nL s args Ts own) {i : Nat} {x : Int32} (hdg : decode cc pc = .ok (.iload i, 2)) (hl : lv[i]? = some (some (.int x)))
    (kk : gW p l e R s m args below meth c A Q nL P k n (pc + 2) lv (.int x :: st)) : gW p l e R s m args below meth c A Q nL P k n pc lv st := fun H locs ls hP hS hL => lv_iload S.1 S.2.1 hdg (gl_at hL hl) (kk H locs ls hP hS hL)
theorem g_lload_n (S : CallFix p m c cc nL s args Ts own) {i : Fin 4} {x : Int64} (hdg : decode cc pc = .ok (.lload_n i, 1)) (hl : lv[(i : Nat)]? = some (some (.long x)))
    (kk : gW p l e R s m args below meth c A Q nL P k n (pc + 1) lv (.long x :: st)) : gW p l e R s m args below meth c A Q nL P k n pc lv st := fun H locs ls hP hS hL => lv_lload_n S.1 S.2.1 hdg rfl (gl_at hL hl) (kk H locs ls hP hS hL)
theorem g_lload (S : CallFix p m c cc nL s args Ts own) {i : Nat} {x : Int64} (hdg : decode cc pc = .ok (.lload i, 2)) (hl : lv[i]? = some (some (.long x)))
    (kk : gW p l e R s m args below meth c A Q nL P k n (pc + 2) lv (.long x :: st)) : gW p l e R s m args below meth c A Q nL P k n pc lv st := fun H locs ls hP hS hL => lv_lload S.1 S.2.1 hdg (gl_at hL hl) (kk H locs ls hP hS hL)
theorem g_aload_n (S : CallFix p m c cc nL s args Ts own) {i : Fin 4} {x : Nat} (hdg : decode cc pc = .ok (.aload_n i, 1)) (hl : lv[(i : Nat)]? = some (some (.ref x)))
    (kk : gW p l e R s m args below meth c A Q nL P k n (pc + 1) lv (.ref x :: st)) : gW p l e R s m args below meth c A Q nL P k n pc lv st := fun H locs ls hP hS hL => lv_aload_n S.1 S.2.1 hdg rfl (gl_at hL hl) (kk H locs ls hP hS hL)
theorem g_aload (S : CallFix p m c cc nL s args Ts own) {i : Nat} {x : Nat} (hdg : decode cc pc = .ok (.aload i, 2)) (hl : lv[i]? = some (some (.ref x)))
    (kk : gW p l e R s m args below meth c A Q nL P k n (pc + 2) lv (.ref x :: st)) : gW p l e R s m args below meth c A Q nL P k n pc lv st := fun H locs ls hP hS hL => lv_aload S.1 S.2.1 hdg (gl_at hL hl) (kk H locs ls hP hS hL)
theorem g_aload_nN (S : CallFix p m c cc nL s args Ts own) {i : Fin 4} (hdg : decode cc pc = .ok (.aload_n i, 1)) (hl : lv[(i : Nat)]? = some (some .null))
    (kk : gW p l e R s m args below meth c A Q nL P k n (pc + 1) lv (.null :: st)) : gW p l e R s m args below meth c A Q nL P k n pc lv st := fun H locs ls hP hS hL => lv_aload_nN S.1 S.2.1 hdg rfl (gl_at hL hl) (kk H locs ls hP hS hL)
theorem g_aloadN (S : CallFix p m c cc nL s args Ts own) {i : Nat} (hdg : decode cc pc = .ok (.aload i, 2)) (hl : lv[i]? = some (some .null))
    (kk : gW p l e R s m args below meth c A Q nL P k n (pc + 2) lv (.null :: st)) : gW p l e R s m args below meth c A Q nL P k n pc lv st := fun H locs ls hP hS hL => lv_aloadN S.1 S.2.1 hdg (gl_at hL hl) (kk H locs ls hP hS hL)
theorem g_istore_n (S : CallFix p m c cc nL s args Ts own) {i : Fin 4} {x : Int32} (hdg : decode cc pc = .ok (.istore_n i, 1)) (hi : (i : Nat) < nL) (hok : gl_ok lv (i : Nat) = true)
    (kk : gW p l e R s m args below meth c A Q nL P k n (pc + 1) (lv.set (i : Nat) (some (.int x))) st) : gW p l e R s m args below meth c A Q nL P k n pc lv (.int x :: st) := fun H locs ls hP hS hL => lv_istore_n S.1 S.2.1 hdg rfl hL.2 hi rfl (fun ls' h' => kk H locs ls' hP hS (gl_set1 hL hi hok h'))
theorem g_istore (S : CallFix p m c cc nL s args Ts own) {i : Nat} {x : Int32} (hdg : decode cc pc = .ok (.istore i, 2)) (hi : i < nL) (hok : gl_ok lv i = true)
    (kk : gW p l e R s m args below meth c A Q nL P k n (pc + 2) (lv.set i (some (.int x))) st) : gW p l e R s m args below meth c A Q nL P k n pc lv (.int x :: st) := fun H locs ls hP hS hL => lv_istore S.1 S.2.1 hdg hL.2 hi rfl (fun ls' h' => kk H locs ls' hP hS (gl_set1 hL hi hok h'))
theorem g_astore_n (S : CallFix p m c cc nL s args Ts own) {i : Fin 4} {x : Nat} (hdg : decode cc pc = .ok (.astore_n i, 1)) (hi : (i : Nat) < nL) (hok : gl_ok lv (i : Nat) = true)
    (kk : gW p l e R s m args below meth c A Q nL P k n (pc + 1) (lv.set (i : Nat) (some (.ref x))) st) : gW p l e R s m args below meth c A Q nL P k n pc lv (.ref x :: st) := fun H locs ls hP hS hL => lv_astore_n S.1 S.2.1 hdg rfl hL.2 hi rfl (fun ls' h' => kk H locs ls' hP hS (gl_set1 hL hi hok h'))
theorem g_astore (S : CallFix p m c cc nL s args Ts own) {i : Nat} {x : Nat} (hdg : decode cc pc = .ok (.astore i, 2)) (hi : i < nL) (hok : gl_ok lv i = true)
    (kk : gW p l e R s m args below meth c A Q nL P k n (pc + 2) (lv.set i (some (.ref x))) st) : gW p l e R s m args below meth c A Q nL P k n pc lv (.ref x :: st) := fun H locs ls hP hS hL => lv_astore S.1 S.2.1 hdg hL.2 hi rfl (fun ls' h' => kk H locs ls' hP hS (gl_set1 hL hi hok h'))
theorem g_astore_nN (S : CallFix p m c cc nL s args Ts own) {i : Fin 4} (hdg : decode cc pc = .ok (.astore_n i, 1)) (hi : (i : Nat) < nL) (hok : gl_ok lv (i : Nat) = true)
    (kk : gW p l e R s m args below meth c A Q nL P k n (pc + 1) (lv.set (i : Nat) (some .null)) st) : gW p l e R s m args below meth c A Q nL P k n pc lv (.null :: st) := fun H locs ls hP hS hL => lv_astore_nN S.1 S.2.1 hdg rfl hL.2 hi rfl (fun ls' h' => kk H locs ls' hP hS (gl_set1 hL hi hok h'))
theorem g_astoreN (S : CallFix p m c cc nL s args Ts own) {i : Nat} (hdg : decode cc pc = .ok (.astore i, 2)) (hi : i < nL) (hok : gl_ok lv i = true)
    (kk : gW p l e R s m args below meth c A Q nL P k n (pc + 2) (lv.set i (some .null)) st) : gW p l e R s m args below meth c A Q nL P k n pc lv (.null :: st) := fun H locs ls hP hS hL => lv_astoreN S.1 S.2.1 hdg hL.2 hi rfl (fun ls' h' => kk H locs ls' hP hS (gl_set1 hL hi hok h'))
theorem g_lstore_n (S : CallFix p m c cc nL s args Ts own) {i : Fin 4} {x : Int64} (hdg : decode cc pc = .ok (.lstore_n i, 1)) (hi : (i : Nat) + 1 < nL) (hok : gl_ok lv (i : Nat) = true)
    (kk : gW p l e R s m args below meth c A Q nL P k n (pc + 1) ((lv.set (i : Nat) (some (.long x))).set ((i : Nat) + 1) none) st) : gW p l e R s m args below meth c A Q nL P k n pc lv (.long x :: st) := fun H locs ls hP hS hL => lv_lstore_n S.1 S.2.1 hdg rfl hL.2 hi rfl (fun ls' h' => kk H locs ls' hP hS (gl_set2 hL hi hok h'))
theorem g_lstore (S : CallFix p m c cc nL s args Ts own) {i : Nat} {x : Int64} (hdg : decode cc pc = .ok (.lstore i, 2)) (hi : i + 1 < nL) (hok : gl_ok lv i = true)
    (kk : gW p l e R s m args below meth c A Q nL P k n (pc + 2) ((lv.set i (some (.long x))).set (i + 1) none) st) : gW p l e R s m args below meth c A Q nL P k n pc lv (.long x :: st) := fun H locs ls hP hS hL => lv_lstore S.1 S.2.1 hdg hL.2 hi rfl (fun ls' h' => kk H locs ls' hP hS (gl_set2 hL hi hok h'))
theorem gl_pr_idx {lv : List (Option Value)} {i : Nat} {v : Value} (h : lv[i]? = some (some v)) : ∃ j : Nat, (gl_pr 0 lv)[j]? = some (i, v) := by
  have := gl_pr_get lv 0 i v h
  rw [Nat.zero_add] at this
  exact List.getElem?_of_mem this
theorem g_iinc (S : CallFix p m c cc nL s args Ts own) {i : Nat} {z : Int} {x v : Int32} (hdg : decode cc pc = .ok (.iinc i z, 3)) (hl : lv[i]? = some (some (.int x))) (hv : x + Int32.ofInt z = v) (hi : i < nL) (hok : gl_ok lv i = true)
    (kk : gW p l e R s m args below meth c A Q nL P k n (pc + 3) (lv.set i (some (.int v))) st) : gW p l e R s m args below meth c A Q nL P k n pc lv st := by
  obtain ⟨j, hj⟩ := gl_pr_idx hl
  exact fun H locs ls hP hS hL => lv_iinc S.1 S.2.1 hdg hL.2 hj hv hi rfl (fun ls' h' => kk H locs ls' hP hS (gl_set1 hL hi hok h'))
theorem g_iadd (S : CallFix p m c cc nL s args Ts own) {x y : Int32} (hdg : decode cc pc = .ok (.iadd, 1))
    (kk : gW p l e R s m args below meth c A Q nL P k n (pc + 1) lv (.int (x + y) :: st)) : gW p l e R s m args below meth c A Q nL P k n pc lv (.int y :: .int x :: st) := fun H locs ls hP hS hl => lv_iadd S.1 S.2.1 hdg (kk H locs ls hP hS hl)
theorem g_isub (S : CallFix p m c cc nL s args Ts own) {x y : Int32} (hdg : decode cc pc = .ok (.isub, 1))
    (kk : gW p l e R s m args below meth c A Q nL P k n (pc + 1) lv (.int (x - y) :: st)) : gW p l e R s m args below meth c A Q nL P k n pc lv (.int y :: .int x :: st) := fun H locs ls hP hS hl => lv_isub S.1 S.2.1 hdg (kk H locs ls hP hS hl)
theorem g_imul (S : CallFix p m c cc nL s args Ts own) {x y : Int32} (hdg : decode cc pc = .ok (.imul, 1))
    (kk : gW p l e R s m args below meth c A Q nL P k n (pc + 1) lv (.int (x * y) :: st)) : gW p l e R s m args below meth c A Q nL P k n pc lv (.int y :: .int x :: st) := fun H locs ls hP hS hl => lv_imul S.1 S.2.1 hdg (kk H locs ls hP hS hl)
theorem g_iand (S : CallFix p m c cc nL s args Ts own) {x y : Int32} (hdg : decode cc pc = .ok (.iand, 1))
    (kk : gW p l e R s m args below meth c A Q nL P k n (pc + 1) lv (.int (x &&& y) :: st)) : gW p l e R s m args below meth c A Q nL P k n pc lv (.int y :: .int x :: st) := fun H locs ls hP hS hl => lv_iand S.1 S.2.1 hdg (kk H locs ls hP hS hl)
theorem g_idiv (S : CallFix p m c cc nL s args Ts own) {x y : Int32} (hdg : decode cc pc = .ok (.idiv, 1)) (hne : ¬ y = 0)
    (kk : gW p l e R s m args below meth c A Q nL P k n (pc + 1) lv (.int (x / y) :: st)) : gW p l e R s m args below meth c A Q nL P k n pc lv (.int y :: .int x :: st) := fun H locs ls hP hS hl => lv_idiv S.1 S.2.1 hdg hne (kk H locs ls hP hS hl)
theorem g_ineg (S : CallFix p m c cc nL s args Ts own) {x : Int32} (hdg : decode cc pc = .ok (.ineg, 1))
    (kk : gW p l e R s m args below meth c A Q nL P k n (pc + 1) lv (.int (-x) :: st)) : gW p l e R s m args below meth c A Q nL P k n pc lv (.int x :: st) := fun H locs ls hP hS hl => lv_ineg S.1 S.2.1 hdg (kk H locs ls hP hS hl)
theorem g_ladd (S : CallFix p m c cc nL s args Ts own) {x y : Int64} (hdg : decode cc pc = .ok (.ladd, 1))
    (kk : gW p l e R s m args below meth c A Q nL P k n (pc + 1) lv (.long (x + y) :: st)) : gW p l e R s m args below meth c A Q nL P k n pc lv (.long y :: .long x :: st) := fun H locs ls hP hS hl => lv_ladd S.1 S.2.1 hdg (kk H locs ls hP hS hl)
theorem g_lsub (S : CallFix p m c cc nL s args Ts own) {x y : Int64} (hdg : decode cc pc = .ok (.lsub, 1))
    (kk : gW p l e R s m args below meth c A Q nL P k n (pc + 1) lv (.long (x - y) :: st)) : gW p l e R s m args below meth c A Q nL P k n pc lv (.long y :: .long x :: st) := fun H locs ls hP hS hl => lv_lsub S.1 S.2.1 hdg (kk H locs ls hP hS hl)
theorem g_lmul (S : CallFix p m c cc nL s args Ts own) {x y : Int64} (hdg : decode cc pc = .ok (.lmul, 1))
    (kk : gW p l e R s m args below meth c A Q nL P k n (pc + 1) lv (.long (x * y) :: st)) : gW p l e R s m args below meth c A Q nL P k n pc lv (.long y :: .long x :: st) := fun H locs ls hP hS hl => lv_lmul S.1 S.2.1 hdg (kk H locs ls hP hS hl)
theorem g_ldiv (S : CallFix p m c cc nL s args Ts own) {x y : Int64} (hdg : decode cc pc = .ok (.ldiv, 1)) (hne : ¬ y = 0)
    (kk : gW p l e R s m args below meth c A Q nL P k n (pc + 1) lv (.long (x / y) :: st)) : gW p l e R s m args below meth c A Q nL P k n pc lv (.long y :: .long x :: st) := fun H locs ls hP hS hl => lv_ldiv S.1 S.2.1 hdg hne (kk H locs ls hP hS hl)
theorem g_lrem (S : CallFix p m c cc nL s args Ts own) {x y : Int64} (hdg : decode cc pc = .ok (.lrem, 1)) (hne : ¬ y = 0)
    (kk : gW p l e R s m args below meth c A Q nL P k n (pc + 1) lv (.long (x - x / y * y) :: st)) : gW p l e R s m args below meth c A Q nL P k n pc lv (.long y :: .long x :: st) := fun H locs ls hP hS hl => lv_lrem S.1 S.2.1 hdg hne (kk H locs ls hP hS hl)
theorem g_i2l (S : CallFix p m c cc nL s args Ts own) {x : Int32} (hdg : decode cc pc = .ok (.i2l, 1))
    (kk : gW p l e R s m args below meth c A Q nL P k n (pc + 1) lv (.long x.toInt64 :: st)) : gW p l e R s m args below meth c A Q nL P k n pc lv (.int x :: st) := fun H locs ls hP hS hl => lv_i2l S.1 S.2.1 hdg rfl (kk H locs ls hP hS hl)
theorem g_l2i (S : CallFix p m c cc nL s args Ts own) {x : Int64} (hdg : decode cc pc = .ok (.l2i, 1))
    (kk : gW p l e R s m args below meth c A Q nL P k n (pc + 1) lv (.int x.toInt32 :: st)) : gW p l e R s m args below meth c A Q nL P k n pc lv (.long x :: st) := fun H locs ls hP hS hl => lv_l2i S.1 S.2.1 hdg rfl (kk H locs ls hP hS hl)
theorem g_lcmp (S : CallFix p m c cc nL s args Ts own) {x y : Int64} (hdg : decode cc pc = .ok (.lcmp, 1))
    (kk : gW p l e R s m args below meth c A Q nL P k n (pc + 1) lv (.int (lg_cmp x y) :: st)) : gW p l e R s m args below meth c A Q nL P k n pc lv (.long y :: .long x :: st) := fun H locs ls hP hS hl => W.lcmp S.1 S.2.1 hdg (kk H locs ls hP hS hl)
theorem g_dup (S : CallFix p m c cc nL s args Ts own) {va : Value} (hdg : decode cc pc = .ok (.dup, 1)) (hva : va.category = 1)
    (kk : gW p l e R s m args below meth c A Q nL P k n (pc + 1) lv (va :: va :: st)) : gW p l e R s m args below meth c A Q nL P k n pc lv (va :: st) := fun H locs ls hP hS hl => lv_dup S.1 S.2.1 hdg hva (kk H locs ls hP hS hl)
theorem g_pop (S : CallFix p m c cc nL s args Ts own) {va : Value} (hdg : decode cc pc = .ok (.pop, 1)) (hva : va.category = 1)
    (kk : gW p l e R s m args below meth c A Q nL P k n (pc + 1) lv st) : gW p l e R s m args below meth c A Q nL P k n pc lv (va :: st) := fun H locs ls hP hS hl => lv_pop S.1 S.2.1 hdg hva (kk H locs ls hP hS hl)
theorem g_dup_x1 (S : CallFix p m c cc nL s args Ts own) {va vb : Value} (hdg : decode cc pc = .ok (.dup_x1, 1)) (hva : va.category = 1) (hvb : vb.category = 1)
    (kk : gW p l e R s m args below meth c A Q nL P k n (pc + 1) lv (va :: vb :: va :: st)) : gW p l e R s m args below meth c A Q nL P k n pc lv (va :: vb :: st) := fun H locs ls hP hS hl => lv_dup_x1 S.1 S.2.1 hdg hva hvb (kk H locs ls hP hS hl)
theorem g_dup2_11 (S : CallFix p m c cc nL s args Ts own) {va vb : Value} (hdg : decode cc pc = .ok (.dup2, 1)) (hva : va.category = 1) (hvb : vb.category = 1)
    (kk : gW p l e R s m args below meth c A Q nL P k n (pc + 1) lv (va :: vb :: va :: vb :: st)) : gW p l e R s m args below meth c A Q nL P k n pc lv (va :: vb :: st) := fun H locs ls hP hS hl => lv_dup2_11 S.1 S.2.1 hdg hva hvb (kk H locs ls hP hS hl)
theorem g_null (S : CallFix p m c cc nL s args Ts own) (hdg : decode cc pc = .ok (.aconst_null, 1))
    (kk : gW p l e R s m args below meth c A Q nL P k n (pc + 1) lv (.null :: st)) : gW p l e R s m args below meth c A Q nL P k n pc lv st := fun H locs ls hP hS hl => lv_null S.1 S.2.1 hdg (kk H locs ls hP hS hl)
theorem g_ldc (S : CallFix p m c cc nL s args Ts own) {index : Nat} {v : Int32} (hconst : (Jvm.Cond.constant own index v).before args s = true) (hdg : decode cc pc = .ok (.ldc index, 2))
    (kk : gW p l e R s m args below meth c A Q nL P k n (pc + 2) lv (.int v :: st)) : gW p l e R s m args below meth c A Q nL P k n pc lv st := fun H locs ls hP hS hl => lv_ldc S.1 S.2.1 S.2.2.2.1 hconst hdg (kk H locs ls hP hS hl)
theorem g_ldcw (S : CallFix p m c cc nL s args Ts own) {index : Nat} {v : Int32} (hconst : (Jvm.Cond.constant own index v).before args s = true) (hdg : decode cc pc = .ok (.ldc_w index, 3))
    (kk : gW p l e R s m args below meth c A Q nL P k n (pc + 3) lv (.int v :: st)) : gW p l e R s m args below meth c A Q nL P k n pc lv st := fun H locs ls hP hS hl => lv_ldcw S.1 S.2.1 S.2.2.2.1 hconst hdg (kk H locs ls hP hS hl)
theorem g_ldc2 (S : CallFix p m c cc nL s args Ts own) {index : Nat} {v : Int64} (hconst : (Jvm.Cond.constantLong own index v).before args s = true) (hdg : decode cc pc = .ok (.ldc2_w index, 3))
    (kk : gW p l e R s m args below meth c A Q nL P k n (pc + 3) lv (.long v :: st)) : gW p l e R s m args below meth c A Q nL P k n pc lv st := fun H locs ls hP hS hl => lv_ldc2 S.1 S.2.1 S.2.2.2.1 hconst hdg (kk H locs ls hP hS hl)
theorem g_goto (S : CallFix p m c cc nL s args Ts own) {off : Int} {tgt : Nat} (hdg : decode cc pc = .ok (.goto off, 3)) (ht : (pc : Int) + off = (tgt : Int))
    (kk : gW p l e R s m args below meth c A Q nL P k n tgt lv st) : gW p l e R s m args below meth c A Q nL P k n pc lv st := fun H locs ls hP hS hl => lv_goto S.1 S.2.1 hdg ht (kk H locs ls hP hS hl)
theorem g_if_eq (S : CallFix p m c cc nL s args Ts own) {x : Int32} {off : Int} {tgt : Nat} (hdg : decode cc pc = .ok (.ifCond .eq off, 3)) (ht : (pc : Int) + off = (tgt : Int))
    (kt : x = 0 → gW p l e R s m args below meth c A Q nL P k n tgt lv st) (kf : ¬ x = 0 → gW p l e R s m args below meth c A Q nL P k n (pc + 3) lv st) : gW p l e R s m args below meth c A Q nL P k n pc lv (.int x :: st) := fun H locs ls hP hS hl => lv_if_eq S.1 S.2.1 hdg ht (fun z => kt z H locs ls hP hS hl) (fun z => kf z H locs ls hP hS hl)
theorem g_icmp_eq (S : CallFix p m c cc nL s args Ts own) {x y : Int32} {off : Int} {tgt : Nat} (hdg : decode cc pc = .ok (.if_icmp .eq off, 3)) (ht : (pc : Int) + off = (tgt : Int))
    (kt : x = y → gW p l e R s m args below meth c A Q nL P k n tgt lv st) (kf : ¬ x = y → gW p l e R s m args below meth c A Q nL P k n (pc + 3) lv st) : gW p l e R s m args below meth c A Q nL P k n pc lv (.int y :: .int x :: st) := fun H locs ls hP hS hl => lv_icmp_eq S.1 S.2.1 hdg ht (fun z => kt z H locs ls hP hS hl) (fun z => kf z H locs ls hP hS hl)
theorem g_if_ne (S : CallFix p m c cc nL s args Ts own) {x : Int32} {off : Int} {tgt : Nat} (hdg : decode cc pc = .ok (.ifCond .ne off, 3)) (ht : (pc : Int) + off = (tgt : Int))
    (kt : ¬ x = 0 → gW p l e R s m args below meth c A Q nL P k n tgt lv st) (kf : x = 0 → gW p l e R s m args below meth c A Q nL P k n (pc + 3) lv st) : gW p l e R s m args below meth c A Q nL P k n pc lv (.int x :: st) := fun H locs ls hP hS hl => lv_if_ne S.1 S.2.1 hdg ht (fun z => kt z H locs ls hP hS hl) (fun z => kf z H locs ls hP hS hl)
theorem g_icmp_ne (S : CallFix p m c cc nL s args Ts own) {x y : Int32} {off : Int} {tgt : Nat} (hdg : decode cc pc = .ok (.if_icmp .ne off, 3)) (ht : (pc : Int) + off = (tgt : Int))
    (kt : ¬ x = y → gW p l e R s m args below meth c A Q nL P k n tgt lv st) (kf : x = y → gW p l e R s m args below meth c A Q nL P k n (pc + 3) lv st) : gW p l e R s m args below meth c A Q nL P k n pc lv (.int y :: .int x :: st) := fun H locs ls hP hS hl => lv_icmp_ne S.1 S.2.1 hdg ht (fun z => kt z H locs ls hP hS hl) (fun z => kf z H locs ls hP hS hl)
theorem g_if_lt (S : CallFix p m c cc nL s args Ts own) {x : Int32} {off : Int} {tgt : Nat} (hdg : decode cc pc = .ok (.ifCond .lt off, 3)) (ht : (pc : Int) + off = (tgt : Int))
    (kt : x < 0 → gW p l e R s m args below meth c A Q nL P k n tgt lv st) (kf : ¬ x < 0 → gW p l e R s m args below meth c A Q nL P k n (pc + 3) lv st) : gW p l e R s m args below meth c A Q nL P k n pc lv (.int x :: st) := fun H locs ls hP hS hl => lv_if_lt S.1 S.2.1 hdg ht (fun z => kt z H locs ls hP hS hl) (fun z => kf z H locs ls hP hS hl)
theorem g_icmp_lt (S : CallFix p m c cc nL s args Ts own) {x y : Int32} {off : Int} {tgt : Nat} (hdg : decode cc pc = .ok (.if_icmp .lt off, 3)) (ht : (pc : Int) + off = (tgt : Int))
    (kt : x < y → gW p l e R s m args below meth c A Q nL P k n tgt lv st) (kf : ¬ x < y → gW p l e R s m args below meth c A Q nL P k n (pc + 3) lv st) : gW p l e R s m args below meth c A Q nL P k n pc lv (.int y :: .int x :: st) := fun H locs ls hP hS hl => lv_icmp_lt S.1 S.2.1 hdg ht (fun z => kt z H locs ls hP hS hl) (fun z => kf z H locs ls hP hS hl)
theorem g_if_ge (S : CallFix p m c cc nL s args Ts own) {x : Int32} {off : Int} {tgt : Nat} (hdg : decode cc pc = .ok (.ifCond .ge off, 3)) (ht : (pc : Int) + off = (tgt : Int))
    (kt : 0 ≤ x → gW p l e R s m args below meth c A Q nL P k n tgt lv st) (kf : ¬ 0 ≤ x → gW p l e R s m args below meth c A Q nL P k n (pc + 3) lv st) : gW p l e R s m args below meth c A Q nL P k n pc lv (.int x :: st) := fun H locs ls hP hS hl => lv_if_ge S.1 S.2.1 hdg ht (fun z => kt z H locs ls hP hS hl) (fun z => kf z H locs ls hP hS hl)
theorem g_icmp_ge (S : CallFix p m c cc nL s args Ts own) {x y : Int32} {off : Int} {tgt : Nat} (hdg : decode cc pc = .ok (.if_icmp .ge off, 3)) (ht : (pc : Int) + off = (tgt : Int))
    (kt : y ≤ x → gW p l e R s m args below meth c A Q nL P k n tgt lv st) (kf : ¬ y ≤ x → gW p l e R s m args below meth c A Q nL P k n (pc + 3) lv st) : gW p l e R s m args below meth c A Q nL P k n pc lv (.int y :: .int x :: st) := fun H locs ls hP hS hl => lv_icmp_ge S.1 S.2.1 hdg ht (fun z => kt z H locs ls hP hS hl) (fun z => kf z H locs ls hP hS hl)
theorem g_if_gt (S : CallFix p m c cc nL s args Ts own) {x : Int32} {off : Int} {tgt : Nat} (hdg : decode cc pc = .ok (.ifCond .gt off, 3)) (ht : (pc : Int) + off = (tgt : Int))
    (kt : 0 < x → gW p l e R s m args below meth c A Q nL P k n tgt lv st) (kf : ¬ 0 < x → gW p l e R s m args below meth c A Q nL P k n (pc + 3) lv st) : gW p l e R s m args below meth c A Q nL P k n pc lv (.int x :: st) := fun H locs ls hP hS hl => lv_if_gt S.1 S.2.1 hdg ht (fun z => kt z H locs ls hP hS hl) (fun z => kf z H locs ls hP hS hl)
theorem g_icmp_gt (S : CallFix p m c cc nL s args Ts own) {x y : Int32} {off : Int} {tgt : Nat} (hdg : decode cc pc = .ok (.if_icmp .gt off, 3)) (ht : (pc : Int) + off = (tgt : Int))
    (kt : y < x → gW p l e R s m args below meth c A Q nL P k n tgt lv st) (kf : ¬ y < x → gW p l e R s m args below meth c A Q nL P k n (pc + 3) lv st) : gW p l e R s m args below meth c A Q nL P k n pc lv (.int y :: .int x :: st) := fun H locs ls hP hS hl => lv_icmp_gt S.1 S.2.1 hdg ht (fun z => kt z H locs ls hP hS hl) (fun z => kf z H locs ls hP hS hl)
theorem g_if_le (S : CallFix p m c cc nL s args Ts own) {x : Int32} {off : Int} {tgt : Nat} (hdg : decode cc pc = .ok (.ifCond .le off, 3)) (ht : (pc : Int) + off = (tgt : Int))
    (kt : x ≤ 0 → gW p l e R s m args below meth c A Q nL P k n tgt lv st) (kf : ¬ x ≤ 0 → gW p l e R s m args below meth c A Q nL P k n (pc + 3) lv st) : gW p l e R s m args below meth c A Q nL P k n pc lv (.int x :: st) := fun H locs ls hP hS hl => lv_if_le S.1 S.2.1 hdg ht (fun z => kt z H locs ls hP hS hl) (fun z => kf z H locs ls hP hS hl)
theorem g_icmp_le (S : CallFix p m c cc nL s args Ts own) {x y : Int32} {off : Int} {tgt : Nat} (hdg : decode cc pc = .ok (.if_icmp .le off, 3)) (ht : (pc : Int) + off = (tgt : Int))
    (kt : x ≤ y → gW p l e R s m args below meth c A Q nL P k n tgt lv st) (kf : ¬ x ≤ y → gW p l e R s m args below meth c A Q nL P k n (pc + 3) lv st) : gW p l e R s m args below meth c A Q nL P k n pc lv (.int y :: .int x :: st) := fun H locs ls hP hS hl => lv_icmp_le S.1 S.2.1 hdg ht (fun z => kt z H locs ls hP hS hl) (fun z => kf z H locs ls hP hS hl)
theorem g_acmp_eq (S : CallFix p m c cc nL s args Ts own) {a b : Nat} {off : Int} {tgt : Nat} (hdg : decode cc pc = .ok (.if_acmp .eq off, 3)) (ht : (pc : Int) + off = (tgt : Int))
    (kt : a = b → gW p l e R s m args below meth c A Q nL P k n tgt lv st) (kf : ¬ a = b → gW p l e R s m args below meth c A Q nL P k n (pc + 3) lv st) : gW p l e R s m args below meth c A Q nL P k n pc lv (.ref b :: .ref a :: st) := fun H locs ls hP hS hl => lv_acmp_eq (rx := some a) (ry := some b) S.1 S.2.1 hdg ht (fun z => kt (Option.some.inj z) H locs ls hP hS hl) (fun z => kf (fun q => z (congrArg some q)) H locs ls hP hS hl)
theorem g_acmp_ne (S : CallFix p m c cc nL s args Ts own) {a b : Nat} {off : Int} {tgt : Nat} (hdg : decode cc pc = .ok (.if_acmp .ne off, 3)) (ht : (pc : Int) + off = (tgt : Int))
    (kt : ¬ a = b → gW p l e R s m args below meth c A Q nL P k n tgt lv st) (kf : a = b → gW p l e R s m args below meth c A Q nL P k n (pc + 3) lv st) : gW p l e R s m args below meth c A Q nL P k n pc lv (.ref b :: .ref a :: st) := fun H locs ls hP hS hl => lv_acmp_ne (rx := some a) (ry := some b) S.1 S.2.1 hdg ht (fun z => kt (fun q => z (congrArg some q)) H locs ls hP hS hl) (fun z => kf (Option.some.inj z) H locs ls hP hS hl)
theorem g_ifnonnull (S : CallFix p m c cc nL s args Ts own) {a : Nat} {off : Int} {tgt : Nat} (hdg : decode cc pc = .ok (.ifnonnull off, 3)) (ht : (pc : Int) + off = (tgt : Int)) (kk : gW p l e R s m args below meth c A Q nL P k n tgt lv st) : gW p l e R s m args below meth c A Q nL P k n pc lv (.ref a :: st) := fun H locs ls hP hS hl => lv_ifnonnull S.1 S.2.1 hdg ht (kk H locs ls hP hS hl)
theorem g_ifnonnullN (S : CallFix p m c cc nL s args Ts own) {off : Int} (hdg : decode cc pc = .ok (.ifnonnull off, 3)) (kk : gW p l e R s m args below meth c A Q nL P k n (pc + 3) lv st) : gW p l e R s m args below meth c A Q nL P k n pc lv (.null :: st) := fun H locs ls hP hS hl => lv_ifnonnullN S.1 S.2.1 hdg (kk H locs ls hP hS hl)
theorem g_ifnull (S : CallFix p m c cc nL s args Ts own) {a : Nat} {off : Int} (hdg : decode cc pc = .ok (.ifnull off, 3)) (kk : gW p l e R s m args below meth c A Q nL P k n (pc + 3) lv st) : gW p l e R s m args below meth c A Q nL P k n pc lv (.ref a :: st) := fun H locs ls hP hS hl => lv_ifnull S.1 S.2.1 hdg (kk H locs ls hP hS hl)
theorem g_ifnullN (S : CallFix p m c cc nL s args Ts own) {off : Int} {tgt : Nat} (hdg : decode cc pc = .ok (.ifnull off, 3)) (ht : (pc : Int) + off = (tgt : Int)) (kk : gW p l e R s m args below meth c A Q nL P k n tgt lv st) : gW p l e R s m args below meth c A Q nL P k n pc lv (.null :: st) := fun H locs ls hP hS hl => lv_ifnullN S.1 S.2.1 hdg ht (kk H locs ls hP hS hl)
theorem g_widen {k' n' : Nat} (h1 : k ≤ k') (h2 : n ≤ n') (kk : gW p l e R s m args below meth c A Q nL P k' n' pc lv st) : gW p l e R s m args below meth c A Q nL P k n pc lv st := fun H locs ls hP hS hl => W.widen h1 h2 (kk H locs ls hP hS hl)
theorem g_P {P' : Heap → Prop} (h : ∀ H, P H → P' H) (kk : gW p l e R s m args below meth c A Q nL P' k n pc lv st) : gW p l e R s m args below meth c A Q nL P k n pc lv st := fun H locs ls hP hS hl => kk H locs ls (h H hP) hS hl
theorem g_ex {α : Sort _} {P' : α → Heap → Prop} (h : ∀ H, P H → ∃ a, P' a H) (kk : ∀ a, gW p l e R s m args below meth c A Q nL (P' a) k n pc lv st) : gW p l e R s m args below meth c A Q nL P k n pc lv st := fun H locs ls hP hS hl => (h H hP).elim fun a ha => kk a H locs ls ha hS hl
theorem g_and {b : Prop} {P' : Heap → Prop} (h : ∀ H, P H → b ∧ P' H) (kk : b → gW p l e R s m args below meth c A Q nL P' k n pc lv st) : gW p l e R s m args below meth c A Q nL P k n pc lv st := fun H locs ls hP hS hl => kk (h H hP).1 H locs ls (h H hP).2 hS hl
theorem g_lv {lv' : List (Option Value)} (h : lv = lv') (kk : gW p l e R s m args below meth c A Q nL P k n pc lv' st) : gW p l e R s m args below meth c A Q nL P k n pc lv st := h ▸ kk
/-- fewer locals known -/
theorem g_less {lv' : List (Option Value)} (h : lv'.length = lv.length) (hs : ∀ (i : Nat) (v : Value), lv'[i]? = some (some v) → lv[i]? = some (some v)) (kk : gW p l e R s m args below meth c A Q nL P k n pc lv' st) : gW p l e R s m args below meth c A Q nL P k n pc lv st := fun H locs ls hP hS hl => kk H locs ls hP hS ⟨h.trans hl.1, hl.2.1, hl.2.2.1, fun q hq => by
  obtain ⟨-, hq2⟩ := gl_pr_mem _ 0 q hq
  rw [Nat.sub_zero] at hq2
  exact gl_at hl (hs _ _ hq2)⟩
theorem g_st {st' : List Value} (h : st = st') (kk : gW p l e R s m args below meth c A Q nL P k n pc lv st') : gW p l e R s m args below meth c A Q nL P k n pc lv st := h ▸ kk
def gtys (ty : Nat → ClassId) : List (ClassId × FieldType) := [(ty 0, .int), (ty 1, .long), (ty 2, .boolean), (ty 3, .object "java/lang/Object")]
def exB : List Cond := [.castable "java/lang/IllegalArgumentException" "java/lang/IllegalArgumentException", .castable "java/lang/IllegalStateException" "java/lang/IllegalStateException", .castable "java/lang/IndexOutOfBoundsException" "java/lang/IndexOutOfBoundsException", .castable "Grainledger$Contract" "java/lang/Object", .castable "Grainledger$Delivery" "java/lang/Object", .castable "Grainledger$Receipt" "java/lang/Object", .castable "Grainledger$Silo" "java/lang/Object", .declares (Bundle.initS "java/lang/RuntimeException"), .declares (Bundle.initS "java/lang/Exception"), .declares (Bundle.initS Bundle.tN)]
theorem exB_moved {s U : State} (hW : s.WarmedH U.vm) (h : ∀ w ∈ exB, va_Nw w s) : ∀ w ∈ exB, va_Nw w U := by
  intro w hw
  have h9 := h w hw
  simp only [exB, List.mem_cons, List.not_mem_nil, or_false] at hw
  rcases hw with rfl | rfl | rfl | rfl | rfl | rfl | rfl | rfl | rfl | rfl
  · exact va_Nw.warmC hW h9
  · exact va_Nw.warmC hW h9
  · exact va_Nw.warmC hW h9
  · exact va_Nw.warmC hW h9
  · exact va_Nw.warmC hW h9
  · exact va_Nw.warmC hW h9
  · exact va_Nw.warmC hW h9
  · exact va_Nw.warmD hW h9
  · exact va_Nw.warmD hW h9
  · exact va_Nw.warmD hW h9
theorem exB_use {s : State} (h : ∀ w ∈ exB, va_Nw w s) (args : Array Value) : ∀ w ∈ exB, w.before args s = true := by
  intro w hw
  have h9 := h w hw
  simp only [exB, List.mem_cons, List.not_mem_nil, or_false] at hw
  rcases hw with rfl | rfl | rfl | rfl | rfl | rfl | rfl | rfl | rfl | rfl <;> exact va_Nw.use rfl h9
/-- exceptions that are not of each other's class -/
def ncB : List (String × String) := [("java/lang/IllegalArgumentException", "java/lang/IllegalStateException"), ("java/lang/IllegalArgumentException", "java/lang/IndexOutOfBoundsException"), ("java/lang/IllegalStateException", "java/lang/IllegalArgumentException"), ("java/lang/IllegalStateException", "java/lang/IndexOutOfBoundsException"), ("java/lang/IndexOutOfBoundsException", "java/lang/IllegalArgumentException"), ("java/lang/IndexOutOfBoundsException", "java/lang/IllegalStateException")]
/-- what the machine's statics and constants are, for the class that makes and throws; nothing for one that doesn't -/
def gE (b : Bool) (strs : List (Nat × String)) (A : Nat → Prop) (tE : Nat) (U : State) (H : Heap) : Prop := b = true →
  vx_Zq Bundle.tN "UNASSIGNED_STACK" Bundle.steD A U H ∧ vx_Zq Bundle.tN "SUPPRESSED_SENTINEL" Bundle.listD A U H ∧ (∀ q ∈ strs, ∃ sa, vk_R RX5 q.1 q.2 sa U) ∧ (∀ q, H.size ≤ q → A q) ∧
  va_Z "java/util/ArrayList" "DEFAULTCAPACITY_EMPTY_ELEMENTDATA" "[Ljava/lang/Object;" (.ref tE) A U H ∧ va_T (.object "java/lang/Object") tE 0 (fun _ => .null) A U H ∧ (∃ mi, va_Mi "[Ljava/lang/Object;" mi U) ∧ va_Dc U ∧ (va_AO "java/lang/Object" U ∧ ∀ q ∈ ncB, va_Nc q.1 q.2 U) ∧ ∀ w ∈ exB, va_Nw w U
theorem gE.moved {b : Bool} {strs : List (Nat × String)} {A : Nat → Prop} {tE : Nat} {s U : State} {H H1 : Heap} (h : gE b strs A tE s H) (hW : s.WarmedH U.vm) (hz : H.size ≤ H1.size) (hq : ∀ a : Nat, a < H.size → ¬ A a → H1[a]? = H[a]?) : gE b strs A tE U H1 := by
  intro hb
  obtain ⟨h1, h2, h3, h4, h5, h6, ⟨mi, h7⟩, h8, h9, h10⟩ := h hb
  exact ⟨vx_Zq.moved hW.alike (h1.kept hq), vx_Zq.moved hW.alike (h2.kept hq), fun q hq9 => (h3 q hq9).elim fun sa z => ⟨sa, vk_R.warm hW z⟩, fun q z => h4 q (Nat.le_trans hz z), va_Z.moved hW.alike (h5.kept hq), va_T.moved hW.alike (h6.kept hq), ⟨mi, h7.moved hW.alike⟩, h8.moved hW.alike, ⟨h9.1.moved hW.alike, fun q hq9 => (h9.2 q hq9).moved hW.alike⟩, exB_moved hW h10⟩
def gK (D : va_G) (ty : Nat → ClassId) (U : State) : Prop := va_K D vwCl (gtys ty) U ∧ ∀ (ci : Nat) (q : vw_C), vwCl[ci]? = some q → ∀ w ∈ u_ws q.1 q.2.1 q.2.2, ∀ a : Array Value, w.before a U = true
theorem u_lay_ok {C : String} {T : u_T} {N : Nat} {w : Cond} (h : w ∈ u_ws C T N) : (w.onTables && w.keeps) = true := by
  obtain ⟨k, -, rfl⟩ := List.mem_map.mp h
  unfold u_lay
  split <;> rfl
theorem gK.moved {D : va_G} {ty : Nat → ClassId} {s U : State} (hW : s.WarmedH U.vm) (h : gK D ty s) : gK D ty U := ⟨va_K.moved hW.alike h.1, fun ci q hq w hw a => word_at (args := a) hW (Or.inl (u_lay_ok hw)) (h.2 ci q hq w hw a)⟩
def gPc (D : va_G) (ty : Nat → ClassId) (b : Bool) (strs : List (Nat × String)) (tE : Nat) (A : Nat → Prop) (av : List Value) (P : Heap → Prop) : Array Value → State → Prop := fun v U => v = av.toArray ∧ P U.heap ∧ gK D ty U ∧ gE b strs A tE U U.heap
def gQ (A : Nat → Prop) (Post : Option Value → Heap → Prop) : Array Value → State → Outcome → State → Prop := fun _ st o t => (∃ r, o = .returned r ∧ Post r t.heap) ∧ va_F A st t
def gX (A : Nat → Prop) (PX : String → Heap → Prop) : String → State → State → Prop := fun E st t => PX E t.heap ∧ va_F A st t
theorem gPc_blind {D : va_G} {ty : Nat → ClassId} {b : Bool} {strs : List (Nat × String)} {tE : Nat} {A : Nat → Prop} {av : List Value} {P : Heap → Prop} : FrameBlind (gPc D ty b strs tE A av P) := by
  intro a U g mk q
  obtain ⟨q1, q2, q3, q4⟩ := q
  exact ⟨q1, q2, gK.moved (s := U) (U := U.calling g mk a) (State.WarmedH.refl U) q3, q4.moved (U := U.calling g mk a) (State.WarmedH.refl U) (Nat.le_refl _) (fun _ _ _ => rfl)⟩
theorem g_S {A : Nat → Prop} {s : State} {H : Heap} {locs : List Loc} (hS : va_S A s.heap H locs) : s.heap.size ≤ H.size ∧ ∀ a : Nat, a < s.heap.size → ¬ A a → H[a]? = s.heap[a]? := ⟨hS.1, hS.2.1⟩
theorem gPc_at {D : va_G} {ty : Nat → ClassId} {b : Bool} {strs : List (Nat × String)} {tE : Nat} {A : Nat → Prop} {av : List Value} {P : Heap → Prop} {s : State} {H : Heap} {locs : List Loc} (hK : gK D ty s) (hE : gE b strs A tE s s.heap) (hP : P H) (hS : va_S A s.heap H locs) : ∀ U : State, U.heap = H → s.WarmedH U.vm → gPc D ty b strs tE A av P av.toArray U := by
  intro U hU hW
  refine ⟨rfl, by rw [hU]; exact hP, gK.moved hW hK, ?_⟩
  rw [hU]
  exact hE.moved hW hS.1 hS.2.1
section CALLS
variable {D : va_G} {ty : Nat → ClassId} {b : Bool} {strs : List (Nat × String)} {tE : Nat} {y : MethodName} {bytes : ByteArray} {maxL mc ms na index : Nat} {ret : Option FieldType} {ws : List Cond} {rm : Room} {P1 : Heap → Prop} {Post : Option Value → Heap → Prop} {PX : String → Heap → Prop} {C : String} {b0 : Nat} {As : List Value}
theorem g_call {st0 : List Value} {a : Array Value} (hr : ∀ (H : Heap) (locs : List Loc) (ls : Array Slot), P H → va_S A s.heap H locs → gl_has ls nL lv → va_Run p l e R s m args below meth c H locs k n mc ms (F0 m pc ls st0) st (gQ A Post a) A)
    (kk : ∀ r : Option Value, gW p l e R s m args below meth c A Q nL (Post r) (k + mc) (n + ms) (pc + 3) lv (r.toList ++ st)) : gW p l e R s m args below meth c A Q nL P k n pc lv st0 := by
  intro H locs ls hP hS hl T hT X
  obtain ⟨v, st₀, t, T', L, h0, X', hL, e1, e2, ⟨⟨r, hv, hb⟩, hz, hk⟩, st9⟩ := hr H locs ls hP hS hl T hT X
  cases hv
  rw [h0] at hz hk
  obtain ⟨t2, a1, b1⟩ := kk v T'.heap (locs ++ L) ls (by rw [e1]; exact hb) ⟨Nat.le_trans hS.1 (by rw [e1]; exact hz), fun q h1 h2 => by rw [e1, hk q (Nat.lt_of_lt_of_le h1 hS.1) h2]; exact hS.2.1 q h1 h2, fun q hq => by
      rcases List.mem_append.mp hq with h | h
      · exact hS.2.2 q h
      · exact hL q h⟩ hl T' rfl X'
  exact ⟨t2, st9 t2 a1, b1⟩
theorem gl_size {ls : Array Slot} (h : gl_has ls nL lv) : ls.size = nL := h.2.1
/-- a virtual call of a method that returns -/
theorem g_callV (S : CallFix p m c cc nL s args Ts own) (hM : Met l y ws rm (gPc D ty b strs tE A (.ref b0 :: As) P1) (gQ A Post) mc ms A) (cw : CallW R s args own C index y bytes maxL ret ws rm mc ms na) (hK : gK D ty s) (hE : gE b strs A tE s s.heap)
    (hP1 : ∀ H, P H → P1 H) (hrecv : ∀ H, P H → ∃ cellB : Cell, H[b0]? = some cellB ∧ cellB.vm.isStatics = false ∧ s.vm.findClass C = some cellB.cls) (hn : As.length = na) (hcat : (st.map fun v => v.category).sum ≤ 8) (hdg : decode cc pc = .ok (.invokevirtual index, 3)) (hf : k + mc ≤ R.cells ∧ n + ms ≤ R.slots)
    (kk : ∀ r : Option Value, gW p l e R s m args below meth c A Q nL (Post r) (k + mc) (n + ms) (pc + 3) lv (r.toList ++ st)) : gW p l e R s m args below meth c A Q nL P k n pc lv (As.reverse ++ .ref b0 :: st) :=
  g_call (fun H locs ls hP hS hl => va_runV S hM cw ⟨gPc_blind, hrecv H hP, gPc_at hK hE (hP1 H hP) hS⟩ rfl hn (gl_size hl) rfl (lv_room hcat) hdg hf) kk
theorem g_callS (S : CallFix p m c cc nL s args Ts own) (hM : Met l y ws rm (gPc D ty b strs tE A As P1) (gQ A Post) mc ms A) (cw : CallB R s args own index y bytes maxL ret ws rm mc ms na ∧ (Cond.static y).before args s = true) (hK : gK D ty s) (hE : gE b strs A tE s s.heap)
    (hP1 : ∀ H, P H → P1 H) (hn : As.length = na) (hcat : (st.map fun v => v.category).sum ≤ 8) (hdg : decode cc pc = .ok (.invokestatic index, 3)) (hf : k + mc ≤ R.cells ∧ n + ms ≤ R.slots)
    (kk : ∀ r : Option Value, gW p l e R s m args below meth c A Q nL (Post r) (k + mc) (n + ms) (pc + 3) lv (r.toList ++ st)) : gW p l e R s m args below meth c A Q nL P k n pc lv (As.reverse ++ st) :=
  g_call (fun H locs ls hP hS hl => va_runS S hM cw ⟨gPc_blind, gPc_at hK hE (hP1 H hP) hS⟩ rfl hn (gl_size hl) rfl (lv_room hcat) hdg hf) kk
theorem g_callI (S : CallFix p m c cc nL s args Ts own) (hM : Met l y ws rm (gPc D ty b strs tE A (.ref b0 :: As) P1) (gQ A Post) mc ms A) (cw : CallB R s args own index y bytes maxL none ws rm mc ms na ∧ y.name = "<init>" ∧ (Cond.instanceMethod y).before args s = true) (hK : gK D ty s) (hE : gE b strs A tE s s.heap)
    (hP1 : ∀ H, P H → P1 H) (hn : As.length = na) (hcat : (st.map fun v => v.category).sum ≤ 8) (hdg : decode cc pc = .ok (.invokespecial index, 3)) (hf : k + mc ≤ R.cells ∧ n + ms ≤ R.slots)
    (kk : ∀ r : Option Value, gW p l e R s m args below meth c A Q nL (Post r) (k + mc) (n + ms) (pc + 3) lv (r.toList ++ st)) : gW p l e R s m args below meth c A Q nL P k n pc lv (As.reverse ++ .ref b0 :: st) :=
  g_call (fun H locs ls hP hS hl => va_runI S hM cw ⟨gPc_blind, gPc_at hK hE (hP1 H hP) hS⟩ rfl hn (gl_size hl) rfl (lv_room hcat) hdg hf) kk
/-- the goal with q thrown over the frame -/
def gXW (p : Program) (l : Launch) (e : Env) (R : Room) (s : State) (m : MethodId) (args : Array Value) (below : List Frame) (meth : Method) (c : Code) (A : Nat → Prop) (Q : State → Prop) (nL : Nat) (E : String) (P : Heap → Prop) (k n : Nat) (pc : Nat) (lv : List (Option Value)) (st : List Value) : Prop :=
  ∀ (H : Heap) (locs : List Loc) (ls : Array Slot) (q : Addr) (ce : Cell), P H → va_S A s.heap H locs → gl_has ls nL lv → H[q]? = some ce → ce.vm = .none → s.vm.findClass E = some ce.cls → vx_W p l e R s m args below meth c H locs k n Q (F0 m pc ls st) q
/-- a call of a method that throws -/
theorem g_tcall {st0 : List Value} {a : Array Value} (hr : ∀ (H : Heap) (locs : List Loc) (ls : Array Slot), P H → va_S A s.heap H locs → gl_has ls nL lv → vx_Run p l e R s m args below meth c H locs k n mc ms (F0 m pc ls st0) st (gQ A (fun _ _ => False) a) (gX A PX) A)
    (kx : ∀ E : String, gXW p l e R s m args below meth c A Q nL E (PX E) (k + mc) (n + ms) pc lv st) : gW p l e R s m args below meth c A Q nL P k n pc lv st0 := by
  intro H locs ls hP hS hl T hT X
  rcases hr H locs ls hP hS hl T hT X with ⟨v, st₀, t, T', L, h0, X', hL, e1, e2, ⟨⟨r, hv, hb⟩, hF⟩, st9⟩ | ⟨q, st₀, t, T', L, E, ce, h0, X', hL, e1, e2, ⟨hb, hz, hk⟩, hce, hcv, hcl, st9⟩
  · exact hb.elim
  · rw [h0] at hz hk
    obtain ⟨t2, a1, b1⟩ := kx E T'.heap (locs ++ L) ls q ce (by rw [e1]; exact hb) ⟨Nat.le_trans hS.1 (by rw [e1]; exact hz), fun q h1 h2 => by rw [e1, hk q (Nat.lt_of_lt_of_le h1 hS.1) h2]; exact hS.2.1 q h1 h2, fun q hq => by
      rcases List.mem_append.mp hq with h | h
      · exact hS.2.2 q h
      · exact hL q h⟩ hl (by rw [e1]; exact hce) hcv hcl T' rfl X'
    exact ⟨t2, st9.trans a1, b1⟩
theorem g_tcallV (S : CallFix p m c cc nL s args Ts own) (hM : vx_Met l y ws rm (gPc D ty b strs tE A (.ref b0 :: As) P1) (gQ A (fun _ _ => False)) (gX A PX) mc ms A) (cw : CallW R s args own C index y bytes maxL ret ws rm mc ms na) (hK : gK D ty s) (hE : gE b strs A tE s s.heap)
    (hP1 : ∀ H, P H → P1 H) (hrecv : ∀ H, P H → ∃ cellB : Cell, H[b0]? = some cellB ∧ cellB.vm.isStatics = false ∧ s.vm.findClass C = some cellB.cls) (hn : As.length = na) (hcat : (st.map fun v => v.category).sum ≤ 8) (hdg : decode cc pc = .ok (.invokevirtual index, 3)) (hf : k + mc ≤ R.cells ∧ n + ms ≤ R.slots)
    (kx : ∀ E : String, gXW p l e R s m args below meth c A Q nL E (PX E) (k + mc) (n + ms) pc lv st) : gW p l e R s m args below meth c A Q nL P k n pc lv (As.reverse ++ .ref b0 :: st) :=
  g_tcall (fun H locs ls hP hS hl => vx_runV S hM cw ⟨gPc_blind, hrecv H hP, gPc_at hK hE (hP1 H hP) hS⟩ rfl hn (gl_size hl) rfl (lv_room hcat) hdg hf) kx
theorem g_tcallS (S : CallFix p m c cc nL s args Ts own) (hM : vx_Met l y ws rm (gPc D ty b strs tE A As P1) (gQ A (fun _ _ => False)) (gX A PX) mc ms A) (cw : CallB R s args own index y bytes maxL ret ws rm mc ms na ∧ (Cond.static y).before args s = true) (hK : gK D ty s) (hE : gE b strs A tE s s.heap)
    (hP1 : ∀ H, P H → P1 H) (hn : As.length = na) (hcat : (st.map fun v => v.category).sum ≤ 8) (hdg : decode cc pc = .ok (.invokestatic index, 3)) (hf : k + mc ≤ R.cells ∧ n + ms ≤ R.slots)
    (kx : ∀ E : String, gXW p l e R s m args below meth c A Q nL E (PX E) (k + mc) (n + ms) pc lv st) : gW p l e R s m args below meth c A Q nL P k n pc lv (As.reverse ++ st) :=
  g_tcall (fun H locs ls hP hS hl => vx_runS S hM cw ⟨gPc_blind, gPc_at hK hE (hP1 H hP) hS⟩ rfl hn (gl_size hl) rfl (lv_room hcat) hdg hf) kx
end CALLS
section ENDS
variable {mc ms : Nat} {Post : Option Value → Heap → Prop} {PX : String → Heap → Prop}
/-- what a method that returns, or throws, owes at its end -/
abbrev gR (below : List Frame) (A : Nat → Prop) (args : Array Value) (s : State) (mc ms : Nat) (Post : Option Value → Heap → Prop) : State → Prop := MQ below (gQ A Post) args s mc ms A
abbrev gT (below : List Frame) (A : Nat → Prop) (args : Array Value) (s : State) (mc ms : Nat) (PX : String → Heap → Prop) : State → Prop := vx_MQ below (gQ A (fun _ _ => False)) (gX A PX) args s mc ms A
theorem g_iret (S : CallFix p m c cc nL s args Ts own) (hlocks : meth.locks = false) {v : Int32} (hr : meth.sig.returnType = some .int) (hq : ∀ H, P H → Post (some (.int v)) H) (hk : k ≤ mc) (hn : n ≤ ms) (hdg : decode cc pc = .ok (.ireturn, 1)) : gW p l e R s m args below meth c A (gR below A args s mc ms Post) nL P k n pc lv [.int v] := fun H locs ls hP hS hl =>
  W.widen hk hn (W.iret S.1 S.2.1 hr (fun t ht hW => ⟨⟨_, rfl, by rw [ht]; exact hq H hP⟩, hS.F ht⟩) hS.2.2 hdg hlocks)
theorem g_zret (S : CallFix p m c cc nL s args Ts own) (hlocks : meth.locks = false) {v : Int32} {rt : FieldType} (hr : meth.sig.returnType = some rt) (hnr : narrow rt (.int v) = .int v) (hq : ∀ H, P H → Post (some (.int v)) H) (hk : k ≤ mc) (hn : n ≤ ms) (hdg : decode cc pc = .ok (.ireturn, 1)) : gW p l e R s m args below meth c A (gR below A args s mc ms Post) nL P k n pc lv [.int v] := fun H locs ls hP hS hl =>
  W.widen hk hn (W.zret S.1 S.2.1 hr hnr (fun t ht hW => ⟨⟨_, rfl, by rw [ht]; exact hq H hP⟩, hS.F ht⟩) hS.2.2 hdg hlocks)
theorem g_lret (S : CallFix p m c cc nL s args Ts own) (hlocks : meth.locks = false) {v : Int64} (hr : meth.sig.returnType = some .long) (hq : ∀ H, P H → Post (some (.long v)) H) (hk : k ≤ mc) (hn : n ≤ ms) (hdg : decode cc pc = .ok (.lreturn, 1)) : gW p l e R s m args below meth c A (gR below A args s mc ms Post) nL P k n pc lv [.long v] := fun H locs ls hP hS hl =>
  W.widen hk hn (W.lret S.1 S.2.1 hr (fun t ht hW => ⟨⟨_, rfl, by rw [ht]; exact hq H hP⟩, hS.F ht⟩) hS.2.2 hdg hlocks)
theorem g_vret (S : CallFix p m c cc nL s args Ts own) (hlocks : meth.locks = false) (hr : meth.sig.returnType = none) (hq : ∀ H, P H → Post none H) (hk : k ≤ mc) (hn : n ≤ ms) (hdg : decode cc pc = .ok (.return_, 1)) : gW p l e R s m args below meth c A (gR below A args s mc ms Post) nL P k n pc lv [] := fun H locs ls hP hS hl =>
  W.widen hk hn (W.vret S.1 S.2.1 hr (fun t ht hW => ⟨⟨_, rfl, by rw [ht]; exact hq H hP⟩, hS.F ht⟩) hS.2.2 hdg hlocks)
theorem g_aret (S : CallFix p m c cc nL s args Ts own) (hlocks : meth.locks = false) {v : Value} {rt : FieldType} (hr : meth.sig.returnType = some rt) (hrt : (∃ n, rt = .object n) ∨ ∃ t, rt = .array t) (hv : v = .null ∨ ∃ a, v = .ref a) (hq : ∀ H, P H → Post (some v) H) (hk : k ≤ mc) (hn : n ≤ ms) (hdg : decode cc pc = .ok (.areturn, 1)) : gW p l e R s m args below meth c A (gR below A args s mc ms Post) nL P k n pc lv [v] := fun H locs ls hP hS hl =>
  W.widen hk hn (W.aret S.1 S.2.1 hr hrt hv (fun t ht hW => ⟨⟨_, rfl, by rw [ht]; exact hq H hP⟩, hS.F ht⟩) hS.2.2 hdg hlocks)
/-- thrown on to the caller, from a method without handlers -/
theorem g_out {E : String} (hout : ∀ x ∈ c.exceptionTable.toList, False) (hlocks : meth.locks = false) (hq : ∀ H, P H → PX E H) (hk : k ≤ mc) (hn : n ≤ ms) : gXW p l e R s m args below meth c A (gT below A args s mc ms PX) nL E P k n pc lv st := fun H locs ls q ce hP hS hl hce hcv hcl =>
  vx_out (fun x hx => (hout x hx).elim) hlocks hce hcv hcl (fun t ht hal => ⟨by rw [ht]; exact hq H hP, hS.F ht⟩) hS.2.2 hk hn
/-- the entry of a method -/
def gl_ent : List Value → List (Option Value)
  | [] => []
  | v :: t => if v.category = 2 then some v :: none :: gl_ent t else some v :: gl_ent t
theorem gl_ent_args : ∀ (av : List Value) (i : Nat), gl_pr i (gl_ent av) = lv_args i av
  | [], i => rfl
  | v :: t, i => by
    by_cases h : v.category = 2
    · simp only [gl_ent, if_pos h, gl_pr, lv_args, gl_ent_args t (i + 1 + 1)]
    · simp only [gl_ent, if_neg h, gl_pr, lv_args, gl_ent_args t (i + 1)]
theorem gl_pr_rep : ∀ (lv : List (Option Value)) (i r : Nat), gl_pr i (lv ++ List.replicate r none) = gl_pr i lv
  | [], i, 0 => rfl
  | [], i, r + 1 => by
    have := gl_pr_rep [] (i + 1) r
    rw [List.nil_append] at this ⊢
    rw [List.replicate_succ]
    exact this
  | none :: t, i, r => by
    rw [List.cons_append]
    show gl_pr (i + 1) (t ++ List.replicate r none) = gl_pr (i + 1) t
    exact gl_pr_rep t (i + 1) r
  | some v :: t, i, r => by
    rw [List.cons_append]
    show (i, v) :: gl_pr (i + 1) (t ++ List.replicate r none) = (i, v) :: gl_pr (i + 1) t
    rw [gl_pr_rep t (i + 1) r]
theorem gl_ent_len : ∀ (av : List Value), (gl_ent av).length = (lg_sl av).length
  | [] => rfl
  | v :: t => by
    have ih := gl_ent_len t
    by_cases h : v.category = 2
    · simp only [gl_ent, if_pos h, List.length_cons, ih]
      simp [lg_sl, h]
    · simp only [gl_ent, if_neg h, List.length_cons, ih]
      simp [lg_sl, h]
theorem gl_entry {av : List Value} {n : Nat} {lv : List (Option Value)} (h : (gl_ent av).length ≤ n) (hl : gl_ent av ++ List.replicate (n - (gl_ent av).length) none = lv) : gl_has ((lg_sl av ++ List.replicate (n - (lg_sl av).length) Slot.unset).toArray) n lv := by
  subst hl
  have h2 := lv_entry av (n := n) (by rw [← gl_ent_len]; exact h)
  refine ⟨by rw [List.length_append, List.length_replicate]; omega, ?_⟩
  rw [gl_pr_rep, gl_ent_args]
  exact h2
end ENDS
end GW
theorem g_Met {l : Launch} {D : va_G} {ty : Nat → ClassId} {b : Bool} {strs : List (Nat × String)} {tE : Nat} {A : Nat → Prop} {av : List Value} {P : Heap → Prop} {Post : Option Value → Heap → Prop} {mc ms : Nat} {y : MethodName} {ws ws' : List Cond} {rm : Room} {cc : ByteArray} {maxL : Nat} {ret : Option FieldType} (lv : List (Option Value))
    (hy : plainName y.cls = true) (hw : ws = Cond.code y cc maxL ret :: ws') (hle : (gl_ent av).length ≤ maxL) (hlv : gl_ent av ++ List.replicate (maxL - (gl_ent av).length) none = lv)
    (body : ∀ (p : Program) (e : Env) (s : State) (m : MethodId) (args : Array Value) (below : List Frame) (meth : Method) (c : Code), CallFix p m c cc maxL s args ws y.cls → meth.locks = false → meth.sig.returnType = ret → meth.name = y.name → gK D ty s → gE b strs A tE s s.heap → P s.heap →
      gW p l e (headSpec ws rm).room s m args below meth c A (gR below A args s mc ms Post) maxL P 0 0 0 lv []) : Met l y ws rm (gPc D ty b strs tE A av P) (gQ A Post) mc ms A := by
  refine Met.ofW (cc := cc) (maxL := maxL) (ret := ret) hy hw ?_
  intro p e s m args below meth c s₁ B hml hv
  obtain ⟨rfl, hP, hK, hE⟩ := hv
  rw [lg_entry_eq]
  exact body p e s m _ below meth c ⟨B.exec, B.bytes, hml, findClass_of_methodNamed B.named, atoms_spec (ws := ws) B.pre⟩ B.notSynchronized B.returns (name_of_methodNamed B.named B.method).1 hK hE hP s.heap [] _ hP va_S.rf (gl_entry hle hlv)
theorem g_tMet {l : Launch} {D : va_G} {ty : Nat → ClassId} {b : Bool} {strs : List (Nat × String)} {tE : Nat} {A : Nat → Prop} {av : List Value} {P : Heap → Prop} {PX : String → Heap → Prop} {mc ms : Nat} {y : MethodName} {ws ws' : List Cond} {rm : Room} {cc : ByteArray} {maxL : Nat} {ret : Option FieldType} (lv : List (Option Value))
    (hy : plainName y.cls = true) (hw : ws = Cond.code y cc maxL ret :: ws') (hle : (gl_ent av).length ≤ maxL) (hlv : gl_ent av ++ List.replicate (maxL - (gl_ent av).length) none = lv)
    (body : ∀ (p : Program) (e : Env) (s : State) (m : MethodId) (args : Array Value) (below : List Frame) (meth : Method) (c : Code), CallFix p m c cc maxL s args ws y.cls → meth.locks = false → (∀ x ∈ c.exceptionTable.toList, False) → gK D ty s → gE b strs A tE s s.heap → P s.heap →
      gW p l e (headSpec ws rm).room s m args below meth c A (gT below A args s mc ms PX) maxL P 0 0 0 lv []) : vx_Met l y ws rm (gPc D ty b strs tE A av P) (gQ A (fun _ _ => False)) (gX A PX) mc ms A := by
  refine vx_ofW (cc := cc) (maxL := maxL) (ret := ret) hy hw ?_
  intro p e s m args below meth c s₁ B hml ht hv
  obtain ⟨rfl, hP, hK, hE⟩ := hv
  rw [lg_entry_eq]
  exact body p e s m _ below meth c ⟨B.exec, B.bytes, hml, findClass_of_methodNamed B.named, atoms_spec (ws := ws) B.pre⟩ B.notSynchronized ht hK hE hP s.heap [] _ hP va_S.rf (gl_entry hle hlv)
