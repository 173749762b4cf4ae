/-! an object that is built up: its fields below n hold their rows -/
def gObF (isR : Nat → Bool) (N : Nat) (ad : Nat → Nat) (S : Nat → Int32) (n : Nat) : List Value := (List.range N).map (fun k => if isR k = true then (if k < n then .ref (ad k) else .null) else .int (S k))
def gOb (D : va_G) (A : Nat → Prop) (ci N : Nat) (isR : Nat → Bool) (ent : Nat → va_E) (mo : Nat) (ad : Nat → Nat) (S : Nat → Int32) (n : Nat) : Heap → Prop := fun H =>
  (va_at D vwCl (mo, .inr (ci, gObF isR N ad S n)) H ∧ A mo) ∧ (∀ k, k < n → isR k = true → va_at D vwCl (ad k, ent k) H ∧ A (ad k) ∧ ad k ≠ mo) ∧ ∀ k k', k < n → k' < n → isR k = true → isR k' = true → ad k = ad k' → k = k'
/-- beside it a row x at q, not yet in a field -/
def gObq (D : va_G) (A : Nat → Prop) (ci N : Nat) (isR : Nat → Bool) (ent : Nat → va_E) (mo : Nat) (ad : Nat → Nat) (S : Nat → Int32) (n q : Nat) (x : va_E) : Heap → Prop := fun H =>
  gOb D A ci N isR ent mo ad S n H ∧ va_at D vwCl (q, x) H ∧ A q ∧ q ≠ mo ∧ ∀ k, k < n → isR k = true → ad k ≠ q
section GOB
variable {D : va_G} {A : Nat → Prop} {ci N : Nat} {isR : Nat → Bool} {ent : Nat → va_E} {mo : Nat} {ad : Nat → Nat} {S : Nat → Int32} {n q : Nat} {x : va_E} {H H1 : Heap}
theorem gOb_kept (h : gOb D A ci N isR ent mo ad S n H) (o0 : H1[mo]? = H[mo]?) (o : ∀ k, k < n → isR k = true → H1[ad k]? = H[ad k]?) : gOb D A ci N isR ent mo ad S n H1 := by
  obtain ⟨⟨h1, h2⟩, h3, h4⟩ := h
  exact ⟨⟨h1.kept o0, h2⟩, fun k hk hr => ⟨(h3 k hk hr).1.kept (o k hk hr), (h3 k hk hr).2⟩, h4⟩
theorem gObq_new (h : gOb D A ci N isR ent mo ad S n H) (hat : va_at D vwCl (H.size, x) H1) (oq : ∀ q : Nat, q < H.size → H1[q]? = H[q]?) (hA : A H.size) : gObq D A ci N isR ent mo ad S n H.size x H1 :=
  ⟨gOb_kept h (oq _ h.1.1.lt) (fun k hk hr => oq _ (h.2.1 k hk hr).1.lt), hat, hA, (Nat.ne_of_lt h.1.1.lt).symm, fun k hk hr => Nat.ne_of_lt (h.2.1 k hk hr).1.lt⟩
theorem gObq_set {x' : va_E} (h : gObq D A ci N isR ent mo ad S n q x H) (hat : va_at D vwCl (q, x') H1) (oq : ∀ y : Nat, y ≠ q → H1[y]? = H[y]?) : gObq D A ci N isR ent mo ad S n q x' H1 :=
  ⟨gOb_kept h.1 (oq _ h.2.2.2.1.symm) (fun k hk hr => oq _ (h.2.2.2.2 k hk hr)), hat, h.2.2.1, h.2.2.2⟩
theorem gObF_set (hn : n < N) (hr : isR n = true) : (gObF isR N ad S n).set n (.ref q) = gObF isR N (fun k => if k = n then q else ad k) S (n + 1) := by
  apply List.ext_getElem
  · simp [gObF]
  · intro i h1 h2
    by_cases hi : i = n
    · subst hi
      simp [gObF, hr]
    · have hi' : ¬ n = i := fun z => hi z.symm
      simp only [gObF, List.getElem_map, List.getElem_range, List.getElem_set, if_neg hi', if_neg hi]
      by_cases hb : isR i = true
      · rw [if_pos hb, if_pos hb]
        by_cases hl : i < n
        · rw [if_pos hl, if_pos (by omega)]
        · rw [if_neg hl, if_neg (by omega)]
      · rw [if_neg hb, if_neg hb]
theorem gObF_seti {j : Nat} {v : Int32} (hj : isR j = false) : (gObF isR N ad S n).set j (.int v) = gObF isR N ad (uS S j v) n := by
  apply List.ext_getElem
  · simp [gObF]
  · intro i h1 h2
    by_cases hi : i = j
    · subst hi
      simp [gObF, hj, uS]
    · have hi' : ¬ j = i := fun z => hi z.symm
      simp only [gObF, List.getElem_map, List.getElem_range, List.getElem_set, if_neg hi', uS, if_neg hi]
theorem gObq_put (h : gObq D A ci N isR ent mo ad S n q (ent n) H) (hn : n < N) (hr : isR n = true) (hat : va_at D vwCl (mo, .inr (ci, (gObF isR N ad S n).set n (.ref q))) H1) (oq : ∀ y : Nat, y ≠ mo → H1[y]? = H[y]?) : gOb D A ci N isR ent mo (fun k => if k = n then q else ad k) S (n + 1) H1 := by
  obtain ⟨⟨⟨h1, h2⟩, h3, h4⟩, h5, h6, h7, h8⟩ := h
  rw [gObF_set hn hr] at hat
  refine ⟨⟨hat, h2⟩, fun k hk hr' => ?_, fun k k' hk hk' hr1 hr2 he => ?_⟩
  · by_cases hkn : k = n
    · subst hkn
      simp only [if_true]
      exact ⟨h5.kept (oq _ h7), h6, h7⟩
    · simp only [if_neg hkn]
      obtain ⟨g1, g2, g3⟩ := h3 k (by omega) hr'
      exact ⟨g1.kept (oq _ g3), g2, g3⟩
  · by_cases a : k = n <;> by_cases b : k' = n
    · rw [a, b]
    · simp only [if_pos a, if_neg b] at he
      exact absurd he.symm (h8 k' (by omega) hr2)
    · simp only [if_neg a, if_pos b] at he
      exact absurd he (h8 k (by omega) hr1)
    · simp only [if_neg a, if_neg b] at he
      exact h4 k k' (by omega) (by omega) hr1 hr2 he
theorem gOb_puti {j : Nat} {v : Int32} (h : gOb D A ci N isR ent mo ad S n H) (hj : isR j = false) (hat : va_at D vwCl (mo, .inr (ci, (gObF isR N ad S n).set j (.int v))) H1) (oq : ∀ y : Nat, y ≠ mo → H1[y]? = H[y]?) : gOb D A ci N isR ent mo ad (uS S j v) n H1 := by
  obtain ⟨⟨h1, h2⟩, h3, h4⟩ := h
  rw [gObF_seti hj] at hat
  exact ⟨⟨hat, h2⟩, fun k hk hr => ⟨(h3 k hk hr).1.kept (oq _ (h3 k hk hr).2.2), (h3 k hk hr).2⟩, h4⟩
theorem gObF_skip (hr : isR n = false) : gObF isR N ad S n = gObF isR N ad S (n + 1) := by
  unfold gObF
  apply List.map_congr_left
  intro k _
  by_cases hk : isR k = true
  · rw [if_pos hk, if_pos hk]
    have : k ≠ n := fun z => by rw [z, hr] at hk; cases hk
    by_cases hl : k < n
    · rw [if_pos hl, if_pos (by omega)]
    · rw [if_neg hl, if_neg (by omega)]
  · rw [if_neg hk, if_neg hk]
theorem gOb_skip (hr : isR n = false) (h : gOb D A ci N isR ent mo ad S n H) : gOb D A ci N isR ent mo ad S (n + 1) H := by
  obtain ⟨⟨h1, h2⟩, h3, h4⟩ := h
  have lt : ∀ k, k < n + 1 → isR k = true → k < n := fun k hk hr' => by
    have : k ≠ n := fun z => by rw [z, hr] at hr'; cases hr'
    omega
  exact ⟨⟨by rw [← gObF_skip hr]; exact h1, h2⟩, fun k hk hr' => h3 k (lt k hk hr') hr', fun k k' hk hk' h1 h2 => h4 k k' (lt k hk h1) (lt k' hk' h2) h1 h2⟩
end GOB
section GOW
variable {p : Program} {l : Launch} {e : Env} {R : Room} {s : State} {m : MethodId} {args : Array Value} {below : List Frame} {meth : Method} {c : Code} {A : Nat → Prop} {Q : State → Prop} {nL : Nat} {k n : Nat} {pc : Nat} {lv : List (Option Value)} {st : List Value} {P : Heap → Prop}
variable {cc : ByteArray} {Ts : List Cond} {own : String} {D : va_G} {ty : Nat → ClassId} {isR : Nat → Bool} {ent : Nat → va_E} {mo : Nat} {ad : Nat → Nat} {F : Nat → Int32} {f : Nat}
theorem o6_putR (S : CallFix p m c cc nL s args Ts own) (hK : gK D ty s) {index q : Nat} (hf : f < 11) (hr : isR f = true) (hlink : (Cond.fieldLink own index (TX5 f).1 (TX5 f).2.1 (TX5 f).2.2.1).before args s = true) (hfin : (TX5 f).2.2.2 = false ∨ ((TX5 f).2.2.2 = true ∧ meth.name = "<init>" ∧ (TX5 f).1 = own)) (hn : narrow (tyX5 f) (.ref q) = .ref q) (hfit : fits (tyX5 f) (.ref q) = true) (hdg : decode cc pc = .ok (.putfield index, 3))
    (kk : ∀ ad', gW p l e R s m args below meth c A Q nL (gOb D A 6 11 isR ent mo ad' F (f + 1)) k n (pc + 3) lv st) : gW p l e R s m args below meth c A Q nL (gObq D A 6 11 isR ent mo ad F f q (ent f)) k n pc lv (.ref q :: .ref mo :: st) :=
  g_putf S hK (C := RX5) (T := TX5) (N := 11) (j := f) (P' := gOb D A 6 11 isR ent mo (fun k => if k = f then q else ad k) F (f + 1)) tyX5 tyX5_ok nmX5 (fun H h => h.1.1.1) (fun H h => h.1.1.2) (fun H H1 hP hat _ oq => gObq_put hP hf hr hat oq) rfl hf hlink hfin hn hfit (by simpa [gObF] using hf) hdg (kk _)
theorem o6_putI (S : CallFix p m c cc nL s args Ts own) (hK : gK D ty s) {index g : Nat} {v : Int32} (hg : g < 11) (hr : isR g = false) (hlink : (Cond.fieldLink own index (TX5 g).1 (TX5 g).2.1 (TX5 g).2.2.1).before args s = true) (hfin : (TX5 g).2.2.2 = false ∨ ((TX5 g).2.2.2 = true ∧ meth.name = "<init>" ∧ (TX5 g).1 = own)) (hn : narrow (tyX5 g) (.int v) = .int v) (hfit : fits (tyX5 g) (.int v) = true) (hdg : decode cc pc = .ok (.putfield index, 3))
    (kk : gW p l e R s m args below meth c A Q nL (gOb D A 6 11 isR ent mo ad (uS F g v) f) k n (pc + 3) lv st) : gW p l e R s m args below meth c A Q nL (gOb D A 6 11 isR ent mo ad F f) k n pc lv (.int v :: .ref mo :: st) :=
  g_putf S hK (C := RX5) (T := TX5) (N := 11) (j := g) (P' := gOb D A 6 11 isR ent mo ad (uS F g v) f) tyX5 tyX5_ok nmX5 (fun H h => h.1.1) (fun H h => h.1.2) (fun H H1 hP hat _ oq => gOb_puti hP hr hat oq) rfl hg hlink hfin hn hfit (by simpa [gObF] using hg) hdg kk
theorem o6_newint (S : CallFix p m c cc nL s args Ts own) (hK : gK D ty s) {z : Int32} {N' : Nat} (harr : (Cond.arrayClass .int).before args s = true) (hz : ¬ z < 0) (hN : z.toNatClampNeg = N') (hb : N' ≤ 6000) (hent : ent f = .inl (ty 0, N', .inl (fun _ => 0))) (hA : ∀ q, s.heap.size ≤ q → A q) (hcells : k + 1 ≤ R.cells) (hslots : n + N' ≤ R.slots) (hdg : decode cc pc = .ok (.newarray .int, 2))
    (kk : ∀ q : Nat, gW p l e R s m args below meth c A Q nL (gObq D A 6 11 isR ent mo ad F f q (ent f)) (k + 1) (n + N') (pc + 2) lv (.ref q :: st)) : gW p l e R s m args below meth c A Q nL (gOb D A 6 11 isR ent mo ad F f) k n pc lv (.int z :: st) :=
  g_newa S hK (atype := .int) (t0 := 0) (N' := N') (a0 := (N', .inl (fun _ => 0))) (P' := fun q => gObq D A 6 11 isR ent mo ad F f q (ent f)) harr (tt := .int) rfl rfl (fun U h => h) (fun cA => rfl) hz hN (Nat.le_trans (Nat.mul_le_mul hb (show componentBytes .int ≤ 8 by decide)) (Nat.le_of_ble_eq_true rfl)) hA hcells hslots (fun H H1 hP hat _ oq hAq => gObq_new hP (by rw [hent]; exact hat) oq hAq) hdg kk
theorem o6_newlong (S : CallFix p m c cc nL s args Ts own) (hK : gK D ty s) {z : Int32} {N' : Nat} (harr : (Cond.arrayClass .long).before args s = true) (hz : ¬ z < 0) (hN : z.toNatClampNeg = N') (hb : N' ≤ 6000) (hent : ent f = .inl (ty 1, N', .inr (.inl (fun _ => 0)))) (hA : ∀ q, s.heap.size ≤ q → A q) (hcells : k + 1 ≤ R.cells) (hslots : n + N' ≤ R.slots) (hdg : decode cc pc = .ok (.newarray .long, 2))
    (kk : ∀ q : Nat, gW p l e R s m args below meth c A Q nL (gObq D A 6 11 isR ent mo ad F f q (ent f)) (k + 1) (n + N') (pc + 2) lv (.ref q :: st)) : gW p l e R s m args below meth c A Q nL (gOb D A 6 11 isR ent mo ad F f) k n pc lv (.int z :: st) :=
  g_newa S hK (atype := .long) (t0 := 1) (N' := N') (a0 := (N', .inr (.inl (fun _ => 0)))) (P' := fun q => gObq D A 6 11 isR ent mo ad F f q (ent f)) harr (tt := .long) rfl rfl (fun U h => h) (fun cA => rfl) hz hN (Nat.le_trans (Nat.mul_le_mul hb (show componentBytes .long ≤ 8 by decide)) (Nat.le_of_ble_eq_true rfl)) hA hcells hslots (fun H H1 hP hat _ oq hAq => gObq_new hP (by rw [hent]; exact hat) oq hAq) hdg kk
theorem o7_putR (S : CallFix p m c cc nL s args Ts own) (hK : gK D ty s) {index q : Nat} (hf : f < 46) (hr : isR f = true) (hlink : (Cond.fieldLink own index (TX6 f).1 (TX6 f).2.1 (TX6 f).2.2.1).before args s = true) (hfin : (TX6 f).2.2.2 = false ∨ ((TX6 f).2.2.2 = true ∧ meth.name = "<init>" ∧ (TX6 f).1 = own)) (hn : narrow (tyX6 f) (.ref q) = .ref q) (hfit : fits (tyX6 f) (.ref q) = true) (hdg : decode cc pc = .ok (.putfield index, 3))
    (kk : ∀ ad', gW p l e R s m args below meth c A Q nL (gOb D A 7 46 isR ent mo ad' F (f + 1)) k n (pc + 3) lv st) : gW p l e R s m args below meth c A Q nL (gObq D A 7 46 isR ent mo ad F f q (ent f)) k n pc lv (.ref q :: .ref mo :: st) :=
  g_putf S hK (C := RX6) (T := TX6) (N := 46) (j := f) (P' := gOb D A 7 46 isR ent mo (fun k => if k = f then q else ad k) F (f + 1)) tyX6 tyX6_ok nmX6 (fun H h => h.1.1.1) (fun H h => h.1.1.2) (fun H H1 hP hat _ oq => gObq_put hP hf hr hat oq) rfl hf hlink hfin hn hfit (by simpa [gObF] using hf) hdg (kk _)
theorem o7_putI (S : CallFix p m c cc nL s args Ts own) (hK : gK D ty s) {index g : Nat} {v : Int32} (hg : g < 46) (hr : isR g = false) (hlink : (Cond.fieldLink own index (TX6 g).1 (TX6 g).2.1 (TX6 g).2.2.1).before args s = true) (hfin : (TX6 g).2.2.2 = false ∨ ((TX6 g).2.2.2 = true ∧ meth.name = "<init>" ∧ (TX6 g).1 = own)) (hn : narrow (tyX6 g) (.int v) = .int v) (hfit : fits (tyX6 g) (.int v) = true) (hdg : decode cc pc = .ok (.putfield index, 3))
    (kk : gW p l e R s m args below meth c A Q nL (gOb D A 7 46 isR ent mo ad (uS F g v) f) k n (pc + 3) lv st) : gW p l e R s m args below meth c A Q nL (gOb D A 7 46 isR ent mo ad F f) k n pc lv (.int v :: .ref mo :: st) :=
  g_putf S hK (C := RX6) (T := TX6) (N := 46) (j := g) (P' := gOb D A 7 46 isR ent mo ad (uS F g v) f) tyX6 tyX6_ok nmX6 (fun H h => h.1.1) (fun H h => h.1.2) (fun H H1 hP hat _ oq => gOb_puti hP hr hat oq) rfl hg hlink hfin hn hfit (by simpa [gObF] using hg) hdg kk
theorem o7_newint (S : CallFix p m c cc nL s args Ts own) (hK : gK D ty s) {z : Int32} {N' : Nat} (harr : (Cond.arrayClass .int).before args s = true) (hz : ¬ z < 0) (hN : z.toNatClampNeg = N') (hb : N' ≤ 6000) (hent : ent f = .inl (ty 0, N', .inl (fun _ => 0))) (hA : ∀ q, s.heap.size ≤ q → A q) (hcells : k + 1 ≤ R.cells) (hslots : n + N' ≤ R.slots) (hdg : decode cc pc = .ok (.newarray .int, 2))
    (kk : ∀ q : Nat, gW p l e R s m args below meth c A Q nL (gObq D A 7 46 isR ent mo ad F f q (ent f)) (k + 1) (n + N') (pc + 2) lv (.ref q :: st)) : gW p l e R s m args below meth c A Q nL (gOb D A 7 46 isR ent mo ad F f) k n pc lv (.int z :: st) :=
  g_newa S hK (atype := .int) (t0 := 0) (N' := N') (a0 := (N', .inl (fun _ => 0))) (P' := fun q => gObq D A 7 46 isR ent mo ad F f q (ent f)) harr (tt := .int) rfl rfl (fun U h => h) (fun cA => rfl) hz hN (Nat.le_trans (Nat.mul_le_mul hb (show componentBytes .int ≤ 8 by decide)) (Nat.le_of_ble_eq_true rfl)) hA hcells hslots (fun H H1 hP hat _ oq hAq => gObq_new hP (by rw [hent]; exact hat) oq hAq) hdg kk
theorem o7_newlong (S : CallFix p m c cc nL s args Ts own) (hK : gK D ty s) {z : Int32} {N' : Nat} (harr : (Cond.arrayClass .long).before args s = true) (hz : ¬ z < 0) (hN : z.toNatClampNeg = N') (hb : N' ≤ 6000) (hent : ent f = .inl (ty 1, N', .inr (.inl (fun _ => 0)))) (hA : ∀ q, s.heap.size ≤ q → A q) (hcells : k + 1 ≤ R.cells) (hslots : n + N' ≤ R.slots) (hdg : decode cc pc = .ok (.newarray .long, 2))
    (kk : ∀ q : Nat, gW p l e R s m args below meth c A Q nL (gObq D A 7 46 isR ent mo ad F f q (ent f)) (k + 1) (n + N') (pc + 2) lv (.ref q :: st)) : gW p l e R s m args below meth c A Q nL (gOb D A 7 46 isR ent mo ad F f) k n pc lv (.int z :: st) :=
  g_newa S hK (atype := .long) (t0 := 1) (N' := N') (a0 := (N', .inr (.inl (fun _ => 0)))) (P' := fun q => gObq D A 7 46 isR ent mo ad F f q (ent f)) harr (tt := .long) rfl rfl (fun U h => h) (fun cA => rfl) hz hN (Nat.le_trans (Nat.mul_le_mul hb (show componentBytes .long ≤ 8 by decide)) (Nat.le_of_ble_eq_true rfl)) hA hcells hslots (fun H H1 hP hat _ oq hAq => gObq_new hP (by rw [hent]; exact hat) oq hAq) hdg kk
theorem o7_newboolean (S : CallFix p m c cc nL s args Ts own) (hK : gK D ty s) {z : Int32} {N' : Nat} (harr : (Cond.arrayClass .boolean).before args s = true) (hz : ¬ z < 0) (hN : z.toNatClampNeg = N') (hb : N' ≤ 6000) (hent : ent f = .inl (ty 2, N', .inl (fun _ => 0))) (hA : ∀ q, s.heap.size ≤ q → A q) (hcells : k + 1 ≤ R.cells) (hslots : n + N' ≤ R.slots) (hdg : decode cc pc = .ok (.newarray .boolean, 2))
    (kk : ∀ q : Nat, gW p l e R s m args below meth c A Q nL (gObq D A 7 46 isR ent mo ad F f q (ent f)) (k + 1) (n + N') (pc + 2) lv (.ref q :: st)) : gW p l e R s m args below meth c A Q nL (gOb D A 7 46 isR ent mo ad F f) k n pc lv (.int z :: st) :=
  g_newa S hK (atype := .boolean) (t0 := 2) (N' := N') (a0 := (N', .inl (fun _ => 0))) (P' := fun q => gObq D A 7 46 isR ent mo ad F f q (ent f)) harr (tt := .boolean) rfl rfl (fun U h => h) (fun cA => rfl) hz hN (Nat.le_trans (Nat.mul_le_mul hb (show componentBytes .boolean ≤ 8 by decide)) (Nat.le_of_ble_eq_true rfl)) hA hcells hslots (fun H H1 hP hat _ oq hAq => gObq_new hP (by rw [hent]; exact hat) oq hAq) hdg kk
end GOW
def mS0 : Nat → Int32 := uS (uS (fun _ => 0) 3 20) 4 5
def m0 : MS := (mS0, fun _ _ => 0, fun _ => 0)
def misR (k : Nat) : Bool := decide (0 < mlen k)
def hMb (D : va_G) (ty : Nat → ClassId) (A : Nat → Prop) (mo : Nat) (ad : Nat → Nat) (F : Nat → Int32) (n : Nat) : Heap → Prop := gOb D A 7 46 misR (ment ty m0) mo ad F n
theorem mfs_full (ad : Nat → Nat) (F : Nat → Int32) : gObF misR 46 ad F 46 = mfs ad F := by
  rfl
theorem hM_of {D : va_G} {ty : Nat → ClassId} {A : Nat → Prop} {mo : Nat} {ad : Nat → Nat} {H : Heap} (h : hMb D ty A mo ad mS0 46 H) : hM D ty A mo ad m0 H := by
  obtain ⟨⟨h1, h2⟩, h3, h4⟩ := h
  rw [mfs_full] at h1
  have r : ∀ k, 0 < mlen k → misR k = true := fun k hk => decide_eq_true hk
  exact ⟨⟨h1, h2⟩, fun k hk => h3 k (mlen_sc hk) (r k hk), fun k k' hk hk' he => h4 k k' (mlen_sc hk) (mlen_sc hk') (r k hk) (r k' hk') he⟩
abbrev rmX6_init : Room := { frames := 1, cells := 36, slots := 19382, locals := 20 }
set_option maxHeartbeats 3000000 in
set_option maxRecDepth 100000 in
theorem c_minit (l : Launch) (D : va_G) (ty : Nat → ClassId) (A : Nat → Prop) (tE : Nat) (mo : Nat) (ad0 : Nat → Nat) : Met l yX6_init wsX6_init rmX6_init (gPc D ty true cstrs tE A [.ref mo] (hMb D ty A mo ad0 (fun _ => 0) 0)) (gQ A (fun r H => r = none ∧ ∃ ad, hM D ty A mo ad m0 H)) 36 19382 A := by
  refine g_Met (cc := cX6_init) (maxL := 1) (ret := none) [some (.ref mo)] (by decide) rfl (Nat.le_of_ble_eq_true rfl) rfl ?_
  intro p e s m args below meth c S hlk hr hnm hK hE hP0
  have S : CallFix p m c cX6_init 1 s args wsX6_init RX6 := S
  unfold hMb
  refine g_aload_n S dX6_init_0 rfl ?_
  refine g_objInit S (S.2.2.2.2 _ (List.mem_of_getElem? (i := 1) rfl)) (S.2.2.2.2 _ (List.mem_of_getElem? (i := 2) rfl)) (S.2.2.2.2 _ (List.mem_of_getElem? (i := 3) rfl)) dX6_init_1 (Nat.le_of_ble_eq_true rfl) ⟨Nat.le_of_ble_eq_true rfl, Nat.le_of_ble_eq_true rfl⟩ ?_
  refine g_aload_n S dX6_init_4 rfl ?_
  refine g_bipush S (v := 20) dX6_init_5 (by decide) ?_
  refine o7_putI S hK (g := 3) (by decide) (by decide) (S.2.2.2.2 _ (List.mem_of_getElem? (i := 4) rfl)) (Or.inl rfl) rfl rfl dX6_init_7 ?_
  refine g_aload_n S dX6_init_10 rfl ?_
  refine g_iconst S (v := 5) dX6_init_11 (by decide) ?_
  refine o7_putI S hK (g := 4) (by decide) (by decide) (S.2.2.2.2 _ (List.mem_of_getElem? (i := 5) rfl)) (Or.inl rfl) rfl rfl dX6_init_12 ?_
  refine g_P (fun H h => gOb_skip (by decide) h) ?_
  refine g_P (fun H h => gOb_skip (by decide) h) ?_
  refine g_P (fun H h => gOb_skip (by decide) h) ?_
  refine g_P (fun H h => gOb_skip (by decide) h) ?_
  refine g_P (fun H h => gOb_skip (by decide) h) ?_
  refine g_aload_n S dX6_init_15 rfl ?_
  refine g_bipush S (v := 6) dX6_init_16 (by decide) ?_
  refine o7_newlong S hK (N' := 6) (S.2.2.2.2 _ (List.mem_of_getElem? (i := 6) rfl)) (by decide) (by decide) (by decide) rfl (hE rfl).2.2.2.1 (Nat.le_of_ble_eq_true rfl) (Nat.le_of_ble_eq_true rfl) dX6_init_18 (fun q => ?_)
  refine o7_putR S hK (by decide) (by decide) (S.2.2.2.2 _ (List.mem_of_getElem? (i := 7) rfl)) (Or.inr ⟨rfl, hnm, rfl⟩) rfl rfl dX6_init_20 (fun ad5 => ?_)
  refine g_aload_n S dX6_init_23 rfl ?_
  refine g_bipush S (v := 6) dX6_init_24 (by decide) ?_
  refine o7_newint S hK (N' := 6) (S.2.2.2.2 _ (List.mem_of_getElem? (i := 8) rfl)) (by decide) (by decide) (by decide) rfl (hE rfl).2.2.2.1 (Nat.le_of_ble_eq_true rfl) (Nat.le_of_ble_eq_true rfl) dX6_init_26 (fun q => ?_)
  refine o7_putR S hK (by decide) (by decide) (S.2.2.2.2 _ (List.mem_of_getElem? (i := 9) rfl)) (Or.inr ⟨rfl, hnm, rfl⟩) rfl rfl dX6_init_28 (fun ad6 => ?_)
  refine g_P (fun H h => gOb_skip (by decide) h) ?_
  refine g_aload_n S dX6_init_31 rfl ?_
  refine g_bipush S (v := 6) dX6_init_32 (by decide) ?_
  refine o7_newint S hK (N' := 6) (S.2.2.2.2 _ (List.mem_of_getElem? (i := 8) rfl)) (by decide) (by decide) (by decide) rfl (hE rfl).2.2.2.1 (Nat.le_of_ble_eq_true rfl) (Nat.le_of_ble_eq_true rfl) dX6_init_34 (fun q => ?_)
  refine o7_putR S hK (by decide) (by decide) (S.2.2.2.2 _ (List.mem_of_getElem? (i := 10) rfl)) (Or.inr ⟨rfl, hnm, rfl⟩) rfl rfl dX6_init_36 (fun ad8 => ?_)
  refine g_aload_n S dX6_init_39 rfl ?_
  refine g_bipush S (v := 6) dX6_init_40 (by decide) ?_
  refine o7_newint S hK (N' := 6) (S.2.2.2.2 _ (List.mem_of_getElem? (i := 8) rfl)) (by decide) (by decide) (by decide) rfl (hE rfl).2.2.2.1 (Nat.le_of_ble_eq_true rfl) (Nat.le_of_ble_eq_true rfl) dX6_init_42 (fun q => ?_)
  refine o7_putR S hK (by decide) (by decide) (S.2.2.2.2 _ (List.mem_of_getElem? (i := 11) rfl)) (Or.inr ⟨rfl, hnm, rfl⟩) rfl rfl dX6_init_44 (fun ad9 => ?_)
  refine g_aload_n S dX6_init_47 rfl ?_
  refine g_bipush S (v := 6) dX6_init_48 (by decide) ?_
  refine o7_newint S hK (N' := 6) (S.2.2.2.2 _ (List.mem_of_getElem? (i := 8) rfl)) (by decide) (by decide) (by decide) rfl (hE rfl).2.2.2.1 (Nat.le_of_ble_eq_true rfl) (Nat.le_of_ble_eq_true rfl) dX6_init_50 (fun q => ?_)
  refine o7_putR S hK (by decide) (by decide) (S.2.2.2.2 _ (List.mem_of_getElem? (i := 12) rfl)) (Or.inr ⟨rfl, hnm, rfl⟩) rfl rfl dX6_init_52 (fun ad10 => ?_)
  refine g_aload_n S dX6_init_55 rfl ?_
  refine g_bipush S (v := 6) dX6_init_56 (by decide) ?_
  refine o7_newint S hK (N' := 6) (S.2.2.2.2 _ (List.mem_of_getElem? (i := 8) rfl)) (by decide) (by decide) (by decide) rfl (hE rfl).2.2.2.1 (Nat.le_of_ble_eq_true rfl) (Nat.le_of_ble_eq_true rfl) dX6_init_58 (fun q => ?_)
  refine o7_putR S hK (by decide) (by decide) (S.2.2.2.2 _ (List.mem_of_getElem? (i := 13) rfl)) (Or.inr ⟨rfl, hnm, rfl⟩) rfl rfl dX6_init_60 (fun ad11 => ?_)
  refine g_aload_n S dX6_init_63 rfl ?_
  refine g_bipush S (v := 6) dX6_init_64 (by decide) ?_
  refine o7_newint S hK (N' := 6) (S.2.2.2.2 _ (List.mem_of_getElem? (i := 8) rfl)) (by decide) (by decide) (by decide) rfl (hE rfl).2.2.2.1 (Nat.le_of_ble_eq_true rfl) (Nat.le_of_ble_eq_true rfl) dX6_init_66 (fun q => ?_)
  refine o7_putR S hK (by decide) (by decide) (S.2.2.2.2 _ (List.mem_of_getElem? (i := 14) rfl)) (Or.inr ⟨rfl, hnm, rfl⟩) rfl rfl dX6_init_68 (fun ad12 => ?_)
  refine g_P (fun H h => gOb_skip (by decide) h) ?_
  refine g_aload_n S dX6_init_71 rfl ?_
  refine g_bipush S (v := 40) dX6_init_72 (by decide) ?_
  refine o7_newint S hK (N' := 40) (S.2.2.2.2 _ (List.mem_of_getElem? (i := 8) rfl)) (by decide) (by decide) (by decide) rfl (hE rfl).2.2.2.1 (Nat.le_of_ble_eq_true rfl) (Nat.le_of_ble_eq_true rfl) dX6_init_74 (fun q => ?_)
  refine o7_putR S hK (by decide) (by decide) (S.2.2.2.2 _ (List.mem_of_getElem? (i := 15) rfl)) (Or.inr ⟨rfl, hnm, rfl⟩) rfl rfl dX6_init_76 (fun ad14 => ?_)
  refine g_aload_n S dX6_init_79 rfl ?_
  refine g_bipush S (v := 40) dX6_init_80 (by decide) ?_
  refine o7_newint S hK (N' := 40) (S.2.2.2.2 _ (List.mem_of_getElem? (i := 8) rfl)) (by decide) (by decide) (by decide) rfl (hE rfl).2.2.2.1 (Nat.le_of_ble_eq_true rfl) (Nat.le_of_ble_eq_true rfl) dX6_init_82 (fun q => ?_)
  refine o7_putR S hK (by decide) (by decide) (S.2.2.2.2 _ (List.mem_of_getElem? (i := 16) rfl)) (Or.inr ⟨rfl, hnm, rfl⟩) rfl rfl dX6_init_84 (fun ad15 => ?_)
  refine g_aload_n S dX6_init_87 rfl ?_
  refine g_bipush S (v := 40) dX6_init_88 (by decide) ?_
  refine o7_newint S hK (N' := 40) (S.2.2.2.2 _ (List.mem_of_getElem? (i := 8) rfl)) (by decide) (by decide) (by decide) rfl (hE rfl).2.2.2.1 (Nat.le_of_ble_eq_true rfl) (Nat.le_of_ble_eq_true rfl) dX6_init_90 (fun q => ?_)
  refine o7_putR S hK (by decide) (by decide) (S.2.2.2.2 _ (List.mem_of_getElem? (i := 17) rfl)) (Or.inr ⟨rfl, hnm, rfl⟩) rfl rfl dX6_init_92 (fun ad16 => ?_)
  refine g_aload_n S dX6_init_95 rfl ?_
  refine g_bipush S (v := 40) dX6_init_96 (by decide) ?_
  refine o7_newint S hK (N' := 40) (S.2.2.2.2 _ (List.mem_of_getElem? (i := 8) rfl)) (by decide) (by decide) (by decide) rfl (hE rfl).2.2.2.1 (Nat.le_of_ble_eq_true rfl) (Nat.le_of_ble_eq_true rfl) dX6_init_98 (fun q => ?_)
  refine o7_putR S hK (by decide) (by decide) (S.2.2.2.2 _ (List.mem_of_getElem? (i := 18) rfl)) (Or.inr ⟨rfl, hnm, rfl⟩) rfl rfl dX6_init_100 (fun ad17 => ?_)
  refine g_aload_n S dX6_init_103 rfl ?_
  refine g_bipush S (v := 40) dX6_init_104 (by decide) ?_
  refine o7_newint S hK (N' := 40) (S.2.2.2.2 _ (List.mem_of_getElem? (i := 8) rfl)) (by decide) (by decide) (by decide) rfl (hE rfl).2.2.2.1 (Nat.le_of_ble_eq_true rfl) (Nat.le_of_ble_eq_true rfl) dX6_init_106 (fun q => ?_)
  refine o7_putR S hK (by decide) (by decide) (S.2.2.2.2 _ (List.mem_of_getElem? (i := 19) rfl)) (Or.inr ⟨rfl, hnm, rfl⟩) rfl rfl dX6_init_108 (fun ad18 => ?_)
  refine g_aload_n S dX6_init_111 rfl ?_
  refine g_bipush S (v := 40) dX6_init_112 (by decide) ?_
  refine o7_newint S hK (N' := 40) (S.2.2.2.2 _ (List.mem_of_getElem? (i := 8) rfl)) (by decide) (by decide) (by decide) rfl (hE rfl).2.2.2.1 (Nat.le_of_ble_eq_true rfl) (Nat.le_of_ble_eq_true rfl) dX6_init_114 (fun q => ?_)
  refine o7_putR S hK (by decide) (by decide) (S.2.2.2.2 _ (List.mem_of_getElem? (i := 20) rfl)) (Or.inr ⟨rfl, hnm, rfl⟩) rfl rfl dX6_init_116 (fun ad19 => ?_)
  refine g_P (fun H h => gOb_skip (by decide) h) ?_
  refine g_aload_n S dX6_init_119 rfl ?_
  refine g_bipush S (v := 80) dX6_init_120 (by decide) ?_
  refine o7_newint S hK (N' := 80) (S.2.2.2.2 _ (List.mem_of_getElem? (i := 8) rfl)) (by decide) (by decide) (by decide) rfl (hE rfl).2.2.2.1 (Nat.le_of_ble_eq_true rfl) (Nat.le_of_ble_eq_true rfl) dX6_init_122 (fun q => ?_)
  refine o7_putR S hK (by decide) (by decide) (S.2.2.2.2 _ (List.mem_of_getElem? (i := 21) rfl)) (Or.inr ⟨rfl, hnm, rfl⟩) rfl rfl dX6_init_124 (fun ad21 => ?_)
  refine g_aload_n S dX6_init_127 rfl ?_
  refine g_bipush S (v := 80) dX6_init_128 (by decide) ?_
  refine o7_newint S hK (N' := 80) (S.2.2.2.2 _ (List.mem_of_getElem? (i := 8) rfl)) (by decide) (by decide) (by decide) rfl (hE rfl).2.2.2.1 (Nat.le_of_ble_eq_true rfl) (Nat.le_of_ble_eq_true rfl) dX6_init_130 (fun q => ?_)
  refine o7_putR S hK (by decide) (by decide) (S.2.2.2.2 _ (List.mem_of_getElem? (i := 22) rfl)) (Or.inr ⟨rfl, hnm, rfl⟩) rfl rfl dX6_init_132 (fun ad22 => ?_)
  refine g_aload_n S dX6_init_135 rfl ?_
  refine g_bipush S (v := 80) dX6_init_136 (by decide) ?_
  refine o7_newint S hK (N' := 80) (S.2.2.2.2 _ (List.mem_of_getElem? (i := 8) rfl)) (by decide) (by decide) (by decide) rfl (hE rfl).2.2.2.1 (Nat.le_of_ble_eq_true rfl) (Nat.le_of_ble_eq_true rfl) dX6_init_138 (fun q => ?_)
  refine o7_putR S hK (by decide) (by decide) (S.2.2.2.2 _ (List.mem_of_getElem? (i := 23) rfl)) (Or.inr ⟨rfl, hnm, rfl⟩) rfl rfl dX6_init_140 (fun ad23 => ?_)
  refine g_aload_n S dX6_init_143 rfl ?_
  refine g_bipush S (v := 80) dX6_init_144 (by decide) ?_
  refine o7_newint S hK (N' := 80) (S.2.2.2.2 _ (List.mem_of_getElem? (i := 8) rfl)) (by decide) (by decide) (by decide) rfl (hE rfl).2.2.2.1 (Nat.le_of_ble_eq_true rfl) (Nat.le_of_ble_eq_true rfl) dX6_init_146 (fun q => ?_)
  refine o7_putR S hK (by decide) (by decide) (S.2.2.2.2 _ (List.mem_of_getElem? (i := 24) rfl)) (Or.inr ⟨rfl, hnm, rfl⟩) rfl rfl dX6_init_148 (fun ad24 => ?_)
  refine g_aload_n S dX6_init_151 rfl ?_
  refine g_bipush S (v := 80) dX6_init_152 (by decide) ?_
  refine o7_newint S hK (N' := 80) (S.2.2.2.2 _ (List.mem_of_getElem? (i := 8) rfl)) (by decide) (by decide) (by decide) rfl (hE rfl).2.2.2.1 (Nat.le_of_ble_eq_true rfl) (Nat.le_of_ble_eq_true rfl) dX6_init_154 (fun q => ?_)
  refine o7_putR S hK (by decide) (by decide) (S.2.2.2.2 _ (List.mem_of_getElem? (i := 25) rfl)) (Or.inr ⟨rfl, hnm, rfl⟩) rfl rfl dX6_init_156 (fun ad25 => ?_)
  refine g_aload_n S dX6_init_159 rfl ?_
  refine g_bipush S (v := 80) dX6_init_160 (by decide) ?_
  refine o7_newint S hK (N' := 80) (S.2.2.2.2 _ (List.mem_of_getElem? (i := 8) rfl)) (by decide) (by decide) (by decide) rfl (hE rfl).2.2.2.1 (Nat.le_of_ble_eq_true rfl) (Nat.le_of_ble_eq_true rfl) dX6_init_162 (fun q => ?_)
  refine o7_putR S hK (by decide) (by decide) (S.2.2.2.2 _ (List.mem_of_getElem? (i := 26) rfl)) (Or.inr ⟨rfl, hnm, rfl⟩) rfl rfl dX6_init_164 (fun ad26 => ?_)
  refine g_aload_n S dX6_init_167 rfl ?_
  refine g_bipush S (v := 80) dX6_init_168 (by decide) ?_
  refine o7_newint S hK (N' := 80) (S.2.2.2.2 _ (List.mem_of_getElem? (i := 8) rfl)) (by decide) (by decide) (by decide) rfl (hE rfl).2.2.2.1 (Nat.le_of_ble_eq_true rfl) (Nat.le_of_ble_eq_true rfl) dX6_init_170 (fun q => ?_)
  refine o7_putR S hK (by decide) (by decide) (S.2.2.2.2 _ (List.mem_of_getElem? (i := 27) rfl)) (Or.inr ⟨rfl, hnm, rfl⟩) rfl rfl dX6_init_172 (fun ad27 => ?_)
  refine g_aload_n S dX6_init_175 rfl ?_
  refine g_bipush S (v := 80) dX6_init_176 (by decide) ?_
  refine o7_newint S hK (N' := 80) (S.2.2.2.2 _ (List.mem_of_getElem? (i := 8) rfl)) (by decide) (by decide) (by decide) rfl (hE rfl).2.2.2.1 (Nat.le_of_ble_eq_true rfl) (Nat.le_of_ble_eq_true rfl) dX6_init_178 (fun q => ?_)
  refine o7_putR S hK (by decide) (by decide) (S.2.2.2.2 _ (List.mem_of_getElem? (i := 28) rfl)) (Or.inr ⟨rfl, hnm, rfl⟩) rfl rfl dX6_init_180 (fun ad28 => ?_)
  refine g_P (fun H h => gOb_skip (by decide) h) ?_
  refine g_aload_n S dX6_init_183 rfl ?_
  refine g_sipush S (v := 6000) dX6_init_184 (by decide) ?_
  refine o7_newint S hK (N' := 6000) (S.2.2.2.2 _ (List.mem_of_getElem? (i := 8) rfl)) (by decide) (by decide) (by decide) rfl (hE rfl).2.2.2.1 (Nat.le_of_ble_eq_true rfl) (Nat.le_of_ble_eq_true rfl) dX6_init_187 (fun q => ?_)
  refine o7_putR S hK (by decide) (by decide) (S.2.2.2.2 _ (List.mem_of_getElem? (i := 29) rfl)) (Or.inr ⟨rfl, hnm, rfl⟩) rfl rfl dX6_init_189 (fun ad30 => ?_)
  refine g_aload_n S dX6_init_192 rfl ?_
  refine g_sipush S (v := 6000) dX6_init_193 (by decide) ?_
  refine o7_newint S hK (N' := 6000) (S.2.2.2.2 _ (List.mem_of_getElem? (i := 8) rfl)) (by decide) (by decide) (by decide) rfl (hE rfl).2.2.2.1 (Nat.le_of_ble_eq_true rfl) (Nat.le_of_ble_eq_true rfl) dX6_init_196 (fun q => ?_)
  refine o7_putR S hK (by decide) (by decide) (S.2.2.2.2 _ (List.mem_of_getElem? (i := 30) rfl)) (Or.inr ⟨rfl, hnm, rfl⟩) rfl rfl dX6_init_198 (fun ad31 => ?_)
  refine g_aload_n S dX6_init_201 rfl ?_
  refine g_sipush S (v := 6000) dX6_init_202 (by decide) ?_
  refine o7_newint S hK (N' := 6000) (S.2.2.2.2 _ (List.mem_of_getElem? (i := 8) rfl)) (by decide) (by decide) (by decide) rfl (hE rfl).2.2.2.1 (Nat.le_of_ble_eq_true rfl) (Nat.le_of_ble_eq_true rfl) dX6_init_205 (fun q => ?_)
  refine o7_putR S hK (by decide) (by decide) (S.2.2.2.2 _ (List.mem_of_getElem? (i := 31) rfl)) (Or.inr ⟨rfl, hnm, rfl⟩) rfl rfl dX6_init_207 (fun ad32 => ?_)
  refine g_P (fun H h => gOb_skip (by decide) h) ?_
  refine g_aload_n S dX6_init_210 rfl ?_
  refine g_bipush S (v := 30) dX6_init_211 (by decide) ?_
  refine o7_newint S hK (N' := 30) (S.2.2.2.2 _ (List.mem_of_getElem? (i := 8) rfl)) (by decide) (by decide) (by decide) rfl (hE rfl).2.2.2.1 (Nat.le_of_ble_eq_true rfl) (Nat.le_of_ble_eq_true rfl) dX6_init_213 (fun q => ?_)
  refine o7_putR S hK (by decide) (by decide) (S.2.2.2.2 _ (List.mem_of_getElem? (i := 32) rfl)) (Or.inr ⟨rfl, hnm, rfl⟩) rfl rfl dX6_init_215 (fun ad34 => ?_)
  refine g_aload_n S dX6_init_218 rfl ?_
  refine g_bipush S (v := 30) dX6_init_219 (by decide) ?_
  refine o7_newint S hK (N' := 30) (S.2.2.2.2 _ (List.mem_of_getElem? (i := 8) rfl)) (by decide) (by decide) (by decide) rfl (hE rfl).2.2.2.1 (Nat.le_of_ble_eq_true rfl) (Nat.le_of_ble_eq_true rfl) dX6_init_221 (fun q => ?_)
  refine o7_putR S hK (by decide) (by decide) (S.2.2.2.2 _ (List.mem_of_getElem? (i := 33) rfl)) (Or.inr ⟨rfl, hnm, rfl⟩) rfl rfl dX6_init_223 (fun ad35 => ?_)
  refine g_aload_n S dX6_init_226 rfl ?_
  refine g_bipush S (v := 30) dX6_init_227 (by decide) ?_
  refine o7_newint S hK (N' := 30) (S.2.2.2.2 _ (List.mem_of_getElem? (i := 8) rfl)) (by decide) (by decide) (by decide) rfl (hE rfl).2.2.2.1 (Nat.le_of_ble_eq_true rfl) (Nat.le_of_ble_eq_true rfl) dX6_init_229 (fun q => ?_)
  refine o7_putR S hK (by decide) (by decide) (S.2.2.2.2 _ (List.mem_of_getElem? (i := 34) rfl)) (Or.inr ⟨rfl, hnm, rfl⟩) rfl rfl dX6_init_231 (fun ad36 => ?_)
  refine g_aload_n S dX6_init_234 rfl ?_
  refine g_bipush S (v := 30) dX6_init_235 (by decide) ?_
  refine o7_newint S hK (N' := 30) (S.2.2.2.2 _ (List.mem_of_getElem? (i := 8) rfl)) (by decide) (by decide) (by decide) rfl (hE rfl).2.2.2.1 (Nat.le_of_ble_eq_true rfl) (Nat.le_of_ble_eq_true rfl) dX6_init_237 (fun q => ?_)
  refine o7_putR S hK (by decide) (by decide) (S.2.2.2.2 _ (List.mem_of_getElem? (i := 35) rfl)) (Or.inr ⟨rfl, hnm, rfl⟩) rfl rfl dX6_init_239 (fun ad37 => ?_)
  refine g_aload_n S dX6_init_242 rfl ?_
  refine g_bipush S (v := 30) dX6_init_243 (by decide) ?_
  refine o7_newint S hK (N' := 30) (S.2.2.2.2 _ (List.mem_of_getElem? (i := 8) rfl)) (by decide) (by decide) (by decide) rfl (hE rfl).2.2.2.1 (Nat.le_of_ble_eq_true rfl) (Nat.le_of_ble_eq_true rfl) dX6_init_245 (fun q => ?_)
  refine o7_putR S hK (by decide) (by decide) (S.2.2.2.2 _ (List.mem_of_getElem? (i := 36) rfl)) (Or.inr ⟨rfl, hnm, rfl⟩) rfl rfl dX6_init_247 (fun ad38 => ?_)
  refine g_aload_n S dX6_init_250 rfl ?_
  refine g_bipush S (v := 30) dX6_init_251 (by decide) ?_
  refine o7_newint S hK (N' := 30) (S.2.2.2.2 _ (List.mem_of_getElem? (i := 8) rfl)) (by decide) (by decide) (by decide) rfl (hE rfl).2.2.2.1 (Nat.le_of_ble_eq_true rfl) (Nat.le_of_ble_eq_true rfl) dX6_init_253 (fun q => ?_)
  refine o7_putR S hK (by decide) (by decide) (S.2.2.2.2 _ (List.mem_of_getElem? (i := 37) rfl)) (Or.inr ⟨rfl, hnm, rfl⟩) rfl rfl dX6_init_255 (fun ad39 => ?_)
  refine g_aload_n S dX6_init_258 rfl ?_
  refine g_bipush S (v := 30) dX6_init_259 (by decide) ?_
  refine o7_newint S hK (N' := 30) (S.2.2.2.2 _ (List.mem_of_getElem? (i := 8) rfl)) (by decide) (by decide) (by decide) rfl (hE rfl).2.2.2.1 (Nat.le_of_ble_eq_true rfl) (Nat.le_of_ble_eq_true rfl) dX6_init_261 (fun q => ?_)
  refine o7_putR S hK (by decide) (by decide) (S.2.2.2.2 _ (List.mem_of_getElem? (i := 38) rfl)) (Or.inr ⟨rfl, hnm, rfl⟩) rfl rfl dX6_init_263 (fun ad40 => ?_)
  refine g_aload_n S dX6_init_266 rfl ?_
  refine g_bipush S (v := 30) dX6_init_267 (by decide) ?_
  refine o7_newboolean S hK (N' := 30) (S.2.2.2.2 _ (List.mem_of_getElem? (i := 39) rfl)) (by decide) (by decide) (by decide) rfl (hE rfl).2.2.2.1 (Nat.le_of_ble_eq_true rfl) (Nat.le_of_ble_eq_true rfl) dX6_init_269 (fun q => ?_)
  refine o7_putR S hK (by decide) (by decide) (S.2.2.2.2 _ (List.mem_of_getElem? (i := 40) rfl)) (Or.inr ⟨rfl, hnm, rfl⟩) rfl rfl dX6_init_271 (fun ad41 => ?_)
  refine g_aload_n S dX6_init_274 rfl ?_
  refine g_bipush S (v := 30) dX6_init_275 (by decide) ?_
  refine o7_newint S hK (N' := 30) (S.2.2.2.2 _ (List.mem_of_getElem? (i := 8) rfl)) (by decide) (by decide) (by decide) rfl (hE rfl).2.2.2.1 (Nat.le_of_ble_eq_true rfl) (Nat.le_of_ble_eq_true rfl) dX6_init_277 (fun q => ?_)
  refine o7_putR S hK (by decide) (by decide) (S.2.2.2.2 _ (List.mem_of_getElem? (i := 41) rfl)) (Or.inr ⟨rfl, hnm, rfl⟩) rfl rfl dX6_init_279 (fun ad42 => ?_)
  refine g_aload_n S dX6_init_282 rfl ?_
  refine g_bipush S (v := 30) dX6_init_283 (by decide) ?_
  refine o7_newint S hK (N' := 30) (S.2.2.2.2 _ (List.mem_of_getElem? (i := 8) rfl)) (by decide) (by decide) (by decide) rfl (hE rfl).2.2.2.1 (Nat.le_of_ble_eq_true rfl) (Nat.le_of_ble_eq_true rfl) dX6_init_285 (fun q => ?_)
  refine o7_putR S hK (by decide) (by decide) (S.2.2.2.2 _ (List.mem_of_getElem? (i := 42) rfl)) (Or.inr ⟨rfl, hnm, rfl⟩) rfl rfl dX6_init_287 (fun ad43 => ?_)
  refine g_aload_n S dX6_init_290 rfl ?_
  refine g_bipush S (v := 80) dX6_init_291 (by decide) ?_
  refine o7_newint S hK (N' := 80) (S.2.2.2.2 _ (List.mem_of_getElem? (i := 8) rfl)) (by decide) (by decide) (by decide) rfl (hE rfl).2.2.2.1 (Nat.le_of_ble_eq_true rfl) (Nat.le_of_ble_eq_true rfl) dX6_init_293 (fun q => ?_)
  refine o7_putR S hK (by decide) (by decide) (S.2.2.2.2 _ (List.mem_of_getElem? (i := 43) rfl)) (Or.inr ⟨rfl, hnm, rfl⟩) rfl rfl dX6_init_295 (fun ad44 => ?_)
  refine g_aload_n S dX6_init_298 rfl ?_
  refine g_bipush S (v := 80) dX6_init_299 (by decide) ?_
  refine o7_newint S hK (N' := 80) (S.2.2.2.2 _ (List.mem_of_getElem? (i := 8) rfl)) (by decide) (by decide) (by decide) rfl (hE rfl).2.2.2.1 (Nat.le_of_ble_eq_true rfl) (Nat.le_of_ble_eq_true rfl) dX6_init_301 (fun q => ?_)
  refine o7_putR S hK (by decide) (by decide) (S.2.2.2.2 _ (List.mem_of_getElem? (i := 44) rfl)) (Or.inr ⟨rfl, hnm, rfl⟩) rfl rfl dX6_init_303 (fun ad45 => ?_)
  exact g_vret S hlk hr (fun H h => ⟨rfl, _, hM_of h⟩) (Nat.le_of_ble_eq_true rfl) (Nat.le_of_ble_eq_true rfl) dX6_init_306

def cent0I (ty : Nat → ClassId) (tE k : Nat) : va_E := if k < 4 then .inr (0, [.int 0, .ref tE, .int 0]) else if k = 4 then .inl (ty 1, 6, .inr (.inl (fun _ => 0))) else .inl (ty 0, 6, .inl (fun _ => 0))
def cisR (k : Nat) : Bool := decide (k < 6)
def hCb (D : va_G) (ty : Nat → ClassId) (A : Nat → Prop) (tE x : Nat) (ad : Nat → Nat) (F : Nat → Int32) (n : Nat) : Heap → Prop := gOb D A 6 11 cisR (cent0I ty tE) x ad F n
abbrev hCbq (D : va_G) (ty : Nat → ClassId) (A : Nat → Prop) (tE x : Nat) (ad : Nat → Nat) (F : Nat → Int32) (n q : Nat) (e : va_E) : Heap → Prop := gObq D A 6 11 cisR (cent0I ty tE) x ad F n q e
def cS0 : Nat → Int32 := uS (uS (uS (uS (uS (fun _ => 0) 6 0) 7 20) 8 5) 9 0) 10 0
def c0 : CS := (fun _ => 0, fun j k _ => if j = 6 then cS0 k else 0, fun _ _ _ => none, fun _ => 0, fun _ => 0, fun _ => 0)
def el0 (x : Nat) (ad : Nat → Nat) : Nat → Nat → Nat := fun j i => if j = 0 then ad i else if j = 6 then x else if j = 8 then ad 4 else ad 5
theorem hC_of {D : va_G} {ty : Nat → ClassId} {A : Nat → Prop} {tE x : Nat} {ad : Nat → Nat} {H : Heap} (h : hCb D ty A tE x ad cS0 11 H) : hC D ty A tE (el0 x ad) c0 H := by
  obtain ⟨⟨h1, h2⟩, h3, h4⟩ := h
  have r : ∀ k, k < 6 → cisR k = true := fun k hk => decide_eq_true hk
  have own : ∀ {j i : Nat}, cown c0 (fun _ => 0) j i → (j = 0 ∧ i < 4) ∨ (j = 6 ∧ i = 0) ∨ (j = 8 ∧ i = 0) ∨ (j = 9 ∧ i = 0) := by
    intro j i ho
    rcases ho with h | ⟨-, h⟩ | h | ⟨h | h, h2⟩ | ⟨-, -, h⟩
    · exact Or.inl h
    · exact absurd h (Nat.not_lt_zero _)
    · exact Or.inr (Or.inl h)
    · exact Or.inr (Or.inr (Or.inl ⟨h, h2⟩))
    · exact Or.inr (Or.inr (Or.inr ⟨h, h2⟩))
    · exact absurd h (Nat.lt_irrefl _)
  have adr : ∀ {j i : Nat}, cown c0 (fun _ => 0) j i → cadr (el0 x ad) (fun _ => 0) j i = if j = 6 then x else ad (if j = 0 then i else if j = 8 then 4 else 5) := by
    intro j i ho
    rcases own ho with ⟨rfl, -⟩ | ⟨rfl, rfl⟩ | ⟨rfl, rfl⟩ | ⟨rfl, rfl⟩ <;> rfl
  refine ⟨fun _ => 0, fun _ => 0, fun _ => 0, fun j i ho => ?_, fun j i j' i' ho ho' he => ?_, fun i hi => ⟨Nat.le_refl _, Nat.zero_le _, Nat.le_refl _⟩⟩
  · rcases own ho with ⟨rfl, hi⟩ | ⟨rfl, rfl⟩ | ⟨rfl, rfl⟩ | ⟨rfl, rfl⟩
    · obtain ⟨g1, g2, g3⟩ := h3 i (by omega) (r i (by omega))
      refine ⟨?_, g2⟩
      have e : cent0I ty tE i = .inr (0, [.int 0, .ref tE, .int 0]) := if_pos hi
      rw [e] at g1
      exact g1
    · exact ⟨h1, h2⟩
    · obtain ⟨g1, g2, g3⟩ := h3 4 (by decide) (r 4 (by decide))
      exact ⟨g1, g2⟩
    · obtain ⟨g1, g2, g3⟩ := h3 5 (by decide) (r 5 (by decide))
      exact ⟨g1, g2⟩
  · rw [adr ho, adr ho'] at he
    have inj : ∀ k k', k < 6 → k' < 6 → ad k = ad k' → k = k' := fun k k' hk hk' e => h4 k k' (by omega) (by omega) (r k hk) (r k' hk') e
    have nx : ∀ k, k < 6 → ad k ≠ x := fun k hk => (h3 k (by omega) (r k hk)).2.2
    rcases own ho with ⟨rfl, hi⟩ | ⟨rfl, rfl⟩ | ⟨rfl, rfl⟩ | ⟨rfl, rfl⟩ <;> rcases own ho' with ⟨rfl, hi'⟩ | ⟨rfl, rfl⟩ | ⟨rfl, rfl⟩ | ⟨rfl, rfl⟩
    · exact ⟨rfl, inj i i' (by omega) (by omega) he⟩
    · exact absurd he (nx i (by omega))
    · have := inj i 4 (by omega) (by omega) he; omega
    · have := inj i 5 (by omega) (by omega) he; omega
    · exact absurd he.symm (nx i' (by omega))
    · exact ⟨rfl, rfl⟩
    · exact absurd he.symm (nx 4 (by omega))
    · exact absurd he.symm (nx 5 (by omega))
    · have := inj 4 i' (by omega) (by omega) he; omega
    · exact absurd he (nx 4 (by omega))
    · exact ⟨rfl, rfl⟩
    · have := inj 4 5 (by omega) (by omega) he; omega
    · have := inj 5 i' (by omega) (by omega) he; omega
    · exact absurd he (nx 5 (by omega))
    · have := inj 5 4 (by omega) (by omega) he; omega
    · exact ⟨rfl, rfl⟩
abbrev rmJxa1e45_init_da8c8 : Room := { frames := 1, cells := 0, slots := 0, locals := 20 }
set_option maxHeartbeats 1500000 in
set_option maxRecDepth 100000 in
theorem k_acInit (l : Launch) (D : va_G) (ty : Nat → ClassId) (A : Nat → Prop) (tE : Nat) (P : Heap → Prop) (q : Nat) : Met l yJxa1e45_init_da8c8 wsJxa1e45_init_da8c8 rmJxa1e45_init_da8c8 (gPc D ty true cstrs tE A [.ref q] P) (gQ A (gRet none P)) 0 0 A := by
  refine g_Met (cc := cJxa1e45_init_da8c8) (maxL := 1) (ret := none) [some (.ref q)] (by decide) rfl (Nat.le_of_ble_eq_true rfl) rfl ?_
  intro p e s m args below meth c S hlk hr hnm hK hE hP0
  have S : CallFix p m c cJxa1e45_init_da8c8 1 s args wsJxa1e45_init_da8c8 RJxa1e45 := S
  refine g_aload_n S dJxa1e45_init_da8c8_0 rfl ?_
  refine g_objInit S (S.2.2.2.2 _ (List.mem_of_getElem? (i := 1) rfl)) (S.2.2.2.2 _ (List.mem_of_getElem? (i := 2) rfl)) (S.2.2.2.2 _ (List.mem_of_getElem? (i := 3) rfl)) dJxa1e45_init_da8c8_1 (Nat.le_of_ble_eq_true rfl) ⟨Nat.le_of_ble_eq_true rfl, Nat.le_of_ble_eq_true rfl⟩ ?_
  exact g_vret S hlk hr (fun H h => ⟨rfl, h⟩) (Nat.le_refl _) (Nat.le_refl _) dJxa1e45_init_da8c8_4

abbrev rmJxc12de_init_da8c8 : Room := { frames := 2, cells := 0, slots := 0, locals := 40 }
set_option maxHeartbeats 1500000 in
set_option maxRecDepth 100000 in
theorem k_alsInit (l : Launch) (D : va_G) (ty : Nat → ClassId) (A : Nat → Prop) (tE : Nat) (x q f : Nat) (ad : Nat → Nat) (F : Nat → Int32) : Met l yJxc12de_init_da8c8 wsJxc12de_init_da8c8 rmJxc12de_init_da8c8 (gPc D ty true cstrs tE A [.ref q] (hCbq D ty A tE x ad F f q (.inr (0, [.int 0, .null, .int 0])))) (gQ A (gRet none (hCbq D ty A tE x ad F f q (.inr (0, [.int 0, .null, .int 0]))))) 0 0 A := by
  refine g_Met (cc := cJxc12de_init_da8c8) (maxL := 1) (ret := none) [some (.ref q)] (by decide) rfl (Nat.le_of_ble_eq_true rfl) rfl ?_
  intro p e s m args below meth c S hlk hr hnm hK hE hP0
  have S : CallFix p m c cJxc12de_init_da8c8 1 s args wsJxc12de_init_da8c8 RJxc12de := S
  refine g_aload_n S dJxc12de_init_da8c8_0 rfl ?_
  refine g_cIv S (k_acInit l D ty A tE (hCbq D ty A tE x ad F f q (.inr (0, [.int 0, .null, .int 0]))) q) (cwI 0 S.2.2.2.2 gJxc12de_init_da8c8_Jxa1e45_init_da8c8 rfl rfl rfl (S.2.2.2.2 _ (List.mem_of_getElem? (i := 4) rfl)) (S.2.2.2.2 _ (List.mem_of_getElem? (i := 2) rfl)) (S.2.2.2.2 _ (List.mem_of_getElem? (i := 3) rfl)) rfl (by decide +kernel) ⟨Nat.le_of_ble_eq_true rfl, Nat.le_of_ble_eq_true rfl⟩) hK hE (fun H h => h) rfl (Nat.le_of_ble_eq_true rfl) dJxc12de_init_da8c8_1 ⟨Nat.le_of_ble_eq_true rfl, Nat.le_of_ble_eq_true rfl⟩ ?_
  refine g_aload_n S dJxc12de_init_da8c8_4 rfl ?_
  refine g_iconst S (v := 0) dJxc12de_init_da8c8_5 (by decide) ?_
  refine g_putf S hK (C := RJx4a65c) (T := TJx4a65c) (N := 3) (ci := 0) (j := 0) (P' := hCbq D ty A tE x ad F f q (.inr (0, [.int 0, .null, .int 0]))) tyJx4a65c tyJx4a65c_ok nmJx4a65c (fun H h => h.2.1) (fun H h => h.2.2.1) (fun H H1 hP hat _ oq => gObq_set hP hat oq) rfl (by decide) (S.2.2.2.2 _ (List.mem_of_getElem? (i := 1) rfl)) (Or.inl rfl) rfl rfl (by decide) dJxc12de_init_da8c8_6 ?_
  exact g_vret S hlk hr (fun H h => ⟨rfl, h⟩) (Nat.le_refl _) (Nat.le_refl _) dJxc12de_init_da8c8_9

abbrev rmJx4a65c_init_da8c8 : Room := { frames := 3, cells := 0, slots := 0, locals := 60 }
set_option maxHeartbeats 1500000 in
set_option maxRecDepth 100000 in
theorem k_alInit (l : Launch) (D : va_G) (ty : Nat → ClassId) (A : Nat → Prop) (tE : Nat) (x q f : Nat) (ad : Nat → Nat) (F : Nat → Int32) : Met l yJx4a65c_init_da8c8 wsJx4a65c_init_da8c8 rmJx4a65c_init_da8c8 (gPc D ty true cstrs tE A [.ref q] (hCbq D ty A tE x ad F f q (.inr (0, [.int 0, .null, .int 0])))) (gQ A (gRet none (hCbq D ty A tE x ad F f q (.inr (0, [.int 0, .ref tE, .int 0]))))) 0 0 A := by
  refine g_Met (cc := cJx4a65c_init_da8c8) (maxL := 1) (ret := none) [some (.ref q)] (by decide) rfl (Nat.le_of_ble_eq_true rfl) rfl ?_
  intro p e s m args below meth c S hlk hr hnm hK hE hP0
  have S : CallFix p m c cJx4a65c_init_da8c8 1 s args wsJx4a65c_init_da8c8 RJx4a65c := S
  refine g_aload_n S dJx4a65c_init_da8c8_0 rfl ?_
  refine g_cIv S (k_alsInit l D ty A tE x q f ad F) (cwI 0 S.2.2.2.2 gJx4a65c_init_da8c8_Jxc12de_init_da8c8 rfl rfl rfl (S.2.2.2.2 _ (List.mem_of_getElem? (i := 5) rfl)) (S.2.2.2.2 _ (List.mem_of_getElem? (i := 3) rfl)) (S.2.2.2.2 _ (List.mem_of_getElem? (i := 4) rfl)) rfl (by decide +kernel) ⟨Nat.le_of_ble_eq_true rfl, Nat.le_of_ble_eq_true rfl⟩) hK hE (fun H h => h) rfl (Nat.le_of_ble_eq_true rfl) dJx4a65c_init_da8c8_1 ⟨Nat.le_of_ble_eq_true rfl, Nat.le_of_ble_eq_true rfl⟩ ?_
  refine g_aload_n S dJx4a65c_init_da8c8_4 rfl ?_
  refine g_getsE S hE (S.2.2.2.2 _ (List.mem_of_getElem? (i := 1) rfl)) dJx4a65c_init_da8c8_5 ?_
  refine g_putf S hK (C := RJx4a65c) (T := TJx4a65c) (N := 3) (ci := 0) (j := 1) (P' := hCbq D ty A tE x ad F f q (.inr (0, [.int 0, .ref tE, .int 0]))) tyJx4a65c tyJx4a65c_ok nmJx4a65c (fun H h => h.2.1) (fun H h => h.2.2.1) (fun H H1 hP hat _ oq => gObq_set hP hat oq) rfl (by decide) (S.2.2.2.2 _ (List.mem_of_getElem? (i := 2) rfl)) (Or.inl rfl) rfl rfl (by decide) dJx4a65c_init_da8c8_8 ?_
  exact g_vret S hlk hr (fun H h => ⟨rfl, h⟩) (Nat.le_refl _) (Nat.le_refl _) dJx4a65c_init_da8c8_11

theorem gObq_ent {D : va_G} {A : Nat → Prop} {ci N : Nat} {isR : Nat → Bool} {ent : Nat → va_E} {mo : Nat} {ad : Nat → Nat} {S : Nat → Int32} {n q : Nat} {x : va_E} {H : Heap} (hx : x = ent n) (h : gObq D A ci N isR ent mo ad S n q x H) : gObq D A ci N isR ent mo ad S n q (ent n) H := hx ▸ h
theorem hCb_end {D : va_G} {ty : Nat → ClassId} {A : Nat → Prop} {tE x : Nat} {ad : Nat → Nat} {H : Heap} (h : gOb D A 6 11 cisR (cent0I ty tE) x ad cS0 6 H) : hCb D ty A tE x ad cS0 11 H := gOb_skip (by decide) (gOb_skip (by decide) (gOb_skip (by decide) (gOb_skip (by decide) (gOb_skip (by decide) h))))
abbrev rmX5_init : Room := { frames := 4, cells := 6, slots := 24, locals := 80 }
set_option maxHeartbeats 1500000 in
set_option maxRecDepth 100000 in
theorem k_init (l : Launch) (D : va_G) (ty : Nat → ClassId) (A : Nat → Prop) (tE : Nat) (x : Nat) (ad0 : Nat → Nat) : Met l yX5_init wsX5_init rmX5_init (gPc D ty true cstrs tE A [.ref x] (hCb D ty A tE x ad0 (fun _ => 0) 0)) (gQ A (fun r H => r = none ∧ ∃ el, el 6 0 = x ∧ hC D ty A tE el c0 H)) 6 24 A := by
  refine g_Met (cc := cX5_init) (maxL := 1) (ret := none) [some (.ref x)] (by decide) rfl (Nat.le_of_ble_eq_true rfl) rfl ?_
  intro p e s m args below meth c S hlk hr hnm hK hE hP0
  have S : CallFix p m c cX5_init 1 s args wsX5_init RX5 := S
  unfold hCb
  refine g_aload_n S dX5_init_0 rfl ?_
  refine g_objInit S (S.2.2.2.2 _ (List.mem_of_getElem? (i := 1) rfl)) (S.2.2.2.2 _ (List.mem_of_getElem? (i := 2) rfl)) (S.2.2.2.2 _ (List.mem_of_getElem? (i := 3) rfl)) dX5_init_1 (Nat.le_of_ble_eq_true rfl) ⟨Nat.le_of_ble_eq_true rfl, Nat.le_of_ble_eq_true rfl⟩ ?_
  refine g_aload_n S dX5_init_4 rfl ?_
  refine g_new S hK (C := RJx4a65c) (T := TJx4a65c) (N := 3) (ci := 0) (fs := [.int 0, .null, .int 0]) (P' := fun q => hCbq D ty A tE x _ (_) _ q (.inr (0, [.int 0, .null, .int 0]))) tyJx4a65c tyJx4a65c_ok rfl (S.2.2.2.2 _ (List.mem_of_getElem? (i := 4) rfl)) (S.2.2.2.2 _ (List.mem_of_getElem? (i := 5) rfl)) (S.2.2.2.2 _ (List.mem_of_getElem? (i := 6) rfl)) (hE rfl).2.2.2.1 (fun j hj => by rcases (show j = 0 ∨ j = 1 ∨ j = 2 by omega) with rfl | rfl | rfl <;> rfl) (Nat.le_of_ble_eq_true rfl) (Nat.le_of_ble_eq_true rfl) (fun H H1 hP hat _ oq hAq => gObq_new hP hat oq hAq) dX5_init_5 (fun q => ?_)
  refine g_dup S dX5_init_8 rfl ?_
  refine g_cIv S (k_alInit l D ty A tE x q _ _ _) (cwI 0 S.2.2.2.2 gX5_init_Jx4a65c_init_da8c8 rfl rfl rfl (S.2.2.2.2 _ (List.mem_of_getElem? (i := 6) rfl)) (S.2.2.2.2 _ (List.mem_of_getElem? (i := 20) rfl)) (S.2.2.2.2 _ (List.mem_of_getElem? (i := 21) rfl)) rfl (by decide +kernel) ⟨Nat.le_of_ble_eq_true rfl, Nat.le_of_ble_eq_true rfl⟩) hK hE (fun H h => h) rfl (Nat.le_of_ble_eq_true rfl) dX5_init_9 ⟨Nat.le_of_ble_eq_true rfl, Nat.le_of_ble_eq_true rfl⟩ ?_
  refine g_P (fun H h => gObq_ent (by rfl) h) ?_
  refine o6_putR S hK (by decide) (by decide) (S.2.2.2.2 _ (List.mem_of_getElem? (i := 7) rfl)) (Or.inr ⟨rfl, hnm, rfl⟩) rfl rfl dX5_init_12 (fun ad0 => ?_)
  refine g_aload_n S dX5_init_15 rfl ?_
  refine g_new S hK (C := RJx4a65c) (T := TJx4a65c) (N := 3) (ci := 0) (fs := [.int 0, .null, .int 0]) (P' := fun q => hCbq D ty A tE x _ (_) _ q (.inr (0, [.int 0, .null, .int 0]))) tyJx4a65c tyJx4a65c_ok rfl (S.2.2.2.2 _ (List.mem_of_getElem? (i := 4) rfl)) (S.2.2.2.2 _ (List.mem_of_getElem? (i := 5) rfl)) (S.2.2.2.2 _ (List.mem_of_getElem? (i := 6) rfl)) (hE rfl).2.2.2.1 (fun j hj => by rcases (show j = 0 ∨ j = 1 ∨ j = 2 by omega) with rfl | rfl | rfl <;> rfl) (Nat.le_of_ble_eq_true rfl) (Nat.le_of_ble_eq_true rfl) (fun H H1 hP hat _ oq hAq => gObq_new hP hat oq hAq) dX5_init_16 (fun q => ?_)
  refine g_dup S dX5_init_19 rfl ?_
  refine g_cIv S (k_alInit l D ty A tE x q _ _ _) (cwI 0 S.2.2.2.2 gX5_init_Jx4a65c_init_da8c8 rfl rfl rfl (S.2.2.2.2 _ (List.mem_of_getElem? (i := 6) rfl)) (S.2.2.2.2 _ (List.mem_of_getElem? (i := 20) rfl)) (S.2.2.2.2 _ (List.mem_of_getElem? (i := 21) rfl)) rfl (by decide +kernel) ⟨Nat.le_of_ble_eq_true rfl, Nat.le_of_ble_eq_true rfl⟩) hK hE (fun H h => h) rfl (Nat.le_of_ble_eq_true rfl) dX5_init_20 ⟨Nat.le_of_ble_eq_true rfl, Nat.le_of_ble_eq_true rfl⟩ ?_
  refine g_P (fun H h => gObq_ent (by rfl) h) ?_
  refine o6_putR S hK (by decide) (by decide) (S.2.2.2.2 _ (List.mem_of_getElem? (i := 8) rfl)) (Or.inr ⟨rfl, hnm, rfl⟩) rfl rfl dX5_init_23 (fun ad1 => ?_)
  refine g_aload_n S dX5_init_26 rfl ?_
  refine g_new S hK (C := RJx4a65c) (T := TJx4a65c) (N := 3) (ci := 0) (fs := [.int 0, .null, .int 0]) (P' := fun q => hCbq D ty A tE x _ (_) _ q (.inr (0, [.int 0, .null, .int 0]))) tyJx4a65c tyJx4a65c_ok rfl (S.2.2.2.2 _ (List.mem_of_getElem? (i := 4) rfl)) (S.2.2.2.2 _ (List.mem_of_getElem? (i := 5) rfl)) (S.2.2.2.2 _ (List.mem_of_getElem? (i := 6) rfl)) (hE rfl).2.2.2.1 (fun j hj => by rcases (show j = 0 ∨ j = 1 ∨ j = 2 by omega) with rfl | rfl | rfl <;> rfl) (Nat.le_of_ble_eq_true rfl) (Nat.le_of_ble_eq_true rfl) (fun H H1 hP hat _ oq hAq => gObq_new hP hat oq hAq) dX5_init_27 (fun q => ?_)
  refine g_dup S dX5_init_30 rfl ?_
  refine g_cIv S (k_alInit l D ty A tE x q _ _ _) (cwI 0 S.2.2.2.2 gX5_init_Jx4a65c_init_da8c8 rfl rfl rfl (S.2.2.2.2 _ (List.mem_of_getElem? (i := 6) rfl)) (S.2.2.2.2 _ (List.mem_of_getElem? (i := 20) rfl)) (S.2.2.2.2 _ (List.mem_of_getElem? (i := 21) rfl)) rfl (by decide +kernel) ⟨Nat.le_of_ble_eq_true rfl, Nat.le_of_ble_eq_true rfl⟩) hK hE (fun H h => h) rfl (Nat.le_of_ble_eq_true rfl) dX5_init_31 ⟨Nat.le_of_ble_eq_true rfl, Nat.le_of_ble_eq_true rfl⟩ ?_
  refine g_P (fun H h => gObq_ent (by rfl) h) ?_
  refine o6_putR S hK (by decide) (by decide) (S.2.2.2.2 _ (List.mem_of_getElem? (i := 9) rfl)) (Or.inr ⟨rfl, hnm, rfl⟩) rfl rfl dX5_init_34 (fun ad2 => ?_)
  refine g_aload_n S dX5_init_37 rfl ?_
  refine g_new S hK (C := RJx4a65c) (T := TJx4a65c) (N := 3) (ci := 0) (fs := [.int 0, .null, .int 0]) (P' := fun q => hCbq D ty A tE x _ (_) _ q (.inr (0, [.int 0, .null, .int 0]))) tyJx4a65c tyJx4a65c_ok rfl (S.2.2.2.2 _ (List.mem_of_getElem? (i := 4) rfl)) (S.2.2.2.2 _ (List.mem_of_getElem? (i := 5) rfl)) (S.2.2.2.2 _ (List.mem_of_getElem? (i := 6) rfl)) (hE rfl).2.2.2.1 (fun j hj => by rcases (show j = 0 ∨ j = 1 ∨ j = 2 by omega) with rfl | rfl | rfl <;> rfl) (Nat.le_of_ble_eq_true rfl) (Nat.le_of_ble_eq_true rfl) (fun H H1 hP hat _ oq hAq => gObq_new hP hat oq hAq) dX5_init_38 (fun q => ?_)
  refine g_dup S dX5_init_41 rfl ?_
  refine g_cIv S (k_alInit l D ty A tE x q _ _ _) (cwI 0 S.2.2.2.2 gX5_init_Jx4a65c_init_da8c8 rfl rfl rfl (S.2.2.2.2 _ (List.mem_of_getElem? (i := 6) rfl)) (S.2.2.2.2 _ (List.mem_of_getElem? (i := 20) rfl)) (S.2.2.2.2 _ (List.mem_of_getElem? (i := 21) rfl)) rfl (by decide +kernel) ⟨Nat.le_of_ble_eq_true rfl, Nat.le_of_ble_eq_true rfl⟩) hK hE (fun H h => h) rfl (Nat.le_of_ble_eq_true rfl) dX5_init_42 ⟨Nat.le_of_ble_eq_true rfl, Nat.le_of_ble_eq_true rfl⟩ ?_
  refine g_P (fun H h => gObq_ent (by rfl) h) ?_
  refine o6_putR S hK (by decide) (by decide) (S.2.2.2.2 _ (List.mem_of_getElem? (i := 10) rfl)) (Or.inr ⟨rfl, hnm, rfl⟩) rfl rfl dX5_init_45 (fun ad3 => ?_)
  refine g_aload_n S dX5_init_48 rfl ?_
  refine g_bipush S (v := 6) dX5_init_49 (by decide) ?_
  refine o6_newlong S hK (N' := 6) (S.2.2.2.2 _ (List.mem_of_getElem? (i := 11) rfl)) (by decide) (by decide) (by decide) rfl (hE rfl).2.2.2.1 (Nat.le_of_ble_eq_true rfl) (Nat.le_of_ble_eq_true rfl) dX5_init_51 (fun q => ?_)
  refine o6_putR S hK (by decide) (by decide) (S.2.2.2.2 _ (List.mem_of_getElem? (i := 12) rfl)) (Or.inr ⟨rfl, hnm, rfl⟩) rfl rfl dX5_init_53 (fun ad4 => ?_)
  refine g_aload_n S dX5_init_56 rfl ?_
  refine g_bipush S (v := 6) dX5_init_57 (by decide) ?_
  refine o6_newint S hK (N' := 6) (S.2.2.2.2 _ (List.mem_of_getElem? (i := 13) rfl)) (by decide) (by decide) (by decide) rfl (hE rfl).2.2.2.1 (Nat.le_of_ble_eq_true rfl) (Nat.le_of_ble_eq_true rfl) dX5_init_59 (fun q => ?_)
  refine o6_putR S hK (by decide) (by decide) (S.2.2.2.2 _ (List.mem_of_getElem? (i := 14) rfl)) (Or.inr ⟨rfl, hnm, rfl⟩) rfl rfl dX5_init_61 (fun ad5 => ?_)
  refine g_aload_n S dX5_init_64 rfl ?_
  refine g_iconst S (v := 0) dX5_init_65 (by decide) ?_
  refine o6_putI S hK (g := 6) (by decide) (by decide) (S.2.2.2.2 _ (List.mem_of_getElem? (i := 15) rfl)) (Or.inl rfl) rfl rfl dX5_init_66 ?_
  refine g_aload_n S dX5_init_69 rfl ?_
  refine g_bipush S (v := 20) dX5_init_70 (by decide) ?_
  refine o6_putI S hK (g := 7) (by decide) (by decide) (S.2.2.2.2 _ (List.mem_of_getElem? (i := 16) rfl)) (Or.inl rfl) rfl rfl dX5_init_72 ?_
  refine g_aload_n S dX5_init_75 rfl ?_
  refine g_iconst S (v := 5) dX5_init_76 (by decide) ?_
  refine o6_putI S hK (g := 8) (by decide) (by decide) (S.2.2.2.2 _ (List.mem_of_getElem? (i := 17) rfl)) (Or.inl rfl) rfl rfl dX5_init_77 ?_
  refine g_aload_n S dX5_init_80 rfl ?_
  refine g_iconst S (v := 0) dX5_init_81 (by decide) ?_
  refine o6_putI S hK (g := 9) (by decide) (by decide) (S.2.2.2.2 _ (List.mem_of_getElem? (i := 18) rfl)) (Or.inl rfl) rfl rfl dX5_init_82 ?_
  refine g_aload_n S dX5_init_85 rfl ?_
  refine g_iconst S (v := 0) dX5_init_86 (by decide) ?_
  refine o6_putI S hK (g := 10) (by decide) (by decide) (S.2.2.2.2 _ (List.mem_of_getElem? (i := 19) rfl)) (Or.inl rfl) rfl rfl dX5_init_87 ?_
  exact g_vret S hlk hr (fun H h => ⟨rfl, el0 x _, rfl, hC_of (hCb_end h)⟩) (Nat.le_of_ble_eq_true rfl) (Nat.le_of_ble_eq_true rfl) dX5_init_90

