/-! the law's body: its cells, its script -/
def R_law : String := "GrainledgerLaw"
def lw_P (b : Addr) (xs : List Int32) (args : Array Value) (s : State) : Prop := args = #[.ref b] ∧ s.IntsAt b xs ∧ xs.length ≤ 4096 ∧ (Jvm.Cond.and given_1 narrow_1).before args s = true
def lw_Q (_ : Array Value) (s : State) (o : Outcome) (t : State) : Prop := o = .returned (some (.int 1)) ∧ Framed s o t [] 601024 7293034
def lw_Z (below : List Frame) (a : Array Value) (s : State) : State → Prop := fun t => ∃ o, t.status = .running ∧ Ended t below o ∧ lw_Q a s o t
theorem nI_plus (i k : Nat) : nI i + nI k = nI (i + k) := by
  induction k with
  | zero => rw [nI_0, Int32.add_zero]; rfl
  | succ k ih =>
    rw [← show nI k + 1 = nI (k + 1) from nI_1 k, ← Int32.add_assoc, ih]
    exact nI_1 (i + k)
abbrev LA (s : State) : Nat → Prop := fun q => s.heap.size ≤ q
abbrev LW (p : Program) (l : Launch) (e : Env) (s : State) (m : MethodId) (below : List Frame) (meth : Method) (c : Code) (b0 : Nat) (P : Heap → Prop) (k n : Nat) (pc : Nat) (lv : List (Option Value)) (st : List Value) : Prop :=
  gW p l e room_1 s m #[Value.ref b0] below meth c (LA s) (lw_Z below #[Value.ref b0] s) 8 P k n pc lv st
/-- the reference's cells -/
def AmS (mo : Nat) (ad : Nat → Nat) : Nat → Prop := fun q => q = mo ∨ ∃ k, 0 < mlen k ∧ q = ad k
def AwS (s : State) (mo : Nat) (ad : Nat → Nat) : Nat → Prop := fun q => s.heap.size ≤ q ∧ ¬ AmS mo ad q
def AcS (s : State) (mo : Nat) (ad : Nat → Nat) (o : Nat) : Nat → Prop := fun q => (s.heap.size ≤ q ∧ ¬ AmS mo ad q) ∧ q ≠ o
/-- what holds at the loop's head, of the heap -/
def LH (D : va_G) (ty : Nat → ClassId) (s : State) (tE o mo : Nat) (ad : Nat → Nat) (el : Nat → Nat → Nat) (a : CS) (b : MS) (f : Nat → Int64) : Heap → Prop := fun H => (hC D ty (AcS s mo ad o) tE el a H ∧ lrow D ty o f H) ∧ hM D ty (AmS mo ad) mo ad b H
theorem hM_lt {D : va_G} {ty : Nat → ClassId} {A : Nat → Prop} {mo : Nat} {ad : Nat → Nat} {b : MS} {H : Heap} (h : hM D ty A mo ad b H) : ∀ q, AmS mo ad q → q < H.size := by
  rintro q (rfl | ⟨k, hk, rfl⟩)
  · exact va_at.lt h.1.1
  · exact va_at.lt (h.2.1 k hk).1
theorem ev_S {l : Launch} {s : State} {mo o : Nat} {ad : Nat → Nat} (hl : l.stackTraces = false) (h1 : s.heap.size ≤ o) (h2 : ¬ AmS mo ad o) : EV l (AcS s mo ad o) (AwS s mo ad) o := ⟨fun _ h => h.1, ⟨h1, h2⟩, fun h => h.2 rfl, fun _ h hne => ⟨h, hne⟩, hl⟩
section LROWS
variable {p : Program} {l : Launch} {e : Env} {s : State} {m : MethodId} {below : List Frame} {meth : Method} {c : Code} {P : Heap → Prop} {k n : Nat} {pc : Nat} {lv : List (Option Value)} {st : List Value} {cc : ByteArray} {Ts : List Cond} {own : String} {b0 L : Nat} {xs : Nat → Int32}
theorem g_sld (S : CallFix p m c cc 8 s #[Value.ref b0] Ts own) (hX : va_X b0 L xs s s.heap) (hbl : b0 < s.heap.size) {j i : Nat} {v : Int32} (hv : nI i + v = nI j) (hj : j < L) (hL : L ≤ 4096) (hdg : decode cc pc = .ok (.iaload, 1))
    (kk : LW p l e s m below meth c b0 P k n (pc + 1) lv (.int (xs j) :: st)) : LW p l e s m below meth c b0 P k n pc lv (.int (nI i + v) :: .ref b0 :: st) := by
  intro H locs ls hP hS hl
  rw [hv]
  refine va_sld S.1 S.2.1 hX hbl (Nat.not_le.mpr hbl) hS (vin_nI hj (by omega)) hdg ?_
  rw [nI_clamp (by omega)]
  exact kk H locs ls hP hS hl
theorem g_sld0 (S : CallFix p m c cc 8 s #[Value.ref b0] Ts own) (hX : va_X b0 L xs s s.heap) (hbl : b0 < s.heap.size) {i : Nat} (hj : i < L) (hL : L ≤ 4096) (hdg : decode cc pc = .ok (.iaload, 1))
    (kk : LW p l e s m below meth c b0 P k n (pc + 1) lv (.int (xs i) :: st)) : LW p l e s m below meth c b0 P k n pc lv (.int (nI i) :: .ref b0 :: st) := by
  intro H locs ls hP hS hl
  refine va_sld S.1 S.2.1 hX hbl (Nat.not_le.mpr hbl) hS (vin_nI hj (by omega)) hdg ?_
  rw [nI_clamp (by omega)]
  exact kk H locs ls hP hS hl
theorem g_slen (S : CallFix p m c cc 8 s #[Value.ref b0] Ts own) (hX : va_X b0 L xs s s.heap) (hbl : b0 < s.heap.size) (hdg : decode cc pc = .ok (.arraylength, 1))
    (kk : LW p l e s m below meth c b0 P k n (pc + 1) lv (.int (Int32.ofNat L) :: st)) : LW p l e s m below meth c b0 P k n pc lv (.ref b0 :: st) :=
  fun H locs ls hP hS hl => va_slen S.1 S.2.1 hX hbl (Nat.not_le.mpr hbl) hS hdg (kk H locs ls hP hS hl)
theorem g_tabIn (S : CallFix p m c cc 8 s #[Value.ref b0] Ts own) {dflt lo hi : Int} {offs : Array Int} {len : Nat} {x : Int32} {off : Int} {tgt : Nat} (hdg : decode cc pc = .ok (.tableswitch dflt lo hi offs, len)) (h1 : ¬ x.toInt < lo) (h2 : ¬ hi < x.toInt) (ho : offs[(x.toInt - lo).toNat]? = some off) (ht : (pc : Int) + off = (tgt : Int))
    (kk : LW p l e s m below meth c b0 P k n tgt lv st) : LW p l e s m below meth c b0 P k n pc lv (.int x :: st) :=
  fun H locs ls hP hS hl => lv_tableIn S.1 S.2.1 hdg h1 h2 ho ht (kk H locs ls hP hS hl)
theorem g_tabOut (S : CallFix p m c cc 8 s #[Value.ref b0] Ts own) {dflt lo hi : Int} {offs : Array Int} {len : Nat} {x : Int32} {tgt : Nat} (hdg : decode cc pc = .ok (.tableswitch dflt lo hi offs, len)) (h : x.toInt < lo ∨ hi < x.toInt) (ht : (pc : Int) + dflt = (tgt : Int))
    (kk : LW p l e s m below meth c b0 P k n tgt lv st) : LW p l e s m below meth c b0 P k n pc lv (.int x :: st) :=
  fun H locs ls hP hS hl => lv_tableOut S.1 S.2.1 hdg h ht (kk H locs ls hP hS hl)
end LROWS
/-- the law's own end, with 1 on the stack, nothing written that was there before, its room as the claim has it -/
theorem lw_ret {p : Program} {l : Launch} {e : Env} {s : State} {m : MethodId} {below : List Frame} {meth : Method} {c : Code} {b : Nat} (hx : p.tables.exec = Jvm.exec) (hb : c.code = code) (hr : meth.sig.returnType = ret) (hlocks : meth.locks = false) {pc : Nat} {H : Heap} {ls : Array Slot} (hdg : decode code pc = .ok (.ireturn, 1)) : W p l e room_1 s m #[Value.ref b] below meth c H [] 601024 7293034 (lw_Z below #[Value.ref b] s) (F0 m pc ls [.int 1]) := by
  intro T hT X
  obtain ⟨fs, hret, hrun, hended, hW, hframe⟩ := X.leave (v := some (.int 1)) (hlocks := hlocks) (fun h => by rw [hr] at h; cases h)
  have hmeth' : T.vm.method? m = some meth := X.method'
  refine ⟨T.setFrames fs, ?_, .returned (some (.int 1)), hrun, hended, rfl, ⟨_, rfl⟩, hW, hframe⟩
  jvm_step X.here [X.here.top, hx, hb, hdg, hmeth', hr, ret, narrow_b1]
  (try refine ⟨rfl, ?_⟩); (try refine ⟨rfl, ?_⟩)
  first | (intro acts; rw [hret _ acts rfl rfl rfl]) | rw [hret _ _ rfl rfl rfl]
  exact Steps.refl _
theorem g_lret1 {p : Program} {l : Launch} {e : Env} {s : State} {m : MethodId} {below : List Frame} {meth : Method} {c : Code} {b0 : Nat} {P : Heap → Prop} {k n pc : Nat} {lv : List (Option Value)} (hx : p.tables.exec = Jvm.exec) (hb : c.code = code) (hr : meth.sig.returnType = ret) (hlocks : meth.locks = false) (hk : k ≤ 601024) (hn : n ≤ 7293034) (hdg : decode code pc = .ok (.ireturn, 1)) : LW p l e s m below meth c b0 P k n pc lv [.int 1] :=
  fun H locs ls hP hS hl => va_forget hS.2.2 (W.widen hk hn (lw_ret hx hb hr hlocks hdg))
