/-! what a call comes to, on both sides -/
theorem hC_kept {D : va_G} {ty : Nat → ClassId} {A : Nat → Prop} {tE : Nat} {el : Nat → Nat → Nat} {a : CS} {H H1 : Heap} (h : hC D ty A tE el a H) (hq : ∀ q : Nat, A q → q < H.size → H1[q]? = H[q]?) : hC D ty A tE el a H1 := by
  obtain ⟨md, cp, ea, h1, h2, h3⟩ := h
  exact ⟨md, cp, ea, fun j i ho => ⟨va_at.kept (h1 j i ho).1 (hq _ (h1 j i ho).2 (va_at.lt (h1 j i ho).1)), (h1 j i ho).2⟩, h2, h3⟩
theorem hX_kept {D : va_G} {ty : Nat → ClassId} {A : Nat → Prop} {tE : Nat} {el : Nat → Nat → Nat} {a a' : CS} {H H1 : Heap} (h : hX D ty A tE el a a' H) (hq : ∀ q : Nat, A q → q < H.size → H1[q]? = H[q]?) : hX D ty A tE el a a' H1 := by
  obtain ⟨el', h1, h2⟩ := h
  exact ⟨el', h1, hC_kept h2 hq⟩
theorem hM_kept {D : va_G} {ty : Nat → ClassId} {A : Nat → Prop} {mo : Nat} {ad : Nat → Nat} {b : MS} {H H1 : Heap} (h : hM D ty A mo ad b H) (hq : ∀ q : Nat, A q → q < H.size → H1[q]? = H[q]?) : hM D ty A mo ad b H1 := by
  obtain ⟨⟨h1, h2⟩, h3, h4⟩ := h
  exact ⟨⟨va_at.kept h1 (hq _ h2 (va_at.lt h1)), h2⟩, fun k hk => ⟨va_at.kept (h3 k hk).1 (hq _ (h3 k hk).2.1 (va_at.lt (h3 k hk).1)), (h3 k hk).2⟩, h4⟩
theorem hX_of {D : va_G} {ty : Nat → ClassId} {A : Nat → Prop} {tE : Nat} {el : Nat → Nat → Nat} {a a' : CS} : ∀ H, hC D ty A tE el a' H → hX D ty A tE el a a' H := fun _ h => ⟨el, elX.rf, h⟩
def relI (k : Int32) (r : Option Value) (f : Nat → Int64) : Prop := ∃ v : Int32, r = some (.int v) ∧ (k = 0 → f 0 = v.toInt64)
def relL (k : Int32) (r : Option Value) (f : Nat → Int64) : Prop := ∃ v : Int64, r = some (.long v) ∧ (k = 0 → f 0 = v)
def relV (_ : Int32) (r : Option Value) (_ : Nat → Int64) : Prop := r = none
/-- the law's cells, apart: the class's, the row for an answer -/
def EV (l : Launch) (Ac Aw : Nat → Prop) (o : Nat) : Prop := (∀ q, Ac q → Aw q) ∧ Aw o ∧ ¬ Ac o ∧ (∀ q, Aw q → q ≠ o → Ac q) ∧ l.stackTraces = false
def LO (rel : Int32 → Option Value → (Nat → Int64) → Prop) (l : Launch) (D : va_G) (ty : Nat → ClassId) (tE o : Nat) (Ac Aw Am : Nat → Prop) (mo : Nat) (ad : Nat → Nat) (el : Nat → Nat → Nat) (a : CS) (b : MS) (T D0 : Nat) (yL : MethodName) (wsL : List Cond) (yM : MethodName) (wsM : List Cond) (rmM : Room) (av ov : List Value) : Prop :=
  ∀ f : Nat → Int64, ∃ (k : Int32) (f' : Nat → Int64) (a' : CS) (b' : MS) (r : Option Value) (mc ms : Nat) (P2 : Heap → Prop), (∀ H, P2 H → hX D ty Ac tE el a a' H) ∧
    Met l yL wsL (rmW mc ms) (gPc D ty true cstrs tE Aw (.ref (el 6 0) :: (av ++ ov)) (fun H => hC D ty Ac tE el a H ∧ lrow D ty o f H)) (gQ Aw (gRet (some (.int k)) (fun H => P2 H ∧ lrow D ty o f' H))) mc ms Aw ∧
    Met l yM wsM rmM (gPc D ty false [] 0 Am (.ref mo :: av) (hM D ty Am mo ad b)) (gQ Am (gRet r (hM D ty Am mo ad b'))) 0 0 Am ∧
    (mc + pc a ≤ pc a' + 10 ∧ ms + ps a ≤ ps a' + 400) ∧ b'.1 0 = k ∧ rel k r f' ∧ SJ (T + 1) (D0 + 30) a' b' ∧ TN a'
section LOs
variable {rel : Int32 → Option Value → (Nat → Int64) → Prop} {l : Launch} {D : va_G} {ty : Nat → ClassId} {tE o : Nat} {Ac Aw Am : Nat → Prop} {mo : Nat} {ad : Nat → Nat} {el : Nat → Nat → Nat} {a a' : CS} {b b' : MS} {T D0 : Nat} {yL : MethodName} {wsL : List Cond} {yM : MethodName} {wsM : List Cond} {rmM : Room} {av ov : List Value} {k : Int32} {r : Option Value} {mc ms : Nat} {P2 : Heap → Prop} {g : (Nat → Int64) → Nat → Int64}
theorem LO.thr (j : SJ T D0 a b) (tn : TN a)
    (hX : ∀ f, Met l yL wsL (rmW 1 6) (gPc D ty true cstrs tE Aw (.ref (el 6 0) :: (av ++ ov)) (fun H => hC D ty Ac tE el a H ∧ lrow D ty o f H)) (gQ Aw (gRet (some (.int k)) (fun H => hC D ty Ac tE el a H ∧ lrow D ty o f H))) 1 6 Aw)
    (hM : Met l yM wsM rmM (gPc D ty false [] 0 Am (.ref mo :: av) (hM D ty Am mo ad b)) (gQ Am (gRet r (hM D ty Am mo ad (mS b 0 k)))) 0 0 Am) (hr : ∀ f, rel k r f) : LO rel l D ty tE o Ac Aw Am mo ad el a b T D0 yL wsL yM wsM rmM av ov :=
  fun f => ⟨k, f, a, mS b 0 k, r, 1, 6, hC D ty Ac tE el a, hX_of, hX f, hM, ⟨by omega, by omega⟩, rfl, hr f, j.same (Nat.le_add_right _ _) k, tn⟩
theorem LO.ok
    (hW : ∀ f, Met l yL wsL (rmW mc ms) (gPc D ty true cstrs tE Aw (.ref (el 6 0) :: (av ++ ov)) (fun H => hC D ty Ac tE el a H ∧ lrow D ty o f H)) (gQ Aw (gRet (some (.int 0)) (fun H => P2 H ∧ lrow D ty o (g f) H))) mc ms Aw) (hP : ∀ H, P2 H → hX D ty Ac tE el a a' H)
    (hM : Met l yM wsM rmM (gPc D ty false [] 0 Am (.ref mo :: av) (hM D ty Am mo ad b)) (gQ Am (gRet r (hM D ty Am mo ad b'))) 0 0 Am) (hc : mc + pc a ≤ pc a' + 10 ∧ ms + ps a ≤ ps a' + 400) (h0 : b'.1 0 = 0) (hr : ∀ f, rel 0 r (g f)) (hj : SJ (T + 1) (D0 + 30) a' b') (ht : TN a') : LO rel l D ty tE o Ac Aw Am mo ad el a b T D0 yL wsL yM wsM rmM av ov :=
  fun f => ⟨0, g f, a', b', r, mc, ms, P2, hP, hW f, hM, hc, h0, hr f, hj, ht⟩
end LOs
theorem pc_mono {a a' : CS} (h : ∀ j, cN a j ≤ cN a' j) : pc a ≤ pc a' ∧ ps a ≤ ps a' := by
  have h1 := h 1
  have h2 := h 2
  have h3 := h 3
  have h4 := h 4
  have h5 := h 5
  unfold pc ps
  omega
theorem pc_add {a a' : CS} {mc ms : Nat} (h : ∀ j, cN a j ≤ cN a' j) (h1 : mc ≤ 10) (h2 : ms ≤ 400) : mc + pc a ≤ pc a' + 10 ∧ ms + ps a ≤ ps a' + 400 := by
  have := pc_mono h
  omega
theorem SJ.mf {T D : Nat} {a : CS} {b : MS} (h : SJ T D a b) (hT : T ≤ 1000) : mWf b ∧ mCnt b ∧ vp_in (gS b 29) 5900 := by
  have bd := h.bd
  obtain ⟨⟨m1, m2, m3, m4, m5⟩, m6⟩ := h.2.2.mk (by omega)
  have ci := h.2.2.1
  have ct := h.2.2.2.2.2.1
  have h06 := ci.2.2.1.2
  have h40 := ci.2.2.2.1.2
  have h30 := ci.2.2.2.2.2
  refine ⟨m1, ⟨?_, ?_, m3, ?_⟩, ?_⟩
  · rw [show gS b 7 = nI (cL a 0) from ct.1]; exact vin_nI (by omega) (by omega)
  · rw [show gS b 13 = nI (cL a 1) from ct.2.1]; exact vin_nI (by omega) (by omega)
  · rw [show gS b 33 = nI (cL a 3) from ct.2.2.2]; exact vin_nI (by omega) (by omega)
  · have := vin_toInt m5
    rw [vp_in_iff]
    omega
theorem mIn_bad {w : Int32} {n : Int32} (h : mIn w 0 n = false) : w.toInt < 0 ∨ n.toInt < w.toInt := by
  have h1 : ¬ mIn w 0 n = true := by rw [h]; decide
  rw [mIn_int, i32_0] at h1
  omega
theorem mIn_7 {w : Int32} (h : mIn w 0 7 = true) : w = 0 ∨ w = 1 ∨ w = 2 ∨ w = 3 ∨ w = 4 ∨ w = 5 ∨ w = 6 ∨ w = 7 := by
  obtain ⟨h1, h2⟩ := mIn_int.mp h
  rw [i32_0] at h1
  rw [show (7 : Int32).toInt = 7 by decide] at h2
  have e : ∀ k : Int32, w = k ↔ w.toInt = k.toInt := fun k => Int32.toInt_inj.symm
  rw [e 0, e 1, e 2, e 3, e 4, e 5, e 6, e 7, i32_0, show (1 : Int32).toInt = 1 by decide, show (2 : Int32).toInt = 2 by decide, show (3 : Int32).toInt = 3 by decide, show (4 : Int32).toInt = 4 by decide, show (5 : Int32).toInt = 5 by decide, show (6 : Int32).toInt = 6 by decide, show (7 : Int32).toInt = 7 by decide]
  omega
theorem mIn_3 {w : Int32} (h : mIn w 0 3 = true) : w = 0 ∨ w = 1 ∨ w = 2 ∨ w = 3 := by
  obtain ⟨h1, h2⟩ := mIn_int.mp h
  rw [i32_0] at h1
  rw [show (3 : Int32).toInt = 3 by decide] at h2
  have e : ∀ k : Int32, w = k ↔ w.toInt = k.toInt := fun k => Int32.toInt_inj.symm
  rw [e 0, e 1, e 2, e 3, i32_0, show (1 : Int32).toInt = 1 by decide, show (2 : Int32).toInt = 2 by decide, show (3 : Int32).toInt = 3 by decide]
  omega
