theorem cNew_le {a : CS} (j : Nat) : ∀ t, cN a t ≤ cN (cNew a j) t := by
  intro t
  show _ ≤ (if t = j then a.1 j + 1 else a.1 t)
  split
  · rename_i z; rw [z]; exact Nat.le_succ _
  · exact Nat.le_refl _
theorem cOb_le {a a' : CS} (h1 : ∀ t, cN a t ≤ cN a' t) {j i : Nat} (h : cOb a j i) : cOb a' j i := by
  rcases h with ⟨h, h2⟩ | h
  · exact Or.inl ⟨h, Nat.lt_of_lt_of_le h2 (h1 j)⟩
  · exact Or.inr h
theorem cOb_nw {a : CS} {j : Nat} (hj : 1 ≤ j ∧ j ≤ 5) : cOb (cNew a j) j (cN a j) := Or.inl ⟨hj, by show cN a j < (if j = j then cN a j + 1 else cN a j); rw [if_pos rfl]; exact Nat.lt_succ_self _⟩
theorem cOb6 {a : CS} : cOb a 6 0 := Or.inr ⟨rfl, rfl⟩
section CLX
variable {p : Program} {l : Launch} {e : Env} {R : Room} {s : State} {m : MethodId} {args : Array Value} {below : List Frame} {meth : Method} {c : Code} {A : Nat → Prop} {Q : State → Prop} {nL : Nat} {k n : Nat} {pc : Nat} {lv : List (Option Value)} {st : List Value} {P : Heap → Prop}
variable {cc : ByteArray} {Ts : List Cond} {own : String} {D : va_G} {ty : Nat → ClassId} {tE : Nat} {el : Nat → Nat → Nat} {a a' : CS} {strs : List (Nat × String)}
variable {b : Bool} {y : MethodName} {bytes : ByteArray} {maxL mc ms na index : Nat} {ret : Option FieldType} {ws : List Cond} {rm : Room} {P1 : Heap → Prop} {C : String} {b0 : Nat} {As : List Value} {v : Value}
theorem g_cVx {jj ii : Nat} (S : CallFix p m c cc nL s args Ts own) (hM : Met l y ws rm (gPc D ty b strs tE A (.ref b0 :: As) P1) (gQ A (fun v H => ∃ el', elX a el el' ∧ v = some (.ref (el' jj ii)) ∧ hC D ty A tE el' a' H)) mc ms A) (cw : CallW R s args own C index y bytes maxL ret ws rm mc ms na) (hK : gK D ty s) (hE : gE b strs A tE s s.heap)
    (hP1 : ∀ H, P H → P1 H) (hrecv : ∀ H, P H → ∃ cellB : Cell, H[b0]? = some cellB ∧ cellB.vm.isStatics = false ∧ s.vm.findClass C = some cellB.cls) (hn : As.length = na) (hcat : (st.map fun v => v.category).sum ≤ 8) (hdg : decode cc pc = .ok (.invokevirtual index, 3)) (hf : k + mc ≤ R.cells ∧ n + ms ≤ R.slots)
    (kk : ∀ el', elX a el el' → gW p l e R s m args below meth c A Q nL (hC D ty A tE el' a') (k + mc) (n + ms) (pc + 3) lv (.ref (el' jj ii) :: st)) : gW p l e R s m args below meth c A Q nL P k n pc lv (As.reverse ++ .ref b0 :: st) :=
  g_callV S hM cw hK hE hP1 hrecv hn hcat hdg hf (fun r => g_ex (P' := fun el' H => elX a el el' ∧ r = some (.ref (el' jj ii)) ∧ hC D ty A tE el' a' H) (fun H h => h) (fun el' => g_and (fun H h => h) (fun hx => g_and (fun H h => h) (fun hr => by subst hr; exact kk el' hx))))
theorem g_cVh (S : CallFix p m c cc nL s args Ts own) (hM : Met l y ws rm (gPc D ty b strs tE A (.ref b0 :: As) P1) (gQ A (gRet none (hX D ty A tE el a a'))) mc ms A) (cw : CallW R s args own C index y bytes maxL ret ws rm mc ms na) (hK : gK D ty s) (hE : gE b strs A tE s s.heap)
    (hP1 : ∀ H, P H → P1 H) (hrecv : ∀ H, P H → ∃ cellB : Cell, H[b0]? = some cellB ∧ cellB.vm.isStatics = false ∧ s.vm.findClass C = some cellB.cls) (hn : As.length = na) (hcat : (st.map fun v => v.category).sum ≤ 8) (hdg : decode cc pc = .ok (.invokevirtual index, 3)) (hf : k + mc ≤ R.cells ∧ n + ms ≤ R.slots)
    (kk : ∀ el', elX a el el' → gW p l e R s m args below meth c A Q nL (hC D ty A tE el' a') (k + mc) (n + ms) (pc + 3) lv st) : gW p l e R s m args below meth c A Q nL P k n pc lv (As.reverse ++ .ref b0 :: st) :=
  g_cVv S hM cw hK hE hP1 hrecv hn hcat hdg hf (g_ex (P' := fun el' H => elX a el el' ∧ hC D ty A tE el' a' H) (fun H h => h) (fun el' => g_and (fun H h => h) (fun hx => kk el' hx)))
theorem g_cVi (S : CallFix p m c cc nL s args Ts own) (hM : Met l y ws rm (gPc D ty b strs tE A (.ref b0 :: As) P1) (gQ A (gRet (some v) (hX D ty A tE el a a'))) mc ms A) (cw : CallW R s args own C index y bytes maxL ret ws rm mc ms na) (hK : gK D ty s) (hE : gE b strs A tE s s.heap)
    (hP1 : ∀ H, P H → P1 H) (hrecv : ∀ H, P H → ∃ cellB : Cell, H[b0]? = some cellB ∧ cellB.vm.isStatics = false ∧ s.vm.findClass C = some cellB.cls) (hn : As.length = na) (hcat : (st.map fun v => v.category).sum ≤ 8) (hdg : decode cc pc = .ok (.invokevirtual index, 3)) (hf : k + mc ≤ R.cells ∧ n + ms ≤ R.slots)
    (kk : ∀ el', elX a el el' → gW p l e R s m args below meth c A Q nL (hC D ty A tE el' a') (k + mc) (n + ms) (pc + 3) lv (v :: st)) : gW p l e R s m args below meth c A Q nL P k n pc lv (As.reverse ++ .ref b0 :: st) :=
  g_cVr S hM cw hK hE hP1 hrecv hn hcat hdg hf (g_ex (P' := fun el' H => elX a el el' ∧ hC D ty A tE el' a' H) (fun H h => h) (fun el' => g_and (fun H h => h) (fun hx => kk el' hx)))
end CLX
theorem elX.tr2 {a a1 : CS} {el el1 el2 : Nat → Nat → Nat} (h1 : elX a el el1) (h2 : elX a1 el1 el2) (hle : ∀ j, cN a j ≤ cN a1 j) : elX a el el2 := elX.tr h1 h2 hle
def kMakeT (a : CS) (h : Int32) : CS :=
  let b := cNew (cNew a 3) 5
  cSR (cSI (cSI b 5 0 (cN a 5) (cI a 6 9 0)) 5 2 (cN a 5) h) 5 1 (cN a 5) none
def kMakeR (a : CS) (d : Nat) (h kg : Int32) : CS :=
  let b := kMakeT a h
  let b := cSR (cSR (cSI b 3 0 (cN a 3) (nI (cL a 2))) 3 1 (cN a 3) (some d)) 3 2 (cN a 3) (some (cN a 5))
  let b := cSI (cSI (cSI (cSI b 3 4 (cN a 3) (-1)) 3 5 (cN a 3) (-1)) 3 6 (cN a 3) (-1)) 3 8 (cN a 3) (-1)
  cSI b 3 3 (cN a 3) kg
/-- a receipt is made, with its first tenure -/
def kMake (a : CS) (d : Nat) (h kg : Int32) : CS := cSL (kMakeR a d h kg) 2 (cL a 2 + 1)
theorem kMake_no (a : CS) (d : Nat) (h kg : Int32) : cI (kMake a d h kg) 3 0 (cN a 3) = nI (cL a 2) := by
  simp [kMake, kMakeR, kMakeT, cSL, cSI, cSR, u3, cI, cN, cNew]
set_option maxHeartbeats 1500000 in
set_option maxRecDepth 100000 in
theorem k_newTenure0 (l : Launch) (D : va_G) (ty : Nat → ClassId) (A : Nat → Prop) (tE : Nat) (el : Nat → Nat → Nat) (a : CS) {i : Nat} (ho : cOb a 5 i) (x1 x2 : Int32) : Met l yX4_init wsX4_init rmX4_init (gPc D ty true cstrs tE A [.ref (el 5 i), .int x1, .int x2, .null] (hC D ty A tE el a)) (gQ A (gRet none (hC D ty A tE el (cSR (cSI (cSI a 5 0 i x1) 5 2 i x2) 5 1 i none)))) 0 0 A := by
  refine g_Met (cc := cX4_init) (maxL := 4) (ret := none) [some (.ref (el 5 i)), some (.int x1), some (.int x2), some (.null)] (by decide) rfl (Nat.le_of_ble_eq_true rfl) rfl ?_
  intro p e s m args below meth c S hlk hr hnm hK hE hP0
  have S : CallFix p m c cX4_init 4 s args wsX4_init RX4 := S
  refine g_aload_n S dX4_init_0 rfl ?_
  refine g_objInit S (S.2.2.2.2 _ (List.mem_of_getElem? (i := 1) rfl)) (S.2.2.2.2 _ (List.mem_of_getElem? (i := 2) rfl)) (S.2.2.2.2 _ (List.mem_of_getElem? (i := 3) rfl)) dX4_init_1 (Nat.le_of_ble_eq_true rfl) ⟨Nat.le_of_ble_eq_true rfl, Nat.le_of_ble_eq_true rfl⟩ ?_
  refine g_aload_n S dX4_init_4 rfl ?_
  refine g_iload_n S dX4_init_5 rfl ?_
  refine k5_put S hK (by exact ho) 0 (by decide) (by decide) (S.2.2.2.2 _ (List.mem_of_getElem? (i := 4) rfl)) (Or.inr ⟨rfl, hnm, rfl⟩) rfl rfl dX4_init_6 ?_
  refine g_aload_n S dX4_init_9 rfl ?_
  refine g_iload_n S dX4_init_10 rfl ?_
  refine k5_put S hK (by exact ho) 2 (by decide) (by decide) (S.2.2.2.2 _ (List.mem_of_getElem? (i := 5) rfl)) (Or.inl rfl) rfl rfl dX4_init_11 ?_
  refine g_aload_n S dX4_init_14 rfl ?_
  refine g_aload_nN S dX4_init_15 rfl ?_
  refine k5_putR S hK none (by exact ho) 1 (by decide) (by decide) (S.2.2.2.2 _ (List.mem_of_getElem? (i := 6) rfl)) (Or.inr ⟨rfl, hnm, rfl⟩) rfl rfl rfl dX4_init_16 ?_
  exact g_vret S hlk hr (fun H h => ⟨rfl, h⟩) (Nat.le_refl _) (Nat.le_refl _) dX4_init_19

abbrev rmX5_makeReceipt : Room := { frames := 7, cells := 3, slots := 164, locals := 191 }
set_option maxHeartbeats 1500000 in
set_option maxRecDepth 100000 in
theorem k_make (l : Launch) (D : va_G) (ty : Nat → ClassId) (A : Nat → Prop) (tE : Nat) (el : Nat → Nat → Nat) (a : CS) (hrw : cRwf a) {d : Nat} (hd : cOb a 2 d) (h kg : Int32) (hLN : cL a 2 = cN a 3) (hb : cL a 2 < 100) : Met l yX5_makeReceipt wsX5_makeReceipt rmX5_makeReceipt (gPc D ty true cstrs tE A [.ref (el 6 0), .ref (el 2 d), .int h, .int kg] (hC D ty A tE el a)) (gQ A (fun v H => ∃ el', elX a el el' ∧ v = some (.ref (el' 3 (cN a 3))) ∧ hC D ty A tE el' (kMake a d h kg) H)) 3 164 A := by
  refine g_Met (cc := cX5_makeReceipt) (maxL := 5) (ret := (some (.object "Grainledger$Receipt"))) [some (.ref (el 6 0)), some (.ref (el 2 d)), some (.int h), some (.int kg), none] (by decide) rfl (Nat.le_of_ble_eq_true rfl) rfl ?_
  intro p e s m args below meth c S hlk hr hnm hK hE hP0
  have S : CallFix p m c cX5_makeReceipt 5 s args wsX5_makeReceipt RX5 := S
  refine k3_new S hK (by exact hrw) (S.2.2.2.2 _ (List.mem_of_getElem? (i := 1) rfl)) (S.2.2.2.2 _ (List.mem_of_getElem? (i := 2) rfl)) (S.2.2.2.2 _ (List.mem_of_getElem? (i := 3) rfl)) (hE rfl).2.2.2.1 (Nat.le_of_ble_eq_true rfl) (Nat.le_of_ble_eq_true rfl) dX5_makeReceipt_0 (fun q => ?_)
  obtain ⟨el1, hel1⟩ : ∃ x : Nat → Nat → Nat, x = elU el 3 (cN a 3) q := ⟨_, rfl⟩
  rw [← hel1]
  have xel1 : elX a el el1 := by rw [hel1]; exact elX.new (by decide)
  refine g_lv (show _ = [some (.ref (el1 6 0)), some (.ref (el1 2 d)), some (.int h), some (.int kg), none] from by rw [xel1.ob cOb6, xel1.ob hd] <;> rfl) ?_
  refine g_dup S dX5_makeReceipt_3 rfl ?_
  refine g_aload_n S dX5_makeReceipt_4 rfl ?_
  refine k6_get S hK (by exact cOb6) 2 (by decide) (S.2.2.2.2 _ (List.mem_of_getElem? (i := 4) rfl)) rfl dX5_makeReceipt_5 ?_
  refine g_cVr S (k_size l D ty A tE el1 (cNew a 3) (j := 2) (by decide)) (cwV 0 S.2.2.2.2 gX5_makeReceipt_Jx4a65c_size_8abf5 rfl rfl rfl (by decide +kernel) ⟨Nat.le_of_ble_eq_true rfl, Nat.le_of_ble_eq_true rfl⟩) hK hE (fun H h => h) (k0_recv hK (j := 2) (by decide)) rfl (Nat.le_of_ble_eq_true rfl) dX5_makeReceipt_8 ⟨Nat.le_of_ble_eq_true rfl, Nat.le_of_ble_eq_true rfl⟩ ?_
  refine g_aload_n S dX5_makeReceipt_11 rfl ?_
  refine k5_new S hK (by exact (cRwf_new 3 hrw)) (S.2.2.2.2 _ (List.mem_of_getElem? (i := 5) rfl)) (S.2.2.2.2 _ (List.mem_of_getElem? (i := 6) rfl)) (S.2.2.2.2 _ (List.mem_of_getElem? (i := 7) rfl)) (hE rfl).2.2.2.1 (Nat.le_of_ble_eq_true rfl) (Nat.le_of_ble_eq_true rfl) dX5_makeReceipt_12 (fun q => ?_)
  obtain ⟨el2, hel2⟩ : ∃ x : Nat → Nat → Nat, x = elU el1 5 (cN (cNew a 3) 5) q := ⟨_, rfl⟩
  rw [← hel2]
  have xel2 : elX (cNew a 3) el1 el2 := by rw [hel2]; exact elX.new (by decide)
  have e6 : el2 6 0 = el1 6 0 := xel2.ob cOb6
  have e2 : el2 2 d = el1 2 d := xel2.ob (cOb_le (cNew_le 3) hd)
  have e3 : el2 3 (cN a 3) = el1 3 (cN a 3) := xel2.ob (cOb_nw (by decide))
  refine g_lv (show _ = [some (.ref (el2 6 0)), some (.ref (el2 2 d)), some (.int h), some (.int kg), none] from by rw [e6, e2] <;> rfl) ?_
  refine g_st (show _ = [Value.ref (el2 5 (cN a 5)), Value.ref (el2 2 d), Value.int (nI (cL a 2)), Value.ref (el2 3 (cN a 3)), Value.ref (el2 3 (cN a 3))] from by rw [e2, e3] <;> rfl) ?_
  refine g_dup S dX5_makeReceipt_15 rfl ?_
  refine g_aload_n S dX5_makeReceipt_16 rfl ?_
  refine k6_get S hK (by exact cOb6) 9 (by decide) (S.2.2.2.2 _ (List.mem_of_getElem? (i := 8) rfl)) rfl dX5_makeReceipt_17 ?_
  refine g_iload_n S dX5_makeReceipt_20 rfl ?_
  refine g_null S dX5_makeReceipt_21 ?_
  refine g_cIv S (k_newTenure0 l D ty A tE el2 (cNew (cNew a 3) 5) (i := cN a 5) (cOb_nw (a := cNew a 3) (by decide)) _ _) (cwI 3 S.2.2.2.2 gX5_makeReceipt_X4_init rfl rfl rfl (S.2.2.2.2 _ (List.mem_of_getElem? (i := 7) rfl)) (S.2.2.2.2 _ (List.mem_of_getElem? (i := 16) rfl)) (S.2.2.2.2 _ (List.mem_of_getElem? (i := 17) rfl)) rfl (by decide +kernel) ⟨Nat.le_of_ble_eq_true rfl, Nat.le_of_ble_eq_true rfl⟩) hK hE (fun H h => h) rfl (Nat.le_of_ble_eq_true rfl) dX5_makeReceipt_22 ⟨Nat.le_of_ble_eq_true rfl, Nat.le_of_ble_eq_true rfl⟩ ?_
  refine g_cIv S (k_newReceipt l D ty A tE el2 (kMakeT a h) (i := cN a 3) (cOb_le (cNew_le 5) (cOb_nw (a := a) (by decide))) _ _ d rfl _ (cN a 5) rfl) (cwI 3 S.2.2.2.2 gX5_makeReceipt_X2_init rfl rfl rfl (S.2.2.2.2 _ (List.mem_of_getElem? (i := 3) rfl)) (S.2.2.2.2 _ (List.mem_of_getElem? (i := 25) rfl)) (S.2.2.2.2 _ (List.mem_of_getElem? (i := 26) rfl)) rfl (by decide +kernel) ⟨Nat.le_of_ble_eq_true rfl, Nat.le_of_ble_eq_true rfl⟩) hK hE (fun H h => h) rfl (Nat.le_of_ble_eq_true rfl) dX5_makeReceipt_25 ⟨Nat.le_of_ble_eq_true rfl, Nat.le_of_ble_eq_true rfl⟩ ?_
  refine g_astore S dX5_makeReceipt_28 (by decide) rfl ?_
  refine g_aload S dX5_makeReceipt_30 rfl ?_
  refine g_iload_n S dX5_makeReceipt_32 rfl ?_
  refine k3_put S hK (by exact (cOb_le (cNew_le 5) (cOb_nw (a := a) (by decide)))) 3 (by decide) (by decide) (S.2.2.2.2 _ (List.mem_of_getElem? (i := 9) rfl)) (Or.inl rfl) rfl rfl dX5_makeReceipt_33 ?_
  refine g_aload_n S dX5_makeReceipt_36 rfl ?_
  refine k6_get S hK (by exact cOb6) 2 (by decide) (S.2.2.2.2 _ (List.mem_of_getElem? (i := 4) rfl)) rfl dX5_makeReceipt_37 ?_
  refine g_aload S dX5_makeReceipt_40 rfl ?_
  refine g_st (show _ = [Value.ref (el2 (lkd 2) (cL (kMakeR a d h kg) 2)), Value.ref (el2 0 2)] from by rw [show cL (kMakeR a d h kg) 2 = cN a 3 from hLN] <;> rfl) ?_
  refine g_cVr S (k_add l D ty A tE el2 (kMakeR a d h kg) (j := 2) (by decide) hb (by rw [show cL (kMakeR a d h kg) 2 = cN a 3 from hLN]; exact Nat.lt_succ_self _)) (cwV 1 S.2.2.2.2 gX5_makeReceipt_Jx4a65c_add_9ea2d rfl rfl rfl (by decide +kernel) ⟨Nat.le_of_ble_eq_true rfl, Nat.le_of_ble_eq_true rfl⟩) hK hE (fun H h => h) (k0_recv hK (j := 2) (by decide)) rfl (Nat.le_of_ble_eq_true rfl) dX5_makeReceipt_42 ⟨Nat.le_of_ble_eq_true rfl, Nat.le_of_ble_eq_true rfl⟩ ?_
  refine g_pop S dX5_makeReceipt_45 rfl ?_
  refine g_aload S dX5_makeReceipt_46 rfl ?_
  exact g_aret S hlk hr (Or.inl ⟨_, rfl⟩) (Or.inr ⟨_, rfl⟩) (fun H h => ⟨el2, elX.tr xel1 xel2 (cNew_le 3), rfl, h⟩) (Nat.le_of_ble_eq_true rfl) (Nat.le_of_ble_eq_true rfl) dX5_makeReceipt_48

def kPutIn (a : CS) (d : Nat) (kg : Int32) : CS := kMake (cSI a 4 4 (kS a d) (cI a 4 4 (kS a d) + kg)) d (cI a 2 1 d) kg
abbrev rmX5_putIn : Room := { frames := 8, cells := 3, slots := 164, locals := 215 }
set_option maxHeartbeats 1500000 in
set_option maxRecDepth 100000 in
theorem k_putIn (l : Launch) (D : va_G) (ty : Nat → ClassId) (A : Nat → Prop) (tE : Nat) (el : Nat → Nat → Nat) (a : CS) (ok : cOk a) {d : Nat} (hdn : d < cN a 2) (kg : Int32) (hLN : cL a 2 = cN a 3) (hb : cL a 2 < 100) : Met l yX5_putIn wsX5_putIn rmX5_putIn (gPc D ty true cstrs tE A [.ref (el 6 0), .ref (el 2 d), .int kg] (hC D ty A tE el a)) (gQ A (gRet (some (.int (nI (cL a 2)))) (hX D ty A tE el a (kPutIn a d kg)))) 3 164 A := by
  refine g_Met (cc := cX5_putIn) (maxL := 3) (ret := (some .int)) [some (.ref (el 6 0)), some (.ref (el 2 d)), some (.int kg)] (by decide) rfl (Nat.le_of_ble_eq_true rfl) rfl ?_
  intro p e s m args below meth c S hlk hr hnm hK hE hP0
  have S : CallFix p m c cX5_putIn 3 s args wsX5_putIn RX5 := S
  have hd : cOb a 2 d := Or.inl ⟨by decide, hdn⟩
  have hs := (ok.1.2.1 d hdn).1
  have h4 : cOb a 4 (kS a d) := Or.inl ⟨by decide, (ok.1.2.1 d hdn).2⟩
  refine g_aload_n S dX5_putIn_0 rfl ?_
  refine k2_getR S hK (by exact hd) 4 (by decide) (by exact hs) (S.2.2.2.2 _ (List.mem_of_getElem? (i := 1) rfl)) rfl dX5_putIn_1 ?_
  refine g_dup S dX5_putIn_4 rfl ?_
  refine k4_get S hK (by exact h4) 4 (by decide) (S.2.2.2.2 _ (List.mem_of_getElem? (i := 2) rfl)) rfl dX5_putIn_5 ?_
  refine g_iload_n S dX5_putIn_8 rfl ?_
  refine g_iadd S dX5_putIn_9 ?_
  refine k4_put S hK (by exact h4) 4 (by decide) (by decide) (S.2.2.2.2 _ (List.mem_of_getElem? (i := 2) rfl)) (Or.inl rfl) rfl rfl dX5_putIn_10 ?_
  refine g_aload_n S dX5_putIn_13 rfl ?_
  refine g_aload_n S dX5_putIn_14 rfl ?_
  refine g_aload_n S dX5_putIn_15 rfl ?_
  refine k2_get S hK (by exact hd) 1 (by decide) (S.2.2.2.2 _ (List.mem_of_getElem? (i := 3) rfl)) rfl dX5_putIn_16 ?_
  refine g_iload_n S dX5_putIn_19 rfl ?_
  refine g_cVx (a := (cSI a 4 4 (kS a d) (cI a 4 4 (kS a d) + kg))) (el := el) S (k_make l D ty A tE el (cSI a 4 4 (kS a d) (cI a 4 4 (kS a d) + kg)) (cRwf_of rfl rfl ok.2) (d := d) hd _ kg hLN hb) (cwV 3 S.2.2.2.2 gX5_putIn_X5_makeReceipt rfl rfl rfl (by decide +kernel) ⟨Nat.le_of_ble_eq_true rfl, Nat.le_of_ble_eq_true rfl⟩) hK hE (fun H h => h) (k6_recv hK cOb6) rfl (Nat.le_of_ble_eq_true rfl) dX5_putIn_20 ⟨Nat.le_of_ble_eq_true rfl, Nat.le_of_ble_eq_true rfl⟩ (fun el1 x1 => ?_)
  refine g_lv (show _ = [some (.ref (el1 6 0)), some (.ref (el1 2 d)), some (.int kg)] from by rw [x1.ob (a := a) cOb6, x1.ob (a := a) hd] <;> rfl) ?_
  refine k3_get S hK (by exact (cOb_le (cNew_le 5) (cOb_nw (by decide)))) 0 (by decide) (S.2.2.2.2 _ (List.mem_of_getElem? (i := 4) rfl)) rfl dX5_putIn_23 ?_
  exact g_iret S hlk hr (fun H h => ⟨congrArg (fun x => some (Value.int x)) (kMake_no _ _ _ _), el1, x1, h⟩) (Nat.le_of_ble_eq_true rfl) (Nat.le_of_ble_eq_true rfl) dX5_putIn_26

def kSplitOff (a : CS) (r : Nat) (kg : Int32) : CS :=
  let b := kMake a (kD a r) (cI a 5 2 (kT a r)) kg
  let b := cSR b 3 7 (cN a 3) (cR b 3 7 r)
  cSI b 3 3 r (cI b 3 3 r - kg)
theorem rf_nar {el : Nat → Nat} (o : Option Nat) : narrow (tyX2 7) (va_rf (o.map el)) = va_rf (o.map el) := by cases o <;> rfl
theorem rf_fit {el : Nat → Nat} (o : Option Nat) : fits (tyX2 7) (va_rf (o.map el)) = true := by cases o <;> rfl
abbrev rmX5_splitOff : Room := { frames := 8, cells := 3, slots := 164, locals := 215 }
set_option maxHeartbeats 1500000 in
set_option maxRecDepth 100000 in
theorem k_splitOff (l : Launch) (D : va_G) (ty : Nat → ClassId) (A : Nat → Prop) (tE : Nat) (el : Nat → Nat → Nat) (a : CS) (ok : cOk a) {r : Nat} (hr3 : r < cN a 3) (kg : Int32) (hLN : cL a 2 = cN a 3) (hb : cL a 2 < 100) : Met l yX5_splitOff wsX5_splitOff rmX5_splitOff (gPc D ty true cstrs tE A [.ref (el 6 0), .ref (el 3 r), .int kg] (hC D ty A tE el a)) (gQ A (fun v H => ∃ el', elX a el el' ∧ v = some (.ref (el' 3 (cN a 3))) ∧ hC D ty A tE el' (kSplitOff a r kg) H)) 3 164 A := by
  refine g_Met (cc := cX5_splitOff) (maxL := 4) (ret := (some (.object "Grainledger$Receipt"))) [some (.ref (el 6 0)), some (.ref (el 3 r)), some (.int kg), none] (by decide) rfl (Nat.le_of_ble_eq_true rfl) rfl ?_
  intro p e s m args below meth c S hlk hr hnm hK hE hP0
  have S : CallFix p m c cX5_splitOff 4 s args wsX5_splitOff RX5 := S
  have hr9 := ok.1.1 r hr3
  have h3 : cOb a 3 r := Or.inl ⟨by decide, hr3⟩
  have hd := hr9.1
  have h2 : cOb a 2 (kD a r) := Or.inl ⟨by decide, hr9.2.1⟩
  have ht := hr9.2.2.1
  have h5 : cOb a 5 (kT a r) := Or.inl ⟨by decide, hr9.2.2.2⟩
  refine g_aload_n S dX5_splitOff_0 rfl ?_
  refine g_aload_n S dX5_splitOff_1 rfl ?_
  refine k3_getR S hK (by exact h3) 1 (by decide) (by exact hd) (S.2.2.2.2 _ (List.mem_of_getElem? (i := 1) rfl)) rfl dX5_splitOff_2 ?_
  refine g_aload_n S dX5_splitOff_5 rfl ?_
  refine g_cVr S (k_holder l D ty A tE el a h3 ht h5) (cwV 0 S.2.2.2.2 gX5_splitOff_X2_holder rfl rfl rfl (by decide +kernel) ⟨Nat.le_of_ble_eq_true rfl, Nat.le_of_ble_eq_true rfl⟩) hK hE (fun H h => h) (k3_recv hK h3) rfl (Nat.le_of_ble_eq_true rfl) dX5_splitOff_6 ⟨Nat.le_of_ble_eq_true rfl, Nat.le_of_ble_eq_true rfl⟩ ?_
  refine g_iload_n S dX5_splitOff_9 rfl ?_
  refine g_cVx S (k_make l D ty A tE el a ok.2 (d := kD a r) h2 _ kg hLN hb) (cwV 3 S.2.2.2.2 gX5_splitOff_X5_makeReceipt rfl rfl rfl (by decide +kernel) ⟨Nat.le_of_ble_eq_true rfl, Nat.le_of_ble_eq_true rfl⟩) hK hE (fun H h => h) (k6_recv hK cOb6) rfl (Nat.le_of_ble_eq_true rfl) dX5_splitOff_10 ⟨Nat.le_of_ble_eq_true rfl, Nat.le_of_ble_eq_true rfl⟩ (fun el1 x1 => ?_)
  refine g_lv (show _ = [some (.ref (el1 6 0)), some (.ref (el1 3 r)), some (.int kg), none] from by rw [x1.ob cOb6, x1.ob h3] <;> rfl) ?_
  refine g_astore_n S dX5_splitOff_13 (by decide) rfl ?_
  refine g_aload_n S dX5_splitOff_14 rfl ?_
  refine g_aload_n S dX5_splitOff_15 rfl ?_
  refine k3_get S hK (by exact (cOb_le (fun t => Nat.le_trans (cNew_le 3 t) (cNew_le 5 t)) h3)) 7 (by decide) (S.2.2.2.2 _ (List.mem_of_getElem? (i := 2) rfl)) rfl dX5_splitOff_16 ?_
  refine k3_putR S hK (cR (kMake a (kD a r) (cI a 5 2 (kT a r)) kg) 3 7 r) (by exact (cOb_le (cNew_le 5) (cOb_nw (a := a) (j := 3) (by decide)))) 7 (by decide) (by decide) (S.2.2.2.2 _ (List.mem_of_getElem? (i := 2) rfl)) (Or.inl rfl) rfl (rf_nar _) (rf_fit _) dX5_splitOff_19 ?_
  refine g_aload_n S dX5_splitOff_22 rfl ?_
  refine g_dup S dX5_splitOff_23 rfl ?_
  refine k3_get S hK (by exact (cOb_le (fun t => Nat.le_trans (cNew_le 3 t) (cNew_le 5 t)) h3)) 3 (by decide) (S.2.2.2.2 _ (List.mem_of_getElem? (i := 3) rfl)) rfl dX5_splitOff_24 ?_
  refine g_iload_n S dX5_splitOff_27 rfl ?_
  refine g_isub S dX5_splitOff_28 ?_
  refine k3_put S hK (by exact (cOb_le (fun t => Nat.le_trans (cNew_le 3 t) (cNew_le 5 t)) h3)) 3 (by decide) (by decide) (S.2.2.2.2 _ (List.mem_of_getElem? (i := 3) rfl)) (Or.inl rfl) rfl rfl dX5_splitOff_29 ?_
  refine g_aload_n S dX5_splitOff_32 rfl ?_
  exact g_aret S hlk hr (Or.inl ⟨_, rfl⟩) (Or.inr ⟨_, rfl⟩) (fun H h => ⟨el1, x1, rfl, h⟩) (Nat.le_of_ble_eq_true rfl) (Nat.le_of_ble_eq_true rfl) dX5_splitOff_33

def kSilo (a : CS) (x : Int32) : CS :=
  let b := cNew a 4
  let b := cSI (cSI (cSI (cSI b 4 0 (cN a 4) (nI (cL a 0))) 4 1 (cN a 4) x) 4 2 (cN a 4) (-1)) 4 3 (cN a 4) (-1)
  cSL b 0 (cL a 0 + 1)
abbrev rmX5_silo : Room := { frames := 7, cells := 2, slots := 161, locals := 191 }
set_option maxHeartbeats 1500000 in
set_option maxRecDepth 100000 in
theorem k_silo (l : Launch) (D : va_G) (ty : Nat → ClassId) (A : Nat → Prop) (tE : Nat) (el : Nat → Nat → Nat) (a : CS) (hrw : cRwf a) (x : Int32) (hv : mIn x 1 1000000 = true) (h6s : cL a 0 < 6) (hLN : cL a 0 = cN a 4) : Met l yX5_silo wsX5_silo rmX5_silo (gPc D ty true cstrs tE A [.ref (el 6 0), .int x] (hC D ty A tE el a)) (gQ A (gRet (some (.int (nI (cL a 0)))) (hX D ty A tE el a (kSilo a x)))) 2 161 A := by
  refine g_Met (cc := cX5_silo) (maxL := 3) (ret := (some .int)) [some (.ref (el 6 0)), some (.int x), none] (by decide) rfl (Nat.le_of_ble_eq_true rfl) rfl ?_
  intro p e s m args below meth c S hlk hr hnm hK hE hP0
  have S : CallFix p m c cX5_silo 3 s args wsX5_silo RX5 := S
  refine g_iload_n S dX5_silo_0 rfl ?_
  refine g_iconst S (v := 1) dX5_silo_1 (by decide) ?_
  refine g_ldc S (S.2.2.2.2 _ (List.mem_of_getElem? (i := 3) rfl)) dX5_silo_2 ?_
  refine g_cSv S (k_needRange l D ty A tE el a _ _ _ _ (by exact hv)) (va_cwS 3 S.2.2.2.2 gX5_silo_X5_needRange rfl rfl rfl (by decide +kernel) ⟨Nat.le_of_ble_eq_true rfl, Nat.le_of_ble_eq_true rfl⟩) hK hE (fun H h => h) rfl (Nat.le_of_ble_eq_true rfl) dX5_silo_4 ⟨Nat.le_of_ble_eq_true rfl, Nat.le_of_ble_eq_true rfl⟩ ?_
  refine g_aload_n S dX5_silo_7 rfl ?_
  refine k6_get S hK (by exact cOb6) 0 (by decide) (S.2.2.2.2 _ (List.mem_of_getElem? (i := 4) rfl)) rfl dX5_silo_8 ?_
  refine g_cVr S (k_size l D ty A tE el a (j := 0) (by decide)) (cwV 0 S.2.2.2.2 gX5_silo_Jx4a65c_size_8abf5 rfl rfl rfl (by decide +kernel) ⟨Nat.le_of_ble_eq_true rfl, Nat.le_of_ble_eq_true rfl⟩) hK hE (fun H h => h) (k0_recv hK (j := 0) (by decide)) rfl (Nat.le_of_ble_eq_true rfl) dX5_silo_11 ⟨Nat.le_of_ble_eq_true rfl, Nat.le_of_ble_eq_true rfl⟩ ?_
  refine g_istore_n S dX5_silo_14 (by decide) rfl ?_
  refine g_iload_n S dX5_silo_15 rfl ?_
  refine g_bipush S (v := 6) dX5_silo_16 (by decide) ?_
  refine g_icmp_lt S (tgt := 31) dX5_silo_18 (by decide) (fun c_18 => ?_) (fun c_18 => ?_)
  · refine g_aload_n S dX5_silo_31 rfl ?_
    refine k6_get S hK (by exact cOb6) 0 (by decide) (S.2.2.2.2 _ (List.mem_of_getElem? (i := 4) rfl)) rfl dX5_silo_32 ?_
    refine k4_new S hK (by exact hrw) (S.2.2.2.2 _ (List.mem_of_getElem? (i := 5) rfl)) (S.2.2.2.2 _ (List.mem_of_getElem? (i := 6) rfl)) (S.2.2.2.2 _ (List.mem_of_getElem? (i := 7) rfl)) (hE rfl).2.2.2.1 (Nat.le_of_ble_eq_true rfl) (Nat.le_of_ble_eq_true rfl) dX5_silo_35 (fun q => ?_)
    obtain ⟨el1, hel1⟩ : ∃ x : Nat → Nat → Nat, x = elU el 4 (cN a 4) q := ⟨_, rfl⟩
    rw [← hel1]
    have xel1 : elX a el el1 := by rw [hel1]; exact elX.new (by decide)
    refine g_lv (show _ = [some (.ref (el1 6 0)), some (.int x), some (.int (nI (cL a 0)))] from by rw [xel1.ob cOb6] <;> rfl) ?_
    refine g_st (show _ = [Value.ref (el1 4 (cN a 4)), Value.ref (el1 0 0)] from by rw [show el1 0 0 = el 0 0 from by rw [hel1]; exact if_neg (by omega)] <;> rfl) ?_
    refine g_dup S dX5_silo_38 rfl ?_
    refine g_iload_n S dX5_silo_39 rfl ?_
    refine g_iload_n S dX5_silo_40 rfl ?_
    refine g_cIv S (k_newSilo l D ty A tE el1 (cNew a 4) (i := cN a 4) (cOb_nw (by decide)) _ _) (cwI 2 S.2.2.2.2 gX5_silo_X3_init rfl rfl rfl (S.2.2.2.2 _ (List.mem_of_getElem? (i := 7) rfl)) (S.2.2.2.2 _ (List.mem_of_getElem? (i := 20) rfl)) (S.2.2.2.2 _ (List.mem_of_getElem? (i := 21) rfl)) rfl (by decide +kernel) ⟨Nat.le_of_ble_eq_true rfl, Nat.le_of_ble_eq_true rfl⟩) hK hE (fun H h => h) rfl (Nat.le_of_ble_eq_true rfl) dX5_silo_41 ⟨Nat.le_of_ble_eq_true rfl, Nat.le_of_ble_eq_true rfl⟩ ?_
    refine g_st (show _ = [Value.ref (el1 (lkd 0) (cL (cSI (cSI (cSI (cSI (cNew a 4) 4 0 (cN a 4) (nI (cL a 0))) 4 1 (cN a 4) x) 4 2 (cN a 4) (-1)) 4 3 (cN a 4) (-1)) 0)), Value.ref (el1 0 0)] from by rw [show cL (cSI (cSI (cSI (cSI (cNew a 4) 4 0 (cN a 4) (nI (cL a 0))) 4 1 (cN a 4) x) 4 2 (cN a 4) (-1)) 4 3 (cN a 4) (-1)) 0 = cN a 4 from hLN] <;> rfl) ?_
    refine g_cVr S (k_add l D ty A tE el1 (cSI (cSI (cSI (cSI (cNew a 4) 4 0 (cN a 4) (nI (cL a 0))) 4 1 (cN a 4) x) 4 2 (cN a 4) (-1)) 4 3 (cN a 4) (-1)) (j := 0) (by decide) (show cL a 0 < 100 by omega) (by rw [show cL (cSI (cSI (cSI (cSI (cNew a 4) 4 0 (cN a 4) (nI (cL a 0))) 4 1 (cN a 4) x) 4 2 (cN a 4) (-1)) 4 3 (cN a 4) (-1)) 0 = cN a 4 from hLN]; exact Nat.lt_succ_self _)) (cwV 1 S.2.2.2.2 gX5_silo_Jx4a65c_add_9ea2d rfl rfl rfl (by decide +kernel) ⟨Nat.le_of_ble_eq_true rfl, Nat.le_of_ble_eq_true rfl⟩) hK hE (fun H h => h) (k0_recv hK (j := 0) (by decide)) rfl (Nat.le_of_ble_eq_true rfl) dX5_silo_44 ⟨Nat.le_of_ble_eq_true rfl, Nat.le_of_ble_eq_true rfl⟩ ?_
    refine g_pop S dX5_silo_47 rfl ?_
    refine g_iload_n S dX5_silo_48 rfl ?_
    exact g_iret S hlk hr (fun H h => ⟨rfl, el1, xel1, h⟩) (Nat.le_of_ble_eq_true rfl) (Nat.le_of_ble_eq_true rfl) dX5_silo_49
  · exact absurd (show nI (cL a 0) < 6 from nI_lt (b := 6) h6s (by decide)) c_18

abbrev rtX5_silo : Room := { frames := 8, cells := 1, slots := 6, locals := 300 }
set_option maxHeartbeats 1500000 in
set_option maxRecDepth 100000 in
theorem t_silo1 (l : Launch) (D : va_G) (ty : Nat → ClassId) (A : Nat → Prop) (hl : l.stackTraces = false) (tE : Nat) (el : Nat → Nat → Nat) (a : CS) (x : Int32) (hv : mIn x 1 1000000 = false) : vx_Met l yX5_silo wsX5_silo rtX5_silo (gPc D ty true cstrs tE A [.ref (el 6 0), .int x] (hC D ty A tE el a)) (gQ A (fun _ _ => False)) (gX A (fun E H => E = "java/lang/IllegalArgumentException" ∧ hC D ty A tE el a H)) 1 6 A := by
  refine g_tMet (cc := cX5_silo) (maxL := 3) (ret := (some .int)) [some (.ref (el 6 0)), some (.int x), none] (by decide) rfl (Nat.le_of_ble_eq_true rfl) rfl ?_
  intro p e s m args below meth c S hlk hout hK hE hP0
  have S : CallFix p m c cX5_silo 3 s args wsX5_silo RX5 := S
  refine g_iload_n S dX5_silo_0 rfl ?_
  refine g_iconst S (v := 1) dX5_silo_1 (by decide) ?_
  refine g_ldc S (S.2.2.2.2 _ (List.mem_of_getElem? (i := 3) rfl)) dX5_silo_2 ?_
  exact g_tcallS S ((t_needRange l D ty A hl tE el a _ (fun H H1 h hz hq => hC_grow h hz hq) _ _ _ (by exact hv))) (va_cwS 3 S.2.2.2.2 gX5_silo_X5_needRange rfl rfl rfl (by decide +kernel) ⟨Nat.le_of_ble_eq_true rfl, Nat.le_of_ble_eq_true rfl⟩) hK hE (fun H h => h) rfl (Nat.le_of_ble_eq_true rfl) dX5_silo_4 ⟨Nat.le_of_ble_eq_true rfl, Nat.le_of_ble_eq_true rfl⟩ (fun E => g_out hout hlk (fun H h => h) (Nat.le_of_ble_eq_true rfl) (Nat.le_of_ble_eq_true rfl))

set_option maxHeartbeats 1500000 in
set_option maxRecDepth 100000 in
theorem t_silo2 (l : Launch) (D : va_G) (ty : Nat → ClassId) (A : Nat → Prop) (hl : l.stackTraces = false) (tE : Nat) (el : Nat → Nat → Nat) (a : CS) (x : Int32) (hv : mIn x 1 1000000 = true) (h6s : 6 ≤ cL a 0) (hb : cL a 0 < 100) : vx_Met l yX5_silo wsX5_silo rtX5_silo (gPc D ty true cstrs tE A [.ref (el 6 0), .int x] (hC D ty A tE el a)) (gQ A (fun _ _ => False)) (gX A (fun E H => E = "java/lang/IllegalStateException" ∧ hC D ty A tE el a H)) 1 6 A := by
  refine g_tMet (cc := cX5_silo) (maxL := 3) (ret := (some .int)) [some (.ref (el 6 0)), some (.int x), none] (by decide) rfl (Nat.le_of_ble_eq_true rfl) rfl ?_
  intro p e s m args below meth c S hlk hout hK hE hP0
  have S : CallFix p m c cX5_silo 3 s args wsX5_silo RX5 := S
  refine g_iload_n S dX5_silo_0 rfl ?_
  refine g_iconst S (v := 1) dX5_silo_1 (by decide) ?_
  refine g_ldc S (S.2.2.2.2 _ (List.mem_of_getElem? (i := 3) rfl)) dX5_silo_2 ?_
  refine g_cSv S (k_needRange l D ty A tE el a _ _ _ _ (by exact hv)) (va_cwS 3 S.2.2.2.2 gX5_silo_X5_needRange rfl rfl rfl (by decide +kernel) ⟨Nat.le_of_ble_eq_true rfl, Nat.le_of_ble_eq_true rfl⟩) hK hE (fun H h => h) rfl (Nat.le_of_ble_eq_true rfl) dX5_silo_4 ⟨Nat.le_of_ble_eq_true rfl, Nat.le_of_ble_eq_true rfl⟩ ?_
  refine g_aload_n S dX5_silo_7 rfl ?_
  refine k6_get S hK (by exact cOb6) 0 (by decide) (S.2.2.2.2 _ (List.mem_of_getElem? (i := 4) rfl)) rfl dX5_silo_8 ?_
  refine g_cVr S (k_size l D ty A tE el a (j := 0) (by decide)) (cwV 0 S.2.2.2.2 gX5_silo_Jx4a65c_size_8abf5 rfl rfl rfl (by decide +kernel) ⟨Nat.le_of_ble_eq_true rfl, Nat.le_of_ble_eq_true rfl⟩) hK hE (fun H h => h) (k0_recv hK (j := 0) (by decide)) rfl (Nat.le_of_ble_eq_true rfl) dX5_silo_11 ⟨Nat.le_of_ble_eq_true rfl, Nat.le_of_ble_eq_true rfl⟩ ?_
  refine g_istore_n S dX5_silo_14 (by decide) rfl ?_
  refine g_iload_n S dX5_silo_15 rfl ?_
  refine g_bipush S (v := 6) dX5_silo_16 (by decide) ?_
  refine g_icmp_lt S (tgt := 31) dX5_silo_18 (by decide) (fun c_18 => ?_) (fun c_18 => ?_)
  · exact absurd c_18 (show ¬ nI (cL a 0) < 6 from nI_nlt (a := cL a 0) (b := 6) h6s (by omega))
  · exact g_throwS S hl (cls := "java/lang/IllegalStateException") (text := "there are six silos") (names := ["java/lang/RuntimeException", "java/lang/Exception"]) (by decide) (by decide) (S.2.2.2.2 _ (List.mem_of_getElem? (i := 1) rfl)) (S.2.2.2.2 _ (List.mem_of_getElem? (i := 2) rfl)) (by decide +kernel) (by decide +kernel) (by decide +kernel) hE (by decide +kernel) dX5_silo_21 dX5_silo_24 dX5_silo_25 dX5_silo_27 dX5_silo_30 hout rfl rfl ⟨Nat.le_of_ble_eq_true rfl, Nat.le_of_ble_eq_true rfl⟩ ⟨Nat.le_of_ble_eq_true rfl, Nat.le_of_ble_eq_true rfl⟩ hlk (fun H H1 hP hz hq => ⟨rfl, hC_grow hP hz hq⟩) (Nat.le_of_ble_eq_true rfl) (Nat.le_of_ble_eq_true rfl)

