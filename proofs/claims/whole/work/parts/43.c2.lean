theorem vin_nle {x M : Int32} {N : Nat} (h : vp_in x N) (hM : M.toInt = N) : ¬ M ≤ x := by
  obtain ⟨h1, h2⟩ := vin_toInt h
  rw [Int32.le_iff_toInt_le]
  omega
theorem vin_nlt {x : Int32} {N : Nat} (h : vp_in x N) : ¬ x < 0 := fun z => h (Or.inl z)
def kPay (a : CS) (i j : Int32) (x : Int64) : CS := cSA (cSA a i (cA a i.toNatClampNeg - x)) j (cA (cSA a i (cA a i.toNatClampNeg - x)) j.toNatClampNeg + x)
def kOwe (a : CS) (i x : Int32) : CS := cSO a i (cO a i.toNatClampNeg + x)
abbrev rmX5_pay : Room := { frames := 0, cells := 0, slots := 0, locals := 0 }
set_option maxHeartbeats 1500000 in
set_option maxRecDepth 100000 in
theorem k_pay (l : Launch) (D : va_G) (ty : Nat → ClassId) (A : Nat → Prop) (tE : Nat) (el : Nat → Nat → Nat) (a : CS) (h6 : cOb a 6 0) (i j : Int32) (x : Int64) (hi : vp_in i 6) (hj : vp_in j 6) : Met l yX5_pay wsX5_pay rmX5_pay (gPc D ty true cstrs tE A [.ref (el 6 0), .int i, .int j, .long x] (hC D ty A tE el a)) (gQ A (gRet none (hC D ty A tE el (kPay a i j x)))) 0 0 A := by
  refine g_Met (cc := cX5_pay) (maxL := 5) (ret := none) [some (.ref (el 6 0)), some (.int i), some (.int j), some (.long x), none] (by decide) rfl (Nat.le_of_ble_eq_true rfl) rfl ?_
  intro p e s m args below meth c S hlk hr hnm hK hE hP0
  have S : CallFix p m c cX5_pay 5 s args wsX5_pay RX5 := S
  refine g_iload_n S dX5_pay_0 rfl ?_
  refine g_if_lt S (tgt := 46) dX5_pay_1 (by decide) (fun c_1 => ?_) (fun c_1 => ?_)
  · exact absurd c_1 (vin_nlt hi)
  · refine g_iload_n S dX5_pay_4 rfl ?_
    refine g_aload_n S dX5_pay_5 rfl ?_
    refine k6_get S hK (by exact h6) 4 (by decide) (S.2.2.2.2 _ (List.mem_of_getElem? (i := 1) rfl)) rfl dX5_pay_6 ?_
    refine k8_alen S hK dX5_pay_9 ?_
    refine g_icmp_ge S (tgt := 46) dX5_pay_10 (by decide) (fun c_10 => ?_) (fun c_10 => ?_)
    · exact absurd c_10 (vin_nle hi (by decide))
    · refine g_iload_n S dX5_pay_13 rfl ?_
      refine g_if_lt S (tgt := 46) dX5_pay_14 (by decide) (fun c_14 => ?_) (fun c_14 => ?_)
      · exact absurd c_14 (vin_nlt hj)
      · refine g_iload_n S dX5_pay_17 rfl ?_
        refine g_aload_n S dX5_pay_18 rfl ?_
        refine k6_get S hK (by exact h6) 4 (by decide) (S.2.2.2.2 _ (List.mem_of_getElem? (i := 1) rfl)) rfl dX5_pay_19 ?_
        refine k8_alen S hK dX5_pay_22 ?_
        refine g_icmp_ge S (tgt := 46) dX5_pay_23 (by decide) (fun c_23 => ?_) (fun c_23 => ?_)
        · exact absurd c_23 (vin_nle hj (by decide))
        · refine g_aload_n S dX5_pay_26 rfl ?_
          refine k6_get S hK (by exact h6) 4 (by decide) (S.2.2.2.2 _ (List.mem_of_getElem? (i := 1) rfl)) rfl dX5_pay_27 ?_
          refine g_iload_n S dX5_pay_30 rfl ?_
          refine g_dup2_11 S dX5_pay_31 rfl rfl ?_
          refine k8_lald S hK hi dX5_pay_32 ?_
          refine g_lload_n S dX5_pay_33 rfl ?_
          refine g_lsub S dX5_pay_34 ?_
          refine k8_last S hK hi dX5_pay_35 ?_
          refine g_aload_n S dX5_pay_36 rfl ?_
          refine k6_get S hK (by exact h6) 4 (by decide) (S.2.2.2.2 _ (List.mem_of_getElem? (i := 1) rfl)) rfl dX5_pay_37 ?_
          refine g_iload_n S dX5_pay_40 rfl ?_
          refine g_dup2_11 S dX5_pay_41 rfl rfl ?_
          refine k8_lald S hK hj dX5_pay_42 ?_
          refine g_lload_n S dX5_pay_43 rfl ?_
          refine g_ladd S dX5_pay_44 ?_
          refine k8_last S hK hj dX5_pay_45 ?_
          exact g_vret S hlk hr (fun H h => ⟨rfl, h⟩) (Nat.le_refl _) (Nat.le_refl _) dX5_pay_46

abbrev rmX5_owe : Room := { frames := 0, cells := 0, slots := 0, locals := 0 }
set_option maxHeartbeats 1500000 in
set_option maxRecDepth 100000 in
theorem k_owe (l : Launch) (D : va_G) (ty : Nat → ClassId) (A : Nat → Prop) (tE : Nat) (el : Nat → Nat → Nat) (a : CS) (h6 : cOb a 6 0) (i x : Int32) (hi : vp_in i 6) : Met l yX5_owe wsX5_owe rmX5_owe (gPc D ty true cstrs tE A [.ref (el 6 0), .int i, .int x] (hC D ty A tE el a)) (gQ A (gRet none (hC D ty A tE el (kOwe a i x)))) 0 0 A := by
  refine g_Met (cc := cX5_owe) (maxL := 3) (ret := none) [some (.ref (el 6 0)), some (.int i), some (.int x)] (by decide) rfl (Nat.le_of_ble_eq_true rfl) rfl ?_
  intro p e s m args below meth c S hlk hr hnm hK hE hP0
  have S : CallFix p m c cX5_owe 3 s args wsX5_owe RX5 := S
  refine g_iload_n S dX5_owe_0 rfl ?_
  refine g_if_lt S (tgt := 23) dX5_owe_1 (by decide) (fun c_1 => ?_) (fun c_1 => ?_)
  · exact absurd c_1 (vin_nlt hi)
  · refine g_iload_n S dX5_owe_4 rfl ?_
    refine g_aload_n S dX5_owe_5 rfl ?_
    refine k6_get S hK (by exact h6) 5 (by decide) (S.2.2.2.2 _ (List.mem_of_getElem? (i := 1) rfl)) rfl dX5_owe_6 ?_
    refine k9_alen S hK dX5_owe_9 ?_
    refine g_icmp_ge S (tgt := 23) dX5_owe_10 (by decide) (fun c_10 => ?_) (fun c_10 => ?_)
    · exact absurd c_10 (vin_nle hi (by decide))
    · refine g_aload_n S dX5_owe_13 rfl ?_
      refine k6_get S hK (by exact h6) 5 (by decide) (S.2.2.2.2 _ (List.mem_of_getElem? (i := 1) rfl)) rfl dX5_owe_14 ?_
      refine g_iload_n S dX5_owe_17 rfl ?_
      refine g_dup2_11 S dX5_owe_18 rfl rfl ?_
      refine k9_iald S hK hi dX5_owe_19 ?_
      refine g_iload_n S dX5_owe_20 rfl ?_
      refine g_iadd S dX5_owe_21 ?_
      refine k9_iast S hK hi dX5_owe_22 ?_
      exact g_vret S hlk hr (fun H h => ⟨rfl, h⟩) (Nat.le_refl _) (Nat.le_refl _) dX5_owe_23

abbrev kZ : Type := (Nat → Int32) × (Nat → Nat) × (Nat → Nat)
abbrev hC9 (D : va_G) (ty : Nat → ClassId) (A : Nat → Prop) (tE : Nat) (el : Nat → Nat → Nat) (a : CS) (z : kZ) : Heap → Prop := hC1 D ty A tE el a z.1 z.2.1 z.2.2
section CL3
variable {p : Program} {l : Launch} {e : Env} {R : Room} {s : State} {m : MethodId} {args : Array Value} {below : List Frame} {meth : Method} {c : Code} {A : Nat → Prop} {Q : State → Prop} {nL : Nat} {k n : Nat} {pc : Nat} {lv : List (Option Value)} {st : List Value} {P : Heap → Prop}
variable {cc : ByteArray} {Ts : List Cond} {own : String} {D : va_G} {ty : Nat → ClassId} {tE : Nat} {el : Nat → Nat → Nat} {a : CS}
theorem hC9_at {z : kZ} {j : Nat} (hj : j < 4) : ∀ H, hC9 D ty A tE el a z H → va_at D vwCl (el 0 j, .inr (0, [.int (z.1 j), .ref (if z.2.1 j = 0 then tE else z.2.2 j), .int (nI (cL a j))])) H := fun H h => (h.1 0 j (Or.inl ⟨rfl, hj⟩)).1
theorem hC_open (kk : ∀ z : kZ, gW p l e R s m args below meth c A Q nL (hC9 D ty A tE el a z) k n pc lv st) : gW p l e R s m args below meth c A Q nL (hC D ty A tE el a) k n pc lv st := g_ex (P' := fun z : kZ => hC9 D ty A tE el a z) (fun H h => by obtain ⟨md, cp, ea, h1⟩ := h; exact ⟨(md, cp, ea), h1⟩) kk
theorem hC_close {z : kZ} {H : Heap} (h : hC9 D ty A tE el a z H) : hC D ty A tE el a H := ⟨z.1, z.2.1, z.2.2, h⟩
theorem k0_get (S : CallFix p m c cc nL s args Ts own) (hK : gK D ty s) {z : kZ} {index j : Nat} {v : Value} (hj : j < 4) (q : Nat) (hq : q < 3) (hlink : (Cond.fieldLink own index (TJx4a65c q).1 (TJx4a65c q).2.1 (TJx4a65c q).2.2.1).before args s = true) (hv : [Value.int (z.1 j), .ref (if z.2.1 j = 0 then tE else z.2.2 j), .int (nI (cL a j))][q]? = some v) (hdg : decode cc pc = .ok (.getfield index, 3))
    (kk : gW p l e R s m args below meth c A Q nL (hC9 D ty A tE el a z) k n (pc + 3) lv (v :: st)) : gW p l e R s m args below meth c A Q nL (hC9 D ty A tE el a z) k n pc lv (.ref (el 0 j) :: st) := g_getf S hK (C := RJx4a65c) (T := TJx4a65c) (N := 3) (hC9_at hj) rfl q hq hlink hv hdg kk
theorem k0_recv (hK : gK D ty s) {j : Nat} (hj : j < 4) : ∀ H, hC D ty A tE el a H → ∃ cellB : Cell, H[el 0 j]? = some cellB ∧ cellB.vm.isStatics = false ∧ s.vm.findClass RJx4a65c = some cellB.cls := by
  rintro H ⟨md, cp, ea, h⟩
  exact g_recv (P := hC9 D ty A tE el a (md, cp, ea)) (q := (RJx4a65c, TJx4a65c, 3)) hK (hC9_at hj) rfl H h
theorem k0_ald (S : CallFix p m c cc nL s args Ts own) (hK : gK D ty s) {z : kZ} {j q : Nat} (hj : j < 4) (hq : q < cL a j) (h31 : q < 2 ^ 31) (hdg : decode cc pc = .ok (.aaload, 1))
    (kk : gW p l e R s m args below meth c A Q nL (hC9 D ty A tE el a z) k n (pc + 1) lv (.ref (el (lkd j) q) :: st)) : gW p l e R s m args below meth c A Q nL (hC9 D ty A tE el a z) k n pc lv (.int (nI q) :: .ref (if z.2.1 j = 0 then tE else z.2.2 j) :: st) := by
  intro H locs ls hP hS hl
  obtain ⟨g1, g2, g3⟩ := id hP
  have hc := g3 j hj
  rw [if_neg (by omega)]
  have h10 := (g1 10 j (Or.inr (Or.inr (Or.inr (Or.inr ⟨rfl, hj, by omega⟩))))).1
  refine va_aldq (ws := [(z.2.2 j, .inl (ty 3, z.2.1 j, .inr (.inr (.inr (.inr (fun x => if x < cL a j then some (el (lkd j) x) else none))))))]) S.1 S.2.1 hK.1 (g_P1 h10) 0 3 rfl rfl (vp_in_nI (by omega) (by omega)) hdg ?_
  rw [nI_clamp h31, if_pos hq]
  exact kk H locs ls hP hS hl
end CL3
abbrev rmJx4a65c_size_8abf5 : Room := { frames := 0, cells := 0, slots := 0, locals := 0 }
set_option maxHeartbeats 1500000 in
set_option maxRecDepth 100000 in
theorem k_size (l : Launch) (D : va_G) (ty : Nat → ClassId) (A : Nat → Prop) (tE : Nat) (el : Nat → Nat → Nat) (a : CS) {j : Nat} (hj : j < 4) : Met l yJx4a65c_size_8abf5 wsJx4a65c_size_8abf5 rmJx4a65c_size_8abf5 (gPc D ty true cstrs tE A [.ref (el 0 j)] (hC D ty A tE el a)) (gQ A (gRet (some (.int (nI (cL a j)))) (hC D ty A tE el a))) 0 0 A := by
  refine g_Met (cc := cJx4a65c_size_8abf5) (maxL := 1) (ret := (some .int)) [some (.ref (el 0 j))] (by decide) rfl (Nat.le_of_ble_eq_true rfl) rfl ?_
  intro p e s m args below meth c S hlk hr hnm hK hE hP0
  have S : CallFix p m c cJx4a65c_size_8abf5 1 s args wsJx4a65c_size_8abf5 RJx4a65c := S
  refine hC_open (fun z => ?_)
  refine g_aload_n S dJx4a65c_size_8abf5_0 rfl ?_
  refine k0_get S hK hj 2 (by decide) (S.2.2.2.2 _ (List.mem_of_getElem? (i := 1) rfl)) rfl dJx4a65c_size_8abf5_1 ?_
  exact g_iret S hlk hr (fun H h => ⟨rfl, hC_close h⟩) (Nat.le_refl _) (Nat.le_refl _) dJx4a65c_size_8abf5_4

