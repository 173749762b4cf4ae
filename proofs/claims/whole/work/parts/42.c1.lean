abbrev rmX2_holder : Room := { frames := 0, cells := 0, slots := 0, locals := 0 }
set_option maxHeartbeats 1500000 in
set_option maxRecDepth 100000 in
theorem k_holder (l : Launch) (D : va_G) (ty : Nat → ClassId) (A : Nat → Prop) (tE : Nat) (el : Nat → Nat → Nat) (a : CS) {r : Nat} (h3 : cOb a 3 r) {t : Nat} (ht : cR a 3 2 r = some t) (h5 : cOb a 5 t) : Met l yX2_holder wsX2_holder rmX2_holder (gPc D ty true cstrs tE A [.ref (el 3 r)] (hC D ty A tE el a)) (gQ A (gRet (some (.int (cI a 5 2 t))) (hC D ty A tE el a))) 0 0 A := by
  refine g_Met (cc := cX2_holder) (maxL := 1) (ret := (some .int)) [some (.ref (el 3 r))] (by decide) rfl (Nat.le_of_ble_eq_true rfl) rfl ?_
  intro p e s m args below meth c S hlk hr hnm hK hE hP0
  have S : CallFix p m c cX2_holder 1 s args wsX2_holder RX2 := S
  refine g_aload_n S dX2_holder_0 rfl ?_
  refine k3_getR S hK (by exact h3) 2 (by decide) (by exact ht) (S.2.2.2.2 _ (List.mem_of_getElem? (i := 1) rfl)) rfl dX2_holder_1 ?_
  refine k5_get S hK (by exact h5) 2 (by decide) (S.2.2.2.2 _ (List.mem_of_getElem? (i := 2) rfl)) rfl dX2_holder_4 ?_
  exact g_iret S hlk hr (fun H h => ⟨rfl, h⟩) (Nat.le_refl _) (Nat.le_refl _) dX2_holder_7

abbrev rmX2_isLive : Room := { frames := 0, cells := 0, slots := 0, locals := 0 }
set_option maxHeartbeats 1500000 in
set_option maxRecDepth 100000 in
theorem k_isLive (l : Launch) (D : va_G) (ty : Nat → ClassId) (A : Nat → Prop) (tE : Nat) (el : Nat → Nat → Nat) (a : CS) {r : Nat} (h3 : cOb a 3 r) : Met l yX2_isLive wsX2_isLive rmX2_isLive (gPc D ty true cstrs tE A [.ref (el 3 r)] (hC D ty A tE el a)) (gQ A (gRet (some (.int (b2 (decide (0 < cI a 3 3 r))))) (hC D ty A tE el a))) 0 0 A := by
  refine g_Met (cc := cX2_isLive) (maxL := 1) (ret := (some .boolean)) [some (.ref (el 3 r))] (by decide) rfl (Nat.le_of_ble_eq_true rfl) rfl ?_
  intro p e s m args below meth c S hlk hr hnm hK hE hP0
  have S : CallFix p m c cX2_isLive 1 s args wsX2_isLive RX2 := S
  refine g_aload_n S dX2_isLive_0 rfl ?_
  refine k3_get S hK (by exact h3) 3 (by decide) (S.2.2.2.2 _ (List.mem_of_getElem? (i := 1) rfl)) rfl dX2_isLive_1 ?_
  refine g_if_le S (tgt := 11) dX2_isLive_4 (by decide) (fun c_4 => ?_) (fun c_4 => ?_)
  · refine g_iconst S (v := 0) dX2_isLive_11 (by decide) ?_
    exact g_zret S hlk hr (by first | rfl | exact nar_b2 _) (fun H h => ⟨by rw [decide_eq_false (Int32.not_lt.mpr c_4)]; rfl, h⟩) (Nat.le_refl _) (Nat.le_refl _) dX2_isLive_12
  · refine g_iconst S (v := 1) dX2_isLive_7 (by decide) ?_
    refine g_goto S (tgt := 12) dX2_isLive_8 (by decide) ?_
    exact g_zret S hlk hr (by first | rfl | exact nar_b2 _) (fun H h => ⟨by rw [decide_eq_true (Int32.not_le.mp c_4)]; rfl, h⟩) (Nat.le_refl _) (Nat.le_refl _) dX2_isLive_12

abbrev rmX2_isPledged : Room := { frames := 0, cells := 0, slots := 0, locals := 0 }
set_option maxHeartbeats 1500000 in
set_option maxRecDepth 100000 in
theorem k_isPledged (l : Launch) (D : va_G) (ty : Nat → ClassId) (A : Nat → Prop) (tE : Nat) (el : Nat → Nat → Nat) (a : CS) {r : Nat} (h3 : cOb a 3 r) : Met l yX2_isPledged wsX2_isPledged rmX2_isPledged (gPc D ty true cstrs tE A [.ref (el 3 r)] (hC D ty A tE el a)) (gQ A (gRet (some (.int (b2 (decide (¬ cI a 3 4 r = -1))))) (hC D ty A tE el a))) 0 0 A := by
  refine g_Met (cc := cX2_isPledged) (maxL := 1) (ret := (some .boolean)) [some (.ref (el 3 r))] (by decide) rfl (Nat.le_of_ble_eq_true rfl) rfl ?_
  intro p e s m args below meth c S hlk hr hnm hK hE hP0
  have S : CallFix p m c cX2_isPledged 1 s args wsX2_isPledged RX2 := S
  refine g_aload_n S dX2_isPledged_0 rfl ?_
  refine k3_get S hK (by exact h3) 4 (by decide) (S.2.2.2.2 _ (List.mem_of_getElem? (i := 1) rfl)) rfl dX2_isPledged_1 ?_
  refine g_iconst S (v := (-1)) dX2_isPledged_4 (by decide) ?_
  refine g_icmp_eq S (tgt := 12) dX2_isPledged_5 (by decide) (fun c_5 => ?_) (fun c_5 => ?_)
  · refine g_iconst S (v := 0) dX2_isPledged_12 (by decide) ?_
    exact g_zret S hlk hr (by first | rfl | exact nar_b2 _) (fun H h => ⟨by simp [b2, c_5], h⟩) (Nat.le_refl _) (Nat.le_refl _) dX2_isPledged_13
  · refine g_iconst S (v := 1) dX2_isPledged_8 (by decide) ?_
    refine g_goto S (tgt := 13) dX2_isPledged_9 (by decide) ?_
    exact g_zret S hlk hr (by first | rfl | exact nar_b2 _) (fun H h => ⟨by simp [b2, c_5], h⟩) (Nat.le_refl _) (Nat.le_refl _) dX2_isPledged_13

def kEndPledge (a : CS) (r : Nat) : CS := cSI (cSI (cSI a 3 4 r (-1)) 3 5 r (-1)) 3 6 r (-1)
abbrev rmX2_endPledge : Room := { frames := 0, cells := 0, slots := 0, locals := 0 }
set_option maxHeartbeats 1500000 in
set_option maxRecDepth 100000 in
theorem k_endPledge (l : Launch) (D : va_G) (ty : Nat → ClassId) (A : Nat → Prop) (tE : Nat) (el : Nat → Nat → Nat) (a : CS) {r : Nat} (h3 : cOb a 3 r) : Met l yX2_endPledge wsX2_endPledge rmX2_endPledge (gPc D ty true cstrs tE A [.ref (el 3 r)] (hC D ty A tE el a)) (gQ A (gRet none (hC D ty A tE el (kEndPledge a r)))) 0 0 A := by
  refine g_Met (cc := cX2_endPledge) (maxL := 1) (ret := none) [some (.ref (el 3 r))] (by decide) rfl (Nat.le_of_ble_eq_true rfl) rfl ?_
  intro p e s m args below meth c S hlk hr hnm hK hE hP0
  have S : CallFix p m c cX2_endPledge 1 s args wsX2_endPledge RX2 := S
  refine g_aload_n S dX2_endPledge_0 rfl ?_
  refine g_iconst S (v := (-1)) dX2_endPledge_1 (by decide) ?_
  refine k3_put S hK (by exact h3) 4 (by decide) (by decide) (S.2.2.2.2 _ (List.mem_of_getElem? (i := 1) rfl)) (Or.inl rfl) rfl rfl dX2_endPledge_2 ?_
  refine g_aload_n S dX2_endPledge_5 rfl ?_
  refine g_iconst S (v := (-1)) dX2_endPledge_6 (by decide) ?_
  refine k3_put S hK (by exact h3) 5 (by decide) (by decide) (S.2.2.2.2 _ (List.mem_of_getElem? (i := 2) rfl)) (Or.inl rfl) rfl rfl dX2_endPledge_7 ?_
  refine g_aload_n S dX2_endPledge_10 rfl ?_
  refine g_iconst S (v := (-1)) dX2_endPledge_11 (by decide) ?_
  refine k3_put S hK (by exact h3) 6 (by decide) (by decide) (S.2.2.2.2 _ (List.mem_of_getElem? (i := 3) rfl)) (Or.inl rfl) rfl rfl dX2_endPledge_12 ?_
  exact g_vret S hlk hr (fun H h => ⟨rfl, h⟩) (Nat.le_refl _) (Nat.le_refl _) dX2_endPledge_15

abbrev rmX3_isEmpty : Room := { frames := 0, cells := 0, slots := 0, locals := 0 }
set_option maxHeartbeats 1500000 in
set_option maxRecDepth 100000 in
theorem k_isEmpty (l : Launch) (D : va_G) (ty : Nat → ClassId) (A : Nat → Prop) (tE : Nat) (el : Nat → Nat → Nat) (a : CS) {i : Nat} (h4 : cOb a 4 i) : Met l yX3_isEmpty wsX3_isEmpty rmX3_isEmpty (gPc D ty true cstrs tE A [.ref (el 4 i)] (hC D ty A tE el a)) (gQ A (gRet (some (.int (b2 (decide (cI a 4 4 i ≤ 0))))) (hC D ty A tE el a))) 0 0 A := by
  refine g_Met (cc := cX3_isEmpty) (maxL := 1) (ret := (some .boolean)) [some (.ref (el 4 i))] (by decide) rfl (Nat.le_of_ble_eq_true rfl) rfl ?_
  intro p e s m args below meth c S hlk hr hnm hK hE hP0
  have S : CallFix p m c cX3_isEmpty 1 s args wsX3_isEmpty RX3 := S
  refine g_aload_n S dX3_isEmpty_0 rfl ?_
  refine k4_get S hK (by exact h4) 4 (by decide) (S.2.2.2.2 _ (List.mem_of_getElem? (i := 1) rfl)) rfl dX3_isEmpty_1 ?_
  refine g_if_gt S (tgt := 11) dX3_isEmpty_4 (by decide) (fun c_4 => ?_) (fun c_4 => ?_)
  · refine g_iconst S (v := 0) dX3_isEmpty_11 (by decide) ?_
    exact g_zret S hlk hr (by first | rfl | exact nar_b2 _) (fun H h => ⟨by simp [b2, Int32.not_le.mpr c_4], h⟩) (Nat.le_refl _) (Nat.le_refl _) dX3_isEmpty_12
  · refine g_iconst S (v := 1) dX3_isEmpty_7 (by decide) ?_
    refine g_goto S (tgt := 12) dX3_isEmpty_8 (by decide) ?_
    exact g_zret S hlk hr (by first | rfl | exact nar_b2 _) (fun H h => ⟨by simp [b2, Int32.not_lt.mp c_4], h⟩) (Nat.le_refl _) (Nat.le_refl _) dX3_isEmpty_12

def kIsOf (a : CS) (i : Nat) (g r : Int32) : Bool := decide (0 < cI a 4 4 i) && (decide (cI a 4 2 i = g) && decide (cI a 4 3 i = r))
abbrev rmX3_isOf : Room := { frames := 0, cells := 0, slots := 0, locals := 0 }
set_option maxHeartbeats 1500000 in
set_option maxRecDepth 100000 in
theorem k_isOf (l : Launch) (D : va_G) (ty : Nat → ClassId) (A : Nat → Prop) (tE : Nat) (el : Nat → Nat → Nat) (a : CS) {i : Nat} (h4 : cOb a 4 i) (g r : Int32) : Met l yX3_isOf wsX3_isOf rmX3_isOf (gPc D ty true cstrs tE A [.ref (el 4 i), .int g, .int r] (hC D ty A tE el a)) (gQ A (gRet (some (.int (b2 (kIsOf a i g r)))) (hC D ty A tE el a))) 0 0 A := by
  refine g_Met (cc := cX3_isOf) (maxL := 3) (ret := (some .boolean)) [some (.ref (el 4 i)), some (.int g), some (.int r)] (by decide) rfl (Nat.le_of_ble_eq_true rfl) rfl ?_
  intro p e s m args below meth c S hlk hr hnm hK hE hP0
  have S : CallFix p m c cX3_isOf 3 s args wsX3_isOf RX3 := S
  refine g_aload_n S dX3_isOf_0 rfl ?_
  refine k4_get S hK (by exact h4) 4 (by decide) (S.2.2.2.2 _ (List.mem_of_getElem? (i := 1) rfl)) rfl dX3_isOf_1 ?_
  refine g_if_le S (tgt := 27) dX3_isOf_4 (by decide) (fun c_4 => ?_) (fun c_4 => ?_)
  · refine g_iconst S (v := 0) dX3_isOf_27 (by decide) ?_
    exact g_zret S hlk hr (by first | rfl | exact nar_b2 _) (fun H h => ⟨by simp [kIsOf, b2, Int32.not_lt.mpr c_4], h⟩) (Nat.le_refl _) (Nat.le_refl _) dX3_isOf_28
  · refine g_aload_n S dX3_isOf_7 rfl ?_
    refine k4_get S hK (by exact h4) 2 (by decide) (S.2.2.2.2 _ (List.mem_of_getElem? (i := 2) rfl)) rfl dX3_isOf_8 ?_
    refine g_iload_n S dX3_isOf_11 rfl ?_
    refine g_icmp_ne S (tgt := 27) dX3_isOf_12 (by decide) (fun c_12 => ?_) (fun c_12 => ?_)
    · refine g_iconst S (v := 0) dX3_isOf_27 (by decide) ?_
      exact g_zret S hlk hr (by first | rfl | exact nar_b2 _) (fun H h => ⟨by simp [kIsOf, b2, Int32.not_le.mp c_4, c_12], h⟩) (Nat.le_refl _) (Nat.le_refl _) dX3_isOf_28
    · refine g_aload_n S dX3_isOf_15 rfl ?_
      refine k4_get S hK (by exact h4) 3 (by decide) (S.2.2.2.2 _ (List.mem_of_getElem? (i := 3) rfl)) rfl dX3_isOf_16 ?_
      refine g_iload_n S dX3_isOf_19 rfl ?_
      refine g_icmp_ne S (tgt := 27) dX3_isOf_20 (by decide) (fun c_20 => ?_) (fun c_20 => ?_)
      · refine g_iconst S (v := 0) dX3_isOf_27 (by decide) ?_
        exact g_zret S hlk hr (by first | rfl | exact nar_b2 _) (fun H h => ⟨by simp [kIsOf, b2, Int32.not_le.mp c_4, c_12, c_20], h⟩) (Nat.le_refl _) (Nat.le_refl _) dX3_isOf_28
      · refine g_iconst S (v := 1) dX3_isOf_23 (by decide) ?_
        refine g_goto S (tgt := 28) dX3_isOf_24 (by decide) ?_
        exact g_zret S hlk hr (by first | rfl | exact nar_b2 _) (fun H h => ⟨by simp [kIsOf, b2, Int32.not_le.mp c_4, c_12, c_20], h⟩) (Nat.le_refl _) (Nat.le_refl _) dX3_isOf_28

abbrev rmX3_hasRoomFor : Room := { frames := 0, cells := 0, slots := 0, locals := 0 }
set_option maxHeartbeats 1500000 in
set_option maxRecDepth 100000 in
theorem k_hasRoomFor (l : Launch) (D : va_G) (ty : Nat → ClassId) (A : Nat → Prop) (tE : Nat) (el : Nat → Nat → Nat) (a : CS) {i : Nat} (h4 : cOb a 4 i) (x : Int32) : Met l yX3_hasRoomFor wsX3_hasRoomFor rmX3_hasRoomFor (gPc D ty true cstrs tE A [.ref (el 4 i), .int x] (hC D ty A tE el a)) (gQ A (gRet (some (.int (b2 (decide (x ≤ cI a 4 1 i - cI a 4 4 i))))) (hC D ty A tE el a))) 0 0 A := by
  refine g_Met (cc := cX3_hasRoomFor) (maxL := 2) (ret := (some .boolean)) [some (.ref (el 4 i)), some (.int x)] (by decide) rfl (Nat.le_of_ble_eq_true rfl) rfl ?_
  intro p e s m args below meth c S hlk hr hnm hK hE hP0
  have S : CallFix p m c cX3_hasRoomFor 2 s args wsX3_hasRoomFor RX3 := S
  refine g_iload_n S dX3_hasRoomFor_0 rfl ?_
  refine g_aload_n S dX3_hasRoomFor_1 rfl ?_
  refine k4_get S hK (by exact h4) 1 (by decide) (S.2.2.2.2 _ (List.mem_of_getElem? (i := 1) rfl)) rfl dX3_hasRoomFor_2 ?_
  refine g_aload_n S dX3_hasRoomFor_5 rfl ?_
  refine k4_get S hK (by exact h4) 4 (by decide) (S.2.2.2.2 _ (List.mem_of_getElem? (i := 2) rfl)) rfl dX3_hasRoomFor_6 ?_
  refine g_isub S dX3_hasRoomFor_9 ?_
  refine g_icmp_gt S (tgt := 17) dX3_hasRoomFor_10 (by decide) (fun c_10 => ?_) (fun c_10 => ?_)
  · refine g_iconst S (v := 0) dX3_hasRoomFor_17 (by decide) ?_
    exact g_zret S hlk hr (by first | rfl | exact nar_b2 _) (fun H h => ⟨by simp [b2, Int32.not_le.mpr c_10], h⟩) (Nat.le_refl _) (Nat.le_refl _) dX3_hasRoomFor_18
  · refine g_iconst S (v := 1) dX3_hasRoomFor_13 (by decide) ?_
    refine g_goto S (tgt := 18) dX3_hasRoomFor_14 (by decide) ?_
    exact g_zret S hlk hr (by first | rfl | exact nar_b2 _) (fun H h => ⟨by simp [b2, Int32.not_lt.mp c_10], h⟩) (Nat.le_refl _) (Nat.le_refl _) dX3_hasRoomFor_18

abbrev rmX2_isLiveOf : Room := { frames := 1, cells := 0, slots := 0, locals := 22 }
set_option maxHeartbeats 1500000 in
set_option maxRecDepth 100000 in
theorem k_isLiveOf (l : Launch) (D : va_G) (ty : Nat → ClassId) (A : Nat → Prop) (tE : Nat) (el : Nat → Nat → Nat) (a : CS) {r : Nat} (h3 : cOb a 3 r) {t : Nat} (ht : cR a 3 2 r = some t) (h5 : cOb a 5 t) {d : Nat} (hd : cR a 3 1 r = some d) (h2 : cOb a 2 d) {i : Nat} (hs : cR a 2 4 d = some i) (h4 : cOb a 4 i) (w g q : Int32) : Met l yX2_isLiveOf wsX2_isLiveOf rmX2_isLiveOf (gPc D ty true cstrs tE A [.ref (el 3 r), .int w, .int g, .int q] (hC D ty A tE el a)) (gQ A (gRet (some (.int (b2 (decide (0 < cI a 3 3 r) && (decide (cI a 5 2 t = w) && kIsOf a i g q))))) (hC D ty A tE el a))) 0 0 A := by
  refine g_Met (cc := cX2_isLiveOf) (maxL := 4) (ret := (some .boolean)) [some (.ref (el 3 r)), some (.int w), some (.int g), some (.int q)] (by decide) rfl (Nat.le_of_ble_eq_true rfl) rfl ?_
  intro p e s m args below meth c S hlk hr hnm hK hE hP0
  have S : CallFix p m c cX2_isLiveOf 4 s args wsX2_isLiveOf RX2 := S
  refine g_aload_n S dX2_isLiveOf_0 rfl ?_
  refine k3_get S hK (by exact h3) 3 (by decide) (S.2.2.2.2 _ (List.mem_of_getElem? (i := 1) rfl)) rfl dX2_isLiveOf_1 ?_
  refine g_if_le S (tgt := 37) dX2_isLiveOf_4 (by decide) (fun c_4 => ?_) (fun c_4 => ?_)
  · refine g_iconst S (v := 0) dX2_isLiveOf_37 (by decide) ?_
    exact g_zret S hlk hr (by first | rfl | exact nar_b2 _) (fun H h => ⟨by simp [b2, Int32.not_lt.mpr c_4], h⟩) (Nat.le_refl _) (Nat.le_refl _) dX2_isLiveOf_38
  · refine g_aload_n S dX2_isLiveOf_7 rfl ?_
    refine k3_getR S hK (by exact h3) 2 (by decide) (by exact ht) (S.2.2.2.2 _ (List.mem_of_getElem? (i := 2) rfl)) rfl dX2_isLiveOf_8 ?_
    refine k5_get S hK (by exact h5) 2 (by decide) (S.2.2.2.2 _ (List.mem_of_getElem? (i := 3) rfl)) rfl dX2_isLiveOf_11 ?_
    refine g_iload_n S dX2_isLiveOf_14 rfl ?_
    refine g_icmp_ne S (tgt := 37) dX2_isLiveOf_15 (by decide) (fun c_15 => ?_) (fun c_15 => ?_)
    · refine g_iconst S (v := 0) dX2_isLiveOf_37 (by decide) ?_
      exact g_zret S hlk hr (by first | rfl | exact nar_b2 _) (fun H h => ⟨by simp [b2, Int32.not_le.mp c_4, c_15], h⟩) (Nat.le_refl _) (Nat.le_refl _) dX2_isLiveOf_38
    · refine g_aload_n S dX2_isLiveOf_18 rfl ?_
      refine k3_getR S hK (by exact h3) 1 (by decide) (by exact hd) (S.2.2.2.2 _ (List.mem_of_getElem? (i := 4) rfl)) rfl dX2_isLiveOf_19 ?_
      refine k2_getR S hK (by exact h2) 4 (by decide) (by exact hs) (S.2.2.2.2 _ (List.mem_of_getElem? (i := 5) rfl)) rfl dX2_isLiveOf_22 ?_
      refine g_iload_n S dX2_isLiveOf_25 rfl ?_
      refine g_iload_n S dX2_isLiveOf_26 rfl ?_
      refine g_cVr S (k_isOf l D ty A tE el _ (by exact h4) _ _) (cwV 2 S.2.2.2.2 gX2_isLiveOf_X3_isOf rfl rfl rfl (by decide +kernel) ⟨Nat.le_of_ble_eq_true rfl, Nat.le_of_ble_eq_true rfl⟩) hK hE (fun H h => h) (k4_recv hK (by exact h4)) rfl (Nat.le_of_ble_eq_true rfl) dX2_isLiveOf_27 ⟨Nat.le_of_ble_eq_true rfl, Nat.le_of_ble_eq_true rfl⟩ ?_
      refine g_ifb_eq S (tgt := 37) dX2_isLiveOf_30 (by decide) (fun c_30 => ?_) (fun c_30 => ?_)
      · refine g_iconst S (v := 0) dX2_isLiveOf_37 (by decide) ?_
        exact g_zret S hlk hr (by first | rfl | exact nar_b2 _) (fun H h => ⟨by simp [b2, Int32.not_le.mp c_4, c_15, c_30], h⟩) (Nat.le_refl _) (Nat.le_refl _) dX2_isLiveOf_38
      · refine g_iconst S (v := 1) dX2_isLiveOf_33 (by decide) ?_
        refine g_goto S (tgt := 38) dX2_isLiveOf_34 (by decide) ?_
        exact g_zret S hlk hr (by first | rfl | exact nar_b2 _) (fun H h => ⟨by simp [b2, Int32.not_le.mp c_4, c_15, c_30], h⟩) (Nat.le_refl _) (Nat.le_refl _) dX2_isLiveOf_38

abbrev rmX2_isLiveIn : Room := { frames := 0, cells := 0, slots := 0, locals := 0 }
set_option maxHeartbeats 1500000 in
set_option maxRecDepth 100000 in
theorem k_isLiveIn (l : Launch) (D : va_G) (ty : Nat → ClassId) (A : Nat → Prop) (tE : Nat) (el : Nat → Nat → Nat) (a : CS) {r : Nat} (h3 : cOb a 3 r) {d : Nat} (hd : cR a 3 1 r = some d) (h2 : cOb a 2 d) {i : Nat} (hs : cR a 2 4 d = some i) (h4 : cOb a 4 i) {j : Nat} (hj : cOb a 4 j) (hinj : el 4 i = el 4 j ↔ i = j) : Met l yX2_isLiveIn wsX2_isLiveIn rmX2_isLiveIn (gPc D ty true cstrs tE A [.ref (el 3 r), .ref (el 4 j)] (hC D ty A tE el a)) (gQ A (gRet (some (.int (b2 (decide (0 < cI a 3 3 r) && decide (i = j))))) (hC D ty A tE el a))) 0 0 A := by
  refine g_Met (cc := cX2_isLiveIn) (maxL := 2) (ret := (some .boolean)) [some (.ref (el 3 r)), some (.ref (el 4 j))] (by decide) rfl (Nat.le_of_ble_eq_true rfl) rfl ?_
  intro p e s m args below meth c S hlk hr hnm hK hE hP0
  have S : CallFix p m c cX2_isLiveIn 2 s args wsX2_isLiveIn RX2 := S
  refine g_aload_n S dX2_isLiveIn_0 rfl ?_
  refine k3_get S hK (by exact h3) 3 (by decide) (S.2.2.2.2 _ (List.mem_of_getElem? (i := 1) rfl)) rfl dX2_isLiveIn_1 ?_
  refine g_if_le S (tgt := 22) dX2_isLiveIn_4 (by decide) (fun c_4 => ?_) (fun c_4 => ?_)
  · refine g_iconst S (v := 0) dX2_isLiveIn_22 (by decide) ?_
    exact g_zret S hlk hr (by first | rfl | exact nar_b2 _) (fun H h => ⟨by simp [b2, ← hinj,  Int32.not_lt.mpr c_4], h⟩) (Nat.le_refl _) (Nat.le_refl _) dX2_isLiveIn_23
  · refine g_aload_n S dX2_isLiveIn_7 rfl ?_
    refine k3_getR S hK (by exact h3) 1 (by decide) (by exact hd) (S.2.2.2.2 _ (List.mem_of_getElem? (i := 2) rfl)) rfl dX2_isLiveIn_8 ?_
    refine k2_getR S hK (by exact h2) 4 (by decide) (by exact hs) (S.2.2.2.2 _ (List.mem_of_getElem? (i := 3) rfl)) rfl dX2_isLiveIn_11 ?_
    refine g_aload_n S dX2_isLiveIn_14 rfl ?_
    refine g_acmp_ne S (tgt := 22) dX2_isLiveIn_15 (by decide) (fun c_15 => ?_) (fun c_15 => ?_)
    · refine g_iconst S (v := 0) dX2_isLiveIn_22 (by decide) ?_
      exact g_zret S hlk hr (by first | rfl | exact nar_b2 _) (fun H h => ⟨by simp [b2, ← hinj, c_15,  Int32.not_le.mp c_4], h⟩) (Nat.le_refl _) (Nat.le_refl _) dX2_isLiveIn_23
    · refine g_iconst S (v := 1) dX2_isLiveIn_18 (by decide) ?_
      refine g_goto S (tgt := 23) dX2_isLiveIn_19 (by decide) ?_
      exact g_zret S hlk hr (by first | rfl | exact nar_b2 _) (fun H h => ⟨by simp [b2, ← hinj, c_15,  Int32.not_le.mp c_4], h⟩) (Nat.le_refl _) (Nat.le_refl _) dX2_isLiveIn_23

abbrev rmX5_needRange : Room := { frames := 0, cells := 0, slots := 0, locals := 0 }
set_option maxHeartbeats 1500000 in
set_option maxRecDepth 100000 in
theorem k_needRange (l : Launch) (D : va_G) (ty : Nat → ClassId) (A : Nat → Prop) (tE : Nat) (el : Nat → Nat → Nat) (a : CS) (P : Heap → Prop) (v lo hi : Int32) (hv : mIn v lo hi = true) : Met l yX5_needRange wsX5_needRange rmX5_needRange (gPc D ty true cstrs tE A [.int v, .int lo, .int hi] P) (gQ A (gRet none P)) 0 0 A := by
  refine g_Met (cc := cX5_needRange) (maxL := 3) (ret := none) [some (.int v), some (.int lo), some (.int hi)] (by decide) rfl (Nat.le_of_ble_eq_true rfl) rfl ?_
  intro p e s m args below meth c S hlk hr hnm hK hE hP0
  have S : CallFix p m c cX5_needRange 3 s args wsX5_needRange RX5 := S
  refine g_iload_n S dX5_needRange_0 rfl ?_
  refine g_iload_n S dX5_needRange_1 rfl ?_
  refine g_icmp_lt S (tgt := 10) dX5_needRange_2 (by decide) (fun c_2 => ?_) (fun c_2 => ?_)
  · exact absurd (hv.symm.trans (mIn_lo c_2)) (by decide)
  · refine g_iload_n S dX5_needRange_5 rfl ?_
    refine g_iload_n S dX5_needRange_6 rfl ?_
    refine g_icmp_le S (tgt := 21) dX5_needRange_7 (by decide) (fun c_7 => ?_) (fun c_7 => ?_)
    · exact g_vret S hlk hr (fun H h => ⟨rfl, h⟩) (Nat.le_refl _) (Nat.le_refl _) dX5_needRange_21
    · exact absurd (hv.symm.trans (mIn_hi (Int32.not_le.mp c_7))) (by decide)

abbrev rtX5_needRange : Room := { frames := 6, cells := 1, slots := 6, locals := 100 }
set_option maxHeartbeats 1500000 in
set_option maxRecDepth 100000 in
theorem t_needRange (l : Launch) (D : va_G) (ty : Nat → ClassId) (A : Nat → Prop) (hl : l.stackTraces = false) (tE : Nat) (el : Nat → Nat → Nat) (a : CS) (P : Heap → Prop) (hPg : ∀ H H1 : Heap, P H → H.size ≤ H1.size → (∀ q : Nat, q < H.size → H1[q]? = H[q]?) → P H1) (v lo hi : Int32) (hv : mIn v lo hi = false) : vx_Met l yX5_needRange wsX5_needRange rtX5_needRange (gPc D ty true cstrs tE A [.int v, .int lo, .int hi] P) (gQ A (fun _ _ => False)) (gX A (fun E H => E = "java/lang/IllegalArgumentException" ∧ P H)) 1 6 A := by
  refine g_tMet (cc := cX5_needRange) (maxL := 3) (ret := none) [some (.int v), some (.int lo), some (.int hi)] (by decide) rfl (Nat.le_of_ble_eq_true rfl) rfl ?_
  intro p e s m args below meth c S hlk hout hK hE hP0
  have S : CallFix p m c cX5_needRange 3 s args wsX5_needRange RX5 := S
  refine g_iload_n S dX5_needRange_0 rfl ?_
  refine g_iload_n S dX5_needRange_1 rfl ?_
  refine g_icmp_lt S (tgt := 10) dX5_needRange_2 (by decide) (fun c_2 => ?_) (fun c_2 => ?_)
  · exact g_throwSW S hl (cls := "java/lang/IllegalArgumentException") (text := "an argument is out of range") (names := ["java/lang/RuntimeException", "java/lang/Exception"]) (by decide) (by decide) (S.2.2.2.2 _ (List.mem_of_getElem? (i := 1) rfl)) (S.2.2.2.2 _ (List.mem_of_getElem? (i := 2) rfl)) (by decide +kernel) (by decide +kernel) (by decide +kernel) hE (by decide +kernel) dX5_needRange_10 dX5_needRange_13 dX5_needRange_14 dX5_needRange_17 dX5_needRange_20 hout rfl rfl ⟨Nat.le_of_ble_eq_true rfl, Nat.le_of_ble_eq_true rfl⟩ ⟨Nat.le_of_ble_eq_true rfl, Nat.le_of_ble_eq_true rfl⟩ hlk (fun H H1 hP hz hq => ⟨rfl, hPg H H1 hP hz hq⟩) (Nat.le_of_ble_eq_true rfl) (Nat.le_of_ble_eq_true rfl)
  · refine g_iload_n S dX5_needRange_5 rfl ?_
    refine g_iload_n S dX5_needRange_6 rfl ?_
    refine g_icmp_le S (tgt := 21) dX5_needRange_7 (by decide) (fun c_7 => ?_) (fun c_7 => ?_)
    · exact absurd (hv.symm.trans (mIn_ok c_2 (Int32.not_lt.mpr c_7))) (by decide)
    · exact g_throwSW S hl (cls := "java/lang/IllegalArgumentException") (text := "an argument is out of range") (names := ["java/lang/RuntimeException", "java/lang/Exception"]) (by decide) (by decide) (S.2.2.2.2 _ (List.mem_of_getElem? (i := 1) rfl)) (S.2.2.2.2 _ (List.mem_of_getElem? (i := 2) rfl)) (by decide +kernel) (by decide +kernel) (by decide +kernel) hE (by decide +kernel) dX5_needRange_10 dX5_needRange_13 dX5_needRange_14 dX5_needRange_17 dX5_needRange_20 hout rfl rfl ⟨Nat.le_of_ble_eq_true rfl, Nat.le_of_ble_eq_true rfl⟩ ⟨Nat.le_of_ble_eq_true rfl, Nat.le_of_ble_eq_true rfl⟩ hlk (fun H H1 hP hz hq => ⟨rfl, hPg H H1 hP hz hq⟩) (Nat.le_of_ble_eq_true rfl) (Nat.le_of_ble_eq_true rfl)

abbrev rmX5_gradeOf : Room := { frames := 0, cells := 0, slots := 0, locals := 0 }
set_option maxHeartbeats 1500000 in
set_option maxRecDepth 100000 in
theorem k_gradeOf (l : Launch) (D : va_G) (ty : Nat → ClassId) (A : Nat → Prop) (tE : Nat) (el : Nat → Nat → Nat) (a : CS) (P : Heap → Prop) (mo9 : Int32) : Met l yX5_gradeOf wsX5_gradeOf rmX5_gradeOf (gPc D ty true cstrs tE A [.int mo9] P) (gQ A (gRet (some (.int (mGrade mo9))) P)) 0 0 A := by
  refine g_Met (cc := cX5_gradeOf) (maxL := 1) (ret := (some .int)) [some (.int mo9)] (by decide) rfl (Nat.le_of_ble_eq_true rfl) rfl ?_
  intro p e s m args below meth c S hlk hr hnm hK hE hP0
  have S : CallFix p m c cX5_gradeOf 1 s args wsX5_gradeOf RX5 := S
  refine g_iload_n S dX5_gradeOf_0 rfl ?_
  refine g_sipush S (v := 140) dX5_gradeOf_1 (by decide) ?_
  refine g_icmp_gt S (tgt := 9) dX5_gradeOf_4 (by decide) (fun c_4 => ?_) (fun c_4 => ?_)
  · refine g_iload_n S dX5_gradeOf_9 rfl ?_
    refine g_sipush S (v := 180) dX5_gradeOf_10 (by decide) ?_
    refine g_icmp_gt S (tgt := 20) dX5_gradeOf_13 (by decide) (fun c_13 => ?_) (fun c_13 => ?_)
    · refine g_iconst S (v := 2) dX5_gradeOf_20 (by decide) ?_
      exact g_iret S hlk hr (fun H h => ⟨by simp [mGrade, c_4, c_13], h⟩) (Nat.le_refl _) (Nat.le_refl _) dX5_gradeOf_21
    · refine g_iconst S (v := 1) dX5_gradeOf_16 (by decide) ?_
      refine g_goto S (tgt := 21) dX5_gradeOf_17 (by decide) ?_
      exact g_iret S hlk hr (fun H h => ⟨by simp [mGrade, c_4, c_13], h⟩) (Nat.le_refl _) (Nat.le_refl _) dX5_gradeOf_21
  · refine g_iconst S (v := 0) dX5_gradeOf_7 (by decide) ?_
    exact g_iret S hlk hr (fun H h => ⟨by simp [mGrade, c_4], h⟩) (Nat.le_refl _) (Nat.le_refl _) dX5_gradeOf_8

def kDry (kg mo : Int32) : Int32 := if mo ≤ 140 then kg else kg * (1000 - mo) / 860
abbrev rmX5_dryWeight : Room := { frames := 0, cells := 0, slots := 0, locals := 0 }
set_option maxHeartbeats 1500000 in
set_option maxRecDepth 100000 in
theorem k_dryWeight (l : Launch) (D : va_G) (ty : Nat → ClassId) (A : Nat → Prop) (tE : Nat) (el : Nat → Nat → Nat) (a : CS) (P : Heap → Prop) (kg mo9 : Int32) : Met l yX5_dryWeight wsX5_dryWeight rmX5_dryWeight (gPc D ty true cstrs tE A [.int kg, .int mo9] P) (gQ A (gRet (some (.int (kDry kg mo9))) P)) 0 0 A := by
  refine g_Met (cc := cX5_dryWeight) (maxL := 2) (ret := (some .int)) [some (.int kg), some (.int mo9)] (by decide) rfl (Nat.le_of_ble_eq_true rfl) rfl ?_
  intro p e s m args below meth c S hlk hr hnm hK hE hP0
  have S : CallFix p m c cX5_dryWeight 2 s args wsX5_dryWeight RX5 := S
  refine g_iload_n S dX5_dryWeight_0 rfl ?_
  refine g_sipush S (v := 140) dX5_dryWeight_1 (by decide) ?_
  refine g_icmp_gt S (tgt := 9) dX5_dryWeight_4 (by decide) (fun c_4 => ?_) (fun c_4 => ?_)
  · refine g_iload_n S dX5_dryWeight_9 rfl ?_
    refine g_sipush S (v := 1000) dX5_dryWeight_10 (by decide) ?_
    refine g_iload_n S dX5_dryWeight_13 rfl ?_
    refine g_isub S dX5_dryWeight_14 ?_
    refine g_imul S dX5_dryWeight_15 ?_
    refine g_sipush S (v := 860) dX5_dryWeight_16 (by decide) ?_
    refine g_idiv S dX5_dryWeight_19 (by decide) ?_
    exact g_iret S hlk hr (fun H h => ⟨by simp [kDry, Int32.not_le.mpr c_4], h⟩) (Nat.le_refl _) (Nat.le_refl _) dX5_dryWeight_20
  · refine g_iload_n S dX5_dryWeight_7 rfl ?_
    exact g_iret S hlk hr (fun H h => ⟨by simp [kDry, Int32.not_lt.mp c_4], h⟩) (Nat.le_refl _) (Nat.le_refl _) dX5_dryWeight_8

def kTakeFrom (a : CS) (r i : Nat) (x : Int32) : CS :=
  let b := cSI a 3 3 r (cI a 3 3 r - x)
  let b := cSI b 4 4 i (cI b 4 4 i - x)
  if decide (0 < cI b 3 3 r) = true then b else kEndPledge b r
abbrev rmX5_takeFrom : Room := { frames := 1, cells := 0, slots := 0, locals := 20 }
set_option maxHeartbeats 1500000 in
set_option maxRecDepth 100000 in
theorem k_takeFrom (l : Launch) (D : va_G) (ty : Nat → ClassId) (A : Nat → Prop) (tE : Nat) (el : Nat → Nat → Nat) (a : CS) (h6 : cOb a 6 0) {r : Nat} (h3 : cOb a 3 r) {d : Nat} (hd : cR a 3 1 r = some d) (h2 : cOb a 2 d) {i : Nat} (hs : cR a 2 4 d = some i) (h4 : cOb a 4 i) (x : Int32) : Met l yX5_takeFrom wsX5_takeFrom rmX5_takeFrom (gPc D ty true cstrs tE A [.ref (el 6 0), .ref (el 3 r), .int x] (hC D ty A tE el a)) (gQ A (gRet none (hC D ty A tE el (kTakeFrom a r i x)))) 0 0 A := by
  refine g_Met (cc := cX5_takeFrom) (maxL := 3) (ret := none) [some (.ref (el 6 0)), some (.ref (el 3 r)), some (.int x)] (by decide) rfl (Nat.le_of_ble_eq_true rfl) rfl ?_
  intro p e s m args below meth c S hlk hr hnm hK hE hP0
  have S : CallFix p m c cX5_takeFrom 3 s args wsX5_takeFrom RX5 := S
  refine g_aload_n S dX5_takeFrom_0 rfl ?_
  refine g_dup S dX5_takeFrom_1 rfl ?_
  refine k3_get S hK (by exact h3) 3 (by decide) (S.2.2.2.2 _ (List.mem_of_getElem? (i := 1) rfl)) rfl dX5_takeFrom_2 ?_
  refine g_iload_n S dX5_takeFrom_5 rfl ?_
  refine g_isub S dX5_takeFrom_6 ?_
  refine k3_put S hK (by exact h3) 3 (by decide) (by decide) (S.2.2.2.2 _ (List.mem_of_getElem? (i := 1) rfl)) (Or.inl rfl) rfl rfl dX5_takeFrom_7 ?_
  refine g_aload_n S dX5_takeFrom_10 rfl ?_
  refine k3_getR S hK (by exact h3) 1 (by decide) (by exact hd) (S.2.2.2.2 _ (List.mem_of_getElem? (i := 2) rfl)) rfl dX5_takeFrom_11 ?_
  refine k2_getR S hK (by exact h2) 4 (by decide) (by exact hs) (S.2.2.2.2 _ (List.mem_of_getElem? (i := 3) rfl)) rfl dX5_takeFrom_14 ?_
  refine g_dup S dX5_takeFrom_17 rfl ?_
  refine k4_get S hK (by exact h4) 4 (by decide) (S.2.2.2.2 _ (List.mem_of_getElem? (i := 4) rfl)) rfl dX5_takeFrom_18 ?_
  refine g_iload_n S dX5_takeFrom_21 rfl ?_
  refine g_isub S dX5_takeFrom_22 ?_
  refine k4_put S hK (by exact h4) 4 (by decide) (by decide) (S.2.2.2.2 _ (List.mem_of_getElem? (i := 4) rfl)) (Or.inl rfl) rfl rfl dX5_takeFrom_23 ?_
  refine g_aload_n S dX5_takeFrom_26 rfl ?_
  refine g_cVr S (k_isLive l D ty A tE el _ (by exact h3)) (cwV 0 S.2.2.2.2 gX5_takeFrom_X2_isLive rfl rfl rfl (by decide +kernel) ⟨Nat.le_of_ble_eq_true rfl, Nat.le_of_ble_eq_true rfl⟩) hK hE (fun H h => h) (k3_recv hK (by exact h3)) rfl (Nat.le_of_ble_eq_true rfl) dX5_takeFrom_27 ⟨Nat.le_of_ble_eq_true rfl, Nat.le_of_ble_eq_true rfl⟩ ?_
  refine g_ifb_ne S (tgt := 37) dX5_takeFrom_30 (by decide) (fun c_30 => ?_) (fun c_30 => ?_)
  · exact g_vret S hlk hr (fun H h => ⟨rfl, by simp only [kTakeFrom]; rw [if_pos c_30]; exact h⟩) (Nat.le_refl _) (Nat.le_refl _) dX5_takeFrom_37
  · refine g_aload_n S dX5_takeFrom_33 rfl ?_
    refine g_cVv S (k_endPledge l D ty A tE el _ (by exact h3)) (cwV 0 S.2.2.2.2 gX5_takeFrom_X2_endPledge rfl rfl rfl (by decide +kernel) ⟨Nat.le_of_ble_eq_true rfl, Nat.le_of_ble_eq_true rfl⟩) hK hE (fun H h => h) (k3_recv hK (by exact h3)) rfl (Nat.le_of_ble_eq_true rfl) dX5_takeFrom_34 ⟨Nat.le_of_ble_eq_true rfl, Nat.le_of_ble_eq_true rfl⟩ ?_
    exact g_vret S hlk hr (fun H h => ⟨rfl, by simp only [kTakeFrom]; rw [if_neg (by rw [c_30]; decide)]; exact h⟩) (Nat.le_refl _) (Nat.le_refl _) dX5_takeFrom_37

abbrev rmX5_needFreeFor : Room := { frames := 1, cells := 0, slots := 0, locals := 20 }
set_option maxHeartbeats 1500000 in
set_option maxRecDepth 100000 in
theorem k_needFreeFor (l : Launch) (D : va_G) (ty : Nat → ClassId) (A : Nat → Prop) (tE : Nat) (el : Nat → Nat → Nat) (a : CS) {r : Nat} (h3 : cOb a 3 r) {t : Nat} (ht : cR a 3 2 r = some t) (h5 : cOb a 5 t) (w : Int32) (hv : (0 < cI a 3 3 r ∧ cI a 3 4 r = -1 ∧ ¬ cI a 5 2 t = w)) : Met l yX5_needFreeFor wsX5_needFreeFor rmX5_needFreeFor (gPc D ty true cstrs tE A [.ref (el 3 r), .int w] (hC D ty A tE el a)) (gQ A (gRet none (hC D ty A tE el a))) 0 0 A := by
  refine g_Met (cc := cX5_needFreeFor) (maxL := 2) (ret := none) [some (.ref (el 3 r)), some (.int w)] (by decide) rfl (Nat.le_of_ble_eq_true rfl) rfl ?_
  intro p e s m args below meth c S hlk hr hnm hK hE hP0
  have S : CallFix p m c cX5_needFreeFor 2 s args wsX5_needFreeFor RX5 := S
  refine g_aload_n S dX5_needFreeFor_0 rfl ?_
  refine g_cVr S (k_isLive l D ty A tE el _ (by exact h3)) (cwV 0 S.2.2.2.2 gX5_needFreeFor_X2_isLive rfl rfl rfl (by decide +kernel) ⟨Nat.le_of_ble_eq_true rfl, Nat.le_of_ble_eq_true rfl⟩) hK hE (fun H h => h) (k3_recv hK (by exact h3)) rfl (Nat.le_of_ble_eq_true rfl) dX5_needFreeFor_1 ⟨Nat.le_of_ble_eq_true rfl, Nat.le_of_ble_eq_true rfl⟩ ?_
  refine g_ifb_eq S (tgt := 22) dX5_needFreeFor_4 (by decide) (fun c_4 => ?_) (fun c_4 => ?_)
  · exact absurd trivial (fun _ => of_decide_eq_false c_4 hv.1)
  · refine g_aload_n S dX5_needFreeFor_7 rfl ?_
    refine g_cVr S (k_isPledged l D ty A tE el _ (by exact h3)) (cwV 0 S.2.2.2.2 gX5_needFreeFor_X2_isPledged rfl rfl rfl (by decide +kernel) ⟨Nat.le_of_ble_eq_true rfl, Nat.le_of_ble_eq_true rfl⟩) hK hE (fun H h => h) (k3_recv hK (by exact h3)) rfl (Nat.le_of_ble_eq_true rfl) dX5_needFreeFor_8 ⟨Nat.le_of_ble_eq_true rfl, Nat.le_of_ble_eq_true rfl⟩ ?_
    refine g_ifb_ne S (tgt := 22) dX5_needFreeFor_11 (by decide) (fun c_11 => ?_) (fun c_11 => ?_)
    · exact absurd trivial (fun _ => of_decide_eq_true c_11 hv.2.1)
    · refine g_aload_n S dX5_needFreeFor_14 rfl ?_
      refine g_cVr S (k_holder l D ty A tE el _ (by exact h3) (by exact ht) (by exact h5)) (cwV 0 S.2.2.2.2 gX5_needFreeFor_X2_holder rfl rfl rfl (by decide +kernel) ⟨Nat.le_of_ble_eq_true rfl, Nat.le_of_ble_eq_true rfl⟩) hK hE (fun H h => h) (k3_recv hK (by exact h3)) rfl (Nat.le_of_ble_eq_true rfl) dX5_needFreeFor_15 ⟨Nat.le_of_ble_eq_true rfl, Nat.le_of_ble_eq_true rfl⟩ ?_
      refine g_iload_n S dX5_needFreeFor_18 rfl ?_
      refine g_icmp_ne S (tgt := 33) dX5_needFreeFor_19 (by decide) (fun c_19 => ?_) (fun c_19 => ?_)
      · exact g_vret S hlk hr (fun H h => ⟨rfl, h⟩) (Nat.le_refl _) (Nat.le_refl _) dX5_needFreeFor_33
      · exact absurd trivial (fun _ => hv.2.2 c_19)

abbrev rtX5_needFreeFor : Room := { frames := 6, cells := 1, slots := 6, locals := 100 }
set_option maxHeartbeats 1500000 in
set_option maxRecDepth 100000 in
theorem t_needFreeFor (l : Launch) (D : va_G) (ty : Nat → ClassId) (A : Nat → Prop) (hl : l.stackTraces = false) (tE : Nat) (el : Nat → Nat → Nat) (a : CS) {r : Nat} (h3 : cOb a 3 r) {t : Nat} (ht : cR a 3 2 r = some t) (h5 : cOb a 5 t) (w : Int32) (hv : ¬ (0 < cI a 3 3 r ∧ cI a 3 4 r = -1 ∧ ¬ cI a 5 2 t = w)) : vx_Met l yX5_needFreeFor wsX5_needFreeFor rtX5_needFreeFor (gPc D ty true cstrs tE A [.ref (el 3 r), .int w] (hC D ty A tE el a)) (gQ A (fun _ _ => False)) (gX A (fun E H => E = "java/lang/IllegalStateException" ∧ hC D ty A tE el a H)) 1 6 A := by
  refine g_tMet (cc := cX5_needFreeFor) (maxL := 2) (ret := none) [some (.ref (el 3 r)), some (.int w)] (by decide) rfl (Nat.le_of_ble_eq_true rfl) rfl ?_
  intro p e s m args below meth c S hlk hout hK hE hP0
  have S : CallFix p m c cX5_needFreeFor 2 s args wsX5_needFreeFor RX5 := S
  refine g_aload_n S dX5_needFreeFor_0 rfl ?_
  refine g_cVr S (k_isLive l D ty A tE el _ (by exact h3)) (cwV 0 S.2.2.2.2 gX5_needFreeFor_X2_isLive rfl rfl rfl (by decide +kernel) ⟨Nat.le_of_ble_eq_true rfl, Nat.le_of_ble_eq_true rfl⟩) hK hE (fun H h => h) (k3_recv hK (by exact h3)) rfl (Nat.le_of_ble_eq_true rfl) dX5_needFreeFor_1 ⟨Nat.le_of_ble_eq_true rfl, Nat.le_of_ble_eq_true rfl⟩ ?_
  refine g_ifb_eq S (tgt := 22) dX5_needFreeFor_4 (by decide) (fun c_4 => ?_) (fun c_4 => ?_)
  · exact g_throwSW S hl (cls := "java/lang/IllegalStateException") (text := "the receipt cannot go to that holder") (names := ["java/lang/RuntimeException", "java/lang/Exception"]) (by decide) (by decide) (S.2.2.2.2 _ (List.mem_of_getElem? (i := 1) rfl)) (S.2.2.2.2 _ (List.mem_of_getElem? (i := 2) rfl)) (by decide +kernel) (by decide +kernel) (by decide +kernel) hE (by decide +kernel) dX5_needFreeFor_22 dX5_needFreeFor_25 dX5_needFreeFor_26 dX5_needFreeFor_29 dX5_needFreeFor_32 hout rfl rfl ⟨Nat.le_of_ble_eq_true rfl, Nat.le_of_ble_eq_true rfl⟩ ⟨Nat.le_of_ble_eq_true rfl, Nat.le_of_ble_eq_true rfl⟩ hlk (fun H H1 hP hz hq => ⟨rfl, hC_grow hP hz hq⟩) (Nat.le_of_ble_eq_true rfl) (Nat.le_of_ble_eq_true rfl)
  · refine g_aload_n S dX5_needFreeFor_7 rfl ?_
    refine g_cVr S (k_isPledged l D ty A tE el _ (by exact h3)) (cwV 0 S.2.2.2.2 gX5_needFreeFor_X2_isPledged rfl rfl rfl (by decide +kernel) ⟨Nat.le_of_ble_eq_true rfl, Nat.le_of_ble_eq_true rfl⟩) hK hE (fun H h => h) (k3_recv hK (by exact h3)) rfl (Nat.le_of_ble_eq_true rfl) dX5_needFreeFor_8 ⟨Nat.le_of_ble_eq_true rfl, Nat.le_of_ble_eq_true rfl⟩ ?_
    refine g_ifb_ne S (tgt := 22) dX5_needFreeFor_11 (by decide) (fun c_11 => ?_) (fun c_11 => ?_)
    · exact g_throwSW S hl (cls := "java/lang/IllegalStateException") (text := "the receipt cannot go to that holder") (names := ["java/lang/RuntimeException", "java/lang/Exception"]) (by decide) (by decide) (S.2.2.2.2 _ (List.mem_of_getElem? (i := 1) rfl)) (S.2.2.2.2 _ (List.mem_of_getElem? (i := 2) rfl)) (by decide +kernel) (by decide +kernel) (by decide +kernel) hE (by decide +kernel) dX5_needFreeFor_22 dX5_needFreeFor_25 dX5_needFreeFor_26 dX5_needFreeFor_29 dX5_needFreeFor_32 hout rfl rfl ⟨Nat.le_of_ble_eq_true rfl, Nat.le_of_ble_eq_true rfl⟩ ⟨Nat.le_of_ble_eq_true rfl, Nat.le_of_ble_eq_true rfl⟩ hlk (fun H H1 hP hz hq => ⟨rfl, hC_grow hP hz hq⟩) (Nat.le_of_ble_eq_true rfl) (Nat.le_of_ble_eq_true rfl)
    · refine g_aload_n S dX5_needFreeFor_14 rfl ?_
      refine g_cVr S (k_holder l D ty A tE el _ (by exact h3) (by exact ht) (by exact h5)) (cwV 0 S.2.2.2.2 gX5_needFreeFor_X2_holder rfl rfl rfl (by decide +kernel) ⟨Nat.le_of_ble_eq_true rfl, Nat.le_of_ble_eq_true rfl⟩) hK hE (fun H h => h) (k3_recv hK (by exact h3)) rfl (Nat.le_of_ble_eq_true rfl) dX5_needFreeFor_15 ⟨Nat.le_of_ble_eq_true rfl, Nat.le_of_ble_eq_true rfl⟩ ?_
      refine g_iload_n S dX5_needFreeFor_18 rfl ?_
      refine g_icmp_ne S (tgt := 33) dX5_needFreeFor_19 (by decide) (fun c_19 => ?_) (fun c_19 => ?_)
      · exact absurd ⟨of_decide_eq_true c_4, Decidable.of_not_not (of_decide_eq_false c_11), c_19⟩ hv
      · exact g_throwSW S hl (cls := "java/lang/IllegalStateException") (text := "the receipt cannot go to that holder") (names := ["java/lang/RuntimeException", "java/lang/Exception"]) (by decide) (by decide) (S.2.2.2.2 _ (List.mem_of_getElem? (i := 1) rfl)) (S.2.2.2.2 _ (List.mem_of_getElem? (i := 2) rfl)) (by decide +kernel) (by decide +kernel) (by decide +kernel) hE (by decide +kernel) dX5_needFreeFor_22 dX5_needFreeFor_25 dX5_needFreeFor_26 dX5_needFreeFor_29 dX5_needFreeFor_32 hout rfl rfl ⟨Nat.le_of_ble_eq_true rfl, Nat.le_of_ble_eq_true rfl⟩ ⟨Nat.le_of_ble_eq_true rfl, Nat.le_of_ble_eq_true rfl⟩ hlk (fun H H1 hP hz hq => ⟨rfl, hC_grow hP hz hq⟩) (Nat.le_of_ble_eq_true rfl) (Nat.le_of_ble_eq_true rfl)

