/-! more of gW: locals forgotten -/
section GMORE
variable {p : Program} {l : Launch} {e : Env} {R : Room} {s : State} {m : MethodId} {args : Array Value} {below : List Frame} {meth : Method} {c : Code} {A : Nat → Prop} {Q : State → Prop} {nL : Nat} {P : Heap → Prop} {k n : Nat} {pc : Nat} {lv : List (Option Value)} {st : List Value}
theorem g_drop (j : Nat) (kk : gW p l e R s m args below meth c A Q nL P k n pc (lv.set j none) st) : gW p l e R s m args below meth c A Q nL P k n pc lv st := by
  refine g_less (lv' := lv.set j none) (by simp) (fun i v h => ?_) kk
  by_cases hij : j = i
  · subst hij
    by_cases hl : j < lv.length
    · rw [List.getElem?_set_self hl] at h
      cases h
    · rw [List.set_eq_of_length_le (by omega)] at h
      exact h
  · rw [List.getElem?_set_ne hij] at h
    exact h
end GMORE
