set_option maxHeartbeats 400000 in
theorem r_clear (cy : Nat → ClassId) (tE : Nat) (S : KS) (q : Nat) (post : KS → Prop) (i j e : Nat) (m n : Int32) (f : Nat → Option Nat) (hi : S.2.2.2[i]? = some (lsC q m e n)) (hj : S.2.2.2[j]? = some (arC cy e 10 f)) (hij : j ≠ i) (hn : 0 ≤ n.toInt ∧ n.toInt ≤ 10) (k : ∀ g, post (ksL S ((S.2.2.2.set i (lsC q (m + 1) e 0)).set j (arC cy e 10 g)))) : w_Jx4a65c_clear_da8c8 cy tE S q post := by
  have h1 := st_at (y := lsC q (m + 1) e n) hi
  refine ⟨i, m, .ref e, n, hi, i, m, .ref e, n, hi, i, m + 1, e, n, h1, i, m + 1, .ref e, n, h1, i, m + 1, .ref e, n, h1, ?_⟩
  rw [List.set_set]
  refine lr4 (fun (T : KS) (e' : Nat) (n' x : Int32) => e' = e ∧ n' = n ∧ 0 ≤ x.toInt ∧ x.toInt ≤ 10 ∧ ∃ g, T = ksL S ((S.2.2.2.set i (lsC q (m + 1) e 0)).set j (arC cy e 10 g))) (fun _ _ _ x => (10 - x.toInt).toNat) ?_ _ _ _ _ ⟨rfl, rfl, by decide, by decide, f, ?_⟩
  · rintro kk T e' n' x ⟨rfl, rfl, x0, x1, g, rfl⟩ hk
    unfold w_Jx4a65c_clear_da8c8_F27 w_Jx4a65c_clear_da8c8_B42
    have hjj : ((S.2.2.2.set i (lsC q (m + 1) e' 0)).set j (arC cy e' 10 g))[j]? = some (arC cy e' 10 g) := by
      refine st_at (x := arC cy e' 10 f) ?_
      rw [st_ne (fun h => hij h.symm)]; exact hj
    refine ⟨fun _ => k g, fun gx => ⟨j, 10, g, hjj, ⟨x0, by omega⟩, hk _ _ _ _ ⟨rfl, rfl, by rw [inc1 (by omega)]; omega, by rw [inc1 (by omega)]; omega, va_up g x.toNatClampNeg none, ?_⟩ (by rw [inc1 (by omega)]; omega)⟩⟩
    show ksL _ (((S.2.2.2.set i (lsC q (m + 1) e' 0)).set j (arC cy e' 10 g)).set j (arC cy e' 10 (va_up g x.toNatClampNeg none))) = _
    rw [List.set_set]
    rfl
  · have es : (S.2.2.2.set i (lsC q (m + 1) e 0)).set j (arC cy e 10 f) = S.2.2.2.set i (lsC q (m + 1) e 0) := by
      apply List.ext_getElem?
      intro t
      by_cases ht : j = t
      · rw [← ht, st_at (x := arC cy e 10 f) (by rw [st_ne (fun h => hij h.symm)]; exact hj), st_ne (fun h => hij h.symm)]
        exact hj.symm
      · rw [st_ne ht]
    rw [es]
    rfl
set_option maxHeartbeats 400000 in
theorem r_clear0 (cy : Nat → ClassId) (tE : Nat) (S : KS) (q : Nat) (post : KS → Prop) (i e : Nat) (m : Int32) (hi : S.2.2.2[i]? = some (lsC q m e 0)) (k : post (ksL S (S.2.2.2.set i (lsC q (m + 1) e 0)))) : w_Jx4a65c_clear_da8c8 cy tE S q post := by
  have h1 := st_at (y := lsC q (m + 1) e 0) hi
  refine ⟨i, m, .ref e, 0, hi, i, m, .ref e, 0, hi, i, m + 1, e, 0, h1, i, m + 1, .ref e, 0, h1, i, m + 1, .ref e, 0, h1, 1, ?_⟩
  rw [List.set_set]
  exact ⟨fun _ => k, fun g => absurd g (by decide)⟩

