theorem i_rng (x : Int32) : -2147483648 ≤ x.toInt ∧ x.toInt ≤ 2147483647 := by
  have h1 := Int32.le_toInt x
  have h2 := Int32.toInt_lt x
  omega
theorem i_add {x y : Int32} (h1 : -2147483648 ≤ x.toInt + y.toInt) (h2 : x.toInt + y.toInt ≤ 2147483647) : (x + y).toInt = x.toInt + y.toInt := by
  rw [Int32.toInt_add]
  exact Int.bmod_eq_of_le (by omega) (by omega)
theorem i_sub {x y : Int32} (h1 : -2147483648 ≤ x.toInt - y.toInt) (h2 : x.toInt - y.toInt ≤ 2147483647) : (x - y).toInt = x.toInt - y.toInt := by
  rw [Int32.toInt_sub]
  exact Int.bmod_eq_of_le (by omega) (by omega)
theorem i_mul {x y : Int32} (h1 : -2147483648 ≤ x.toInt * y.toInt) (h2 : x.toInt * y.toInt ≤ 2147483647) : (x * y).toInt = x.toInt * y.toInt := by
  rw [Int32.toInt_mul]
  exact Int.bmod_eq_of_le (by omega) (by omega)
theorem i_nat {x : Int32} (h : 0 ≤ x.toInt) : (x.toNatClampNeg : Int) = x.toInt := by
  show ((x.toInt.toNat : Nat) : Int) = x.toInt
  omega
theorem upd_at (f : Nat → Int32) (k : Nat) (x : Int32) : upd f k x k = x := by simp [upd]
theorem upd_ne {f : Nat → Int32} {k j : Nat} {x : Int32} (h : j ≠ k) : upd f k x j = f j := by simp [upd, h]
theorem upd_if (f : Nat → Int32) (k j : Nat) (x : Int32) : upd f k x j = if j = k then x else f j := rfl
theorem q_isIn (S : GS) (x y z : Int32) (post : Int32 → GS → Prop) (h1 : y.toInt ≤ x.toInt ∧ x.toInt ≤ z.toInt → post 1 S) (h0 : ¬ (y.toInt ≤ x.toInt ∧ x.toInt ≤ z.toInt) → post 0 S) : w_X12_isIn S x y z post := by
  unfold w_X12_isIn w_X12_isIn_B14 w_X12_isIn_B15
  grind
theorem q_isOne (S : GS) (x : Int32) (post : Int32 → GS → Prop) (h1 : 0 ≤ x.toInt ∧ x.toInt ≤ 2 → post 1 S) (h0 : ¬ (0 ≤ x.toInt ∧ x.toInt ≤ 2) → post 0 S) : w_X12_isOne S x post := by
  unfold w_X12_isOne
  refine q_isIn _ _ _ _ _ (fun h => ?_) (fun h => ?_)
  · exact ⟨by decide, h1 h⟩
  · exact ⟨by decide, h0 h⟩
theorem q_isRow (S : GS) (x : Int32) (post : Int32 → GS → Prop) (h1 : 0 ≤ x.toInt ∧ x.toInt ≤ 5 → post 1 S) (h0 : ¬ (0 ≤ x.toInt ∧ x.toInt ≤ 5) → post 0 S) : w_X12_isRow S x post := by
  unfold w_X12_isRow
  refine q_isIn _ _ _ _ _ (fun h => ?_) (fun h => ?_)
  · exact ⟨by decide, h1 h⟩
  · exact ⟨by decide, h0 h⟩
theorem q_isNumber (S : GS) (x : Int32) (post : Int32 → GS → Prop) (h1 : 0 ≤ x.toInt ∧ x.toInt ≤ 767 → post 1 S) (h0 : ¬ (0 ≤ x.toInt ∧ x.toInt ≤ 767) → post 0 S) : w_X12_isNumber S x post := by
  unfold w_X12_isNumber
  refine q_isIn _ _ _ _ _ (fun h => ?_) (fun h => ?_)
  · exact ⟨by decide, h1 h⟩
  · exact ⟨by decide, h0 h⟩
/-- put: rows -/
theorem q_put (S : GS) (r code : Int32) (post : Int32 → GS → Prop) (hl : ∀ i, i < 6 → 0 ≤ (ar S 38 i).toInt ∧ (ar S 38 i).toInt ≤ 12)
    (h0 : ¬ ((0 ≤ r.toInt ∧ r.toInt ≤ 5) ∧ (0 ≤ code.toInt ∧ code.toInt ≤ 767) ∧ (ar S 38 r.toNatClampNeg).toInt ≠ 12) → post (-1) S)
    (h1 : 0 ≤ r.toInt ∧ r.toInt ≤ 5 → 0 ≤ code.toInt ∧ code.toInt ≤ 767 → (ar S 38 r.toNatClampNeg).toInt ≠ 12 → post (ar S 38 r.toNatClampNeg + 1) (su (su S 37 (12 * r + ar S 38 r.toNatClampNeg).toNatClampNeg code) 38 r.toNatClampNeg (ar S 38 r.toNatClampNeg + 1))) : w_X12_put S r code post := by
  unfold w_X12_put
  refine q_isRow _ _ _ (fun a => ?_) (fun a => ?_)
  · sorry
  · sorry
