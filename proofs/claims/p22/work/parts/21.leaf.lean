theorem q_isIn (S : GS) (x y z : Int32) (post : Int32 → GS → Prop) (k : ∀ r : Int32, (r = 0 ∨ r = 1) → (r.toInt = 0 ∧ ¬ (y.toInt ≤ x.toInt ∧ x.toInt ≤ z.toInt)) ∨ (r.toInt = 1 ∧ (y.toInt ≤ x.toInt ∧ x.toInt ≤ z.toInt)) → post r S) : w_X12_isIn S x y z post := by
  unfold w_X12_isIn w_X12_isIn_B14 w_X12_isIn_B15
  refine ⟨fun h => ⟨Or.inl rfl, k 0 (Or.inl rfl) (Or.inl ⟨by decide, by omega⟩)⟩, fun h => ⟨fun h2 => ⟨Or.inl rfl, k 0 (Or.inl rfl) (Or.inl ⟨by decide, by omega⟩)⟩, fun h2 => ⟨Or.inr rfl, k 1 (Or.inr rfl) (Or.inr ⟨by decide, by omega⟩)⟩⟩⟩
theorem q_isOne (S : GS) (x : Int32) (post : Int32 → GS → Prop) (k : ∀ r : Int32, (r = 0 ∨ r = 1) → (r.toInt = 0 ∧ ¬ (0 ≤ x.toInt ∧ x.toInt ≤ 2)) ∨ (r.toInt = 1 ∧ (0 ≤ x.toInt ∧ x.toInt ≤ 2)) → post r S) : w_X12_isOne S x post := by
  unfold w_X12_isOne
  refine q_isIn _ _ _ _ _ (fun r hr hb => ?_)
  rw [li_0, li_2] at hb
  exact ⟨hr, k r hr hb⟩
theorem q_isLetter (S : GS) (x : Int32) (post : Int32 → GS → Prop) (k : ∀ r : Int32, (r = 0 ∨ r = 1) → (r.toInt = 0 ∧ ¬ (97 ≤ x.toInt ∧ x.toInt ≤ 122)) ∨ (r.toInt = 1 ∧ (97 ≤ x.toInt ∧ x.toInt ≤ 122)) → post r S) : w_X12_isLetter S x post := by
  unfold w_X12_isLetter
  refine q_isIn _ _ _ _ _ (fun r hr hb => ?_)
  rw [li_97, li_122] at hb
  exact ⟨hr, k r hr hb⟩
theorem q_isDigit (S : GS) (x : Int32) (post : Int32 → GS → Prop) (k : ∀ r : Int32, (r = 0 ∨ r = 1) → (r.toInt = 0 ∧ ¬ (48 ≤ x.toInt ∧ x.toInt ≤ 57)) ∨ (r.toInt = 1 ∧ (48 ≤ x.toInt ∧ x.toInt ≤ 57)) → post r S) : w_X12_isDigit S x post := by
  unfold w_X12_isDigit
  refine q_isIn _ _ _ _ _ (fun r hr hb => ?_)
  rw [li_48, li_57] at hb
  exact ⟨hr, k r hr hb⟩
theorem q_isRow (S : GS) (x : Int32) (post : Int32 → GS → Prop) (k : ∀ r : Int32, (r = 0 ∨ r = 1) → (r.toInt = 0 ∧ ¬ (0 ≤ x.toInt ∧ x.toInt ≤ 5)) ∨ (r.toInt = 1 ∧ (0 ≤ x.toInt ∧ x.toInt ≤ 5)) → post r S) : w_X12_isRow S x post := by
  unfold w_X12_isRow
  refine q_isIn _ _ _ _ _ (fun r hr hb => ?_)
  rw [li_0, li_5] at hb
  exact ⟨hr, k r hr hb⟩
theorem q_isNumber (S : GS) (x : Int32) (post : Int32 → GS → Prop) (k : ∀ r : Int32, (r = 0 ∨ r = 1) → (r.toInt = 0 ∧ ¬ (0 ≤ x.toInt ∧ x.toInt ≤ 767)) ∨ (r.toInt = 1 ∧ (0 ≤ x.toInt ∧ x.toInt ≤ 767)) → post r S) : w_X12_isNumber S x post := by
  unfold w_X12_isNumber
  refine q_isIn _ _ _ _ _ (fun r hr hb => ?_)
  rw [li_0, li_767] at hb
  exact ⟨hr, k r hr hb⟩
theorem q_isNeverText (S : GS) (x : Int32) (post : Int32 → GS → Prop) (h6 : 0 ≤ (fi S 16).toInt ∧ (fi S 16).toInt ≤ 6) (k : ∀ r : Int32, (r = 0 ∨ r = 1) → (r.toInt = 0 ∧ ¬ (0 ≤ x.toInt ∧ x.toInt < (fi S 16).toInt)) ∨ (r.toInt = 1 ∧ (0 ≤ x.toInt ∧ x.toInt < (fi S 16).toInt)) → post r S) : w_X12_isNeverText S x post := by
  unfold w_X12_isNeverText
  refine q_isIn _ _ _ _ _ (fun r hr hb => ?_)
  simp (disch := omega) only [Int32.toInt_add, Int32.toInt_sub, Int32.toInt_mul, Int32.toInt_neg, Int32.toInt_div, li_0, li_1, li_2, li_3, li_4, li_5, li_6, li_7, li_8, li_9, li_10, li_11, li_12, li_13, li_14, li_15, li_16, li_20, li_21, li_22, li_23, li_24, li_25, li_26, li_27, li_28, li_29, li_30, li_31, li_32, li_35, li_36, li_40, li_41, li_42, li_43, li_45, li_48, li_50, li_51, li_57, li_59, li_60, li_61, li_62, li_63, li_64, li_97, li_99, li_100, li_122, li_200, li_255, li_302, li_303, li_304, li_305, li_306, li_307, li_308, li_309, li_310, li_311, li_312, li_313, li_314, li_315, li_316, li_317, li_318, li_319, li_400, li_700, li_701, li_720, li_767, li_768, li_999, li_1000, li_1023, li_1024, li_1440, li_18720, tdv, bm, tnc] at hb
  exact ⟨hr, k r hr (by omega)⟩
theorem q_canSearch (S : GS) (x y : Int32) (post : Int32 → GS → Prop) (k : ∀ r : Int32, (r = 0 ∨ r = 1) → (r.toInt = 0 ∧ ¬ ((1 ≤ x.toInt ∧ x.toInt ≤ 3) ∧ (0 ≤ y.toInt ∧ y.toInt ≤ 6))) ∨ (r.toInt = 1 ∧ ((1 ≤ x.toInt ∧ x.toInt ≤ 3) ∧ (0 ≤ y.toInt ∧ y.toInt ≤ 6))) → post r S) : w_X12_canSearch S x y post := by
  unfold w_X12_canSearch w_X12_canSearch_B23 w_X12_canSearch_B24
  refine q_isIn _ _ _ _ _ (fun r hr hb => ?_)
  rw [li_1, li_3] at hb
  refine ⟨fun h => ⟨Or.inl rfl, k 0 (Or.inl rfl) (Or.inl ⟨by decide, by omega⟩)⟩, fun h => ?_⟩
  refine q_isIn _ _ _ _ _ (fun r2 hr2 hb2 => ?_)
  rw [li_0, li_6] at hb2
  exact ⟨fun h2 => ⟨Or.inl rfl, k 0 (Or.inl rfl) (Or.inl ⟨by decide, by omega⟩)⟩, fun h2 => ⟨Or.inr rfl, k 1 (Or.inr rfl) (Or.inr ⟨by decide, by omega⟩)⟩⟩
theorem q_other (S : GS) (x y : Int32) (post : Int32 → GS → Prop) (h1 : 0 ≤ x.toInt ∧ x.toInt ≤ 2) (h2 : 0 ≤ y.toInt ∧ y.toInt ≤ 1) (k : ∀ r : Int32, r.toInt = (x.toInt + 1 + y.toInt) % 3 → post r S) : w_X12_other S x y post := by
  unfold w_X12_other
  refine k _ ?_
  simp (disch := omega) only [Int32.toInt_add, Int32.toInt_sub, Int32.toInt_mul, Int32.toInt_neg, Int32.toInt_div, li_0, li_1, li_2, li_3, li_4, li_5, li_6, li_7, li_8, li_9, li_10, li_11, li_12, li_13, li_14, li_15, li_16, li_20, li_21, li_22, li_23, li_24, li_25, li_26, li_27, li_28, li_29, li_30, li_31, li_32, li_35, li_36, li_40, li_41, li_42, li_43, li_45, li_48, li_50, li_51, li_57, li_59, li_60, li_61, li_62, li_63, li_64, li_97, li_99, li_100, li_122, li_200, li_255, li_302, li_303, li_304, li_305, li_306, li_307, li_308, li_309, li_310, li_311, li_312, li_313, li_314, li_315, li_316, li_317, li_318, li_319, li_400, li_700, li_701, li_720, li_767, li_768, li_999, li_1000, li_1023, li_1024, li_1440, li_18720, tdv, bm, tnc]
  omega
theorem q_see (S : GS) (x : Int32) (post : Int32 → GS → Prop) (h1 : (fi S 1).toInt ≤ 700) (h2 : 0 ≤ x.toInt) (k1 : (fi S 1).toInt ≤ x.toInt → post (-1) S) (k2 : x.toInt < (fi S 1).toInt → post (ar S 21 x.toNatClampNeg) S) : w_X12_see S x post := by
  unfold w_X12_see w_X12_see_B18
  exact ⟨k1, fun h => ⟨⟨h2, by omega⟩, k2 h⟩⟩
theorem q_stood (S : GS) (x : Int32) (post : Int32 → GS → Prop) (k : ∀ r : Int32, ((x.toInt = 3 ∧ r.toInt = 3) ∨ (x.toInt = 0 ∧ r = fi S 18) ∨ (x.toInt ≠ 3 ∧ x.toInt ≠ 0 ∧ r = fi S 19)) → post r S) : w_X12_stood S x post := by
  unfold w_X12_stood w_X12_stood_B24
  exact ⟨fun h => ⟨fun h2 => k _ (Or.inr (Or.inr ⟨h, h2, rfl⟩)), fun h2 => k _ (Or.inr (Or.inl ⟨h2, rfl⟩))⟩, fun h => k _ (Or.inl ⟨h, by decide⟩)⟩
theorem q_bad (S : GS) (x : Int32) (post : Int32 → GS → Prop) (k : post 0 (si (si S 6 x) 7 (fi S 4))) : w_X12_bad S x post := k
theorem q_bits (S : GS) (x : Int32) (post : Int32 → GS → Prop) (k : ∀ r, post r S) : w_X12_bits S x post := k _
theorem q_both (S : GS) (s x y : Int32) (post : Int32 → GS → Prop) (k : ∀ r, post r S) : w_X12_both S s x y post := by
  unfold w_X12_both w_X12_both_B70 w_X12_both_B81 w_X12_both_B92 w_X12_both_B97
  exact ⟨fun _ => k _, fun _ => k _, fun _ => k _, fun _ => ⟨fun _ => k _, fun _ => k _⟩, fun _ => ⟨fun _ => k _, fun _ => k _⟩, fun _ => ⟨fun _ => k _, fun _ => k _⟩, fun _ => k _, fun _ => k _, fun _ => k _⟩
theorem q_renamed (S : GS) (r0 v : Int32) (post : Int32 → GS → Prop) (hn : ∀ i, i < 18 → 0 ≤ (ar S 31 i).toInt ∧ (ar S 31 i).toInt ≤ 2) (h1 : 0 ≤ r0.toInt ∧ r0.toInt ≤ 5) (h2 : 0 ≤ v.toInt ∧ v.toInt ≤ 3) (k : ∀ r : Int32, ((v.toInt = 3 ∧ r.toInt = 3) ∨ (v.toInt ≠ 3 ∧ 0 ≤ r.toInt ∧ r.toInt ≤ 2)) → post r S) : w_X12_renamed S r0 v post := by
  unfold w_X12_renamed w_X12_renamed_B19
  have e : (3 * r0 + v).toInt = 3 * r0.toInt + v.toInt := by
    simp (disch := omega) only [Int32.toInt_add, Int32.toInt_sub, Int32.toInt_mul, Int32.toInt_neg, Int32.toInt_div, li_0, li_1, li_2, li_3, li_4, li_5, li_6, li_7, li_8, li_9, li_10, li_11, li_12, li_13, li_14, li_15, li_16, li_20, li_21, li_22, li_23, li_24, li_25, li_26, li_27, li_28, li_29, li_30, li_31, li_32, li_35, li_36, li_40, li_41, li_42, li_43, li_45, li_48, li_50, li_51, li_57, li_59, li_60, li_61, li_62, li_63, li_64, li_97, li_99, li_100, li_122, li_200, li_255, li_302, li_303, li_304, li_305, li_306, li_307, li_308, li_309, li_310, li_311, li_312, li_313, li_314, li_315, li_316, li_317, li_318, li_319, li_400, li_700, li_701, li_720, li_767, li_768, li_999, li_1000, li_1023, li_1024, li_1440, li_18720, tdv, bm, tnc]
  refine ⟨fun h => ⟨by omega, k _ (Or.inr ⟨h, ?_⟩)⟩, fun h => k _ (Or.inl ⟨h, by decide⟩)⟩
  exact hn _ (by rw [tnc]; omega)
theorem q_renamedCode (S : GS) (r0 c : Int32) (post : Int32 → GS → Prop) (hn : ∀ i, i < 18 → 0 ≤ (ar S 31 i).toInt ∧ (ar S 31 i).toInt ≤ 2) (h1 : 0 ≤ r0.toInt ∧ r0.toInt ≤ 35) (h2 : 0 ≤ c.toInt ∧ c.toInt ≤ 767) (k : ∀ r : Int32, post r S) : w_X12_renamedCode S r0 c post := by
  unfold w_X12_renamedCode
  have e1 : (r0 / 6).toInt = r0.toInt / 6 := by simp (disch := omega) only [Int32.toInt_add, Int32.toInt_sub, Int32.toInt_mul, Int32.toInt_neg, Int32.toInt_div, li_0, li_1, li_2, li_3, li_4, li_5, li_6, li_7, li_8, li_9, li_10, li_11, li_12, li_13, li_14, li_15, li_16, li_20, li_21, li_22, li_23, li_24, li_25, li_26, li_27, li_28, li_29, li_30, li_31, li_32, li_35, li_36, li_40, li_41, li_42, li_43, li_45, li_48, li_50, li_51, li_57, li_59, li_60, li_61, li_62, li_63, li_64, li_97, li_99, li_100, li_122, li_200, li_255, li_302, li_303, li_304, li_305, li_306, li_307, li_308, li_309, li_310, li_311, li_312, li_313, li_314, li_315, li_316, li_317, li_318, li_319, li_400, li_700, li_701, li_720, li_767, li_768, li_999, li_1000, li_1023, li_1024, li_1440, li_18720, tdv, bm, tnc]
  have e2 : (r0 - r0 / 6 * 6).toInt = r0.toInt % 6 := by
    simp (disch := omega) only [Int32.toInt_add, Int32.toInt_sub, Int32.toInt_mul, Int32.toInt_neg, Int32.toInt_div, li_0, li_1, li_2, li_3, li_4, li_5, li_6, li_7, li_8, li_9, li_10, li_11, li_12, li_13, li_14, li_15, li_16, li_20, li_21, li_22, li_23, li_24, li_25, li_26, li_27, li_28, li_29, li_30, li_31, li_32, li_35, li_36, li_40, li_41, li_42, li_43, li_45, li_48, li_50, li_51, li_57, li_59, li_60, li_61, li_62, li_63, li_64, li_97, li_99, li_100, li_122, li_200, li_255, li_302, li_303, li_304, li_305, li_306, li_307, li_308, li_309, li_310, li_311, li_312, li_313, li_314, li_315, li_316, li_317, li_318, li_319, li_400, li_700, li_701, li_720, li_767, li_768, li_999, li_1000, li_1023, li_1024, li_1440, li_18720, tdv, bm, tnc]
    omega
  have e3 : ((c / 16) - (c / 16) / 4 * 4).toInt = c.toInt / 16 % 4 := by
    simp (disch := omega) only [Int32.toInt_add, Int32.toInt_sub, Int32.toInt_mul, Int32.toInt_neg, Int32.toInt_div, li_0, li_1, li_2, li_3, li_4, li_5, li_6, li_7, li_8, li_9, li_10, li_11, li_12, li_13, li_14, li_15, li_16, li_20, li_21, li_22, li_23, li_24, li_25, li_26, li_27, li_28, li_29, li_30, li_31, li_32, li_35, li_36, li_40, li_41, li_42, li_43, li_45, li_48, li_50, li_51, li_57, li_59, li_60, li_61, li_62, li_63, li_64, li_97, li_99, li_100, li_122, li_200, li_255, li_302, li_303, li_304, li_305, li_306, li_307, li_308, li_309, li_310, li_311, li_312, li_313, li_314, li_315, li_316, li_317, li_318, li_319, li_400, li_700, li_701, li_720, li_767, li_768, li_999, li_1000, li_1023, li_1024, li_1440, li_18720, tdv, bm, tnc]
    omega
  have e4 : ((c / 4) - (c / 4) / 4 * 4).toInt = c.toInt / 4 % 4 := by
    simp (disch := omega) only [Int32.toInt_add, Int32.toInt_sub, Int32.toInt_mul, Int32.toInt_neg, Int32.toInt_div, li_0, li_1, li_2, li_3, li_4, li_5, li_6, li_7, li_8, li_9, li_10, li_11, li_12, li_13, li_14, li_15, li_16, li_20, li_21, li_22, li_23, li_24, li_25, li_26, li_27, li_28, li_29, li_30, li_31, li_32, li_35, li_36, li_40, li_41, li_42, li_43, li_45, li_48, li_50, li_51, li_57, li_59, li_60, li_61, li_62, li_63, li_64, li_97, li_99, li_100, li_122, li_200, li_255, li_302, li_303, li_304, li_305, li_306, li_307, li_308, li_309, li_310, li_311, li_312, li_313, li_314, li_315, li_316, li_317, li_318, li_319, li_400, li_700, li_701, li_720, li_767, li_768, li_999, li_1000, li_1023, li_1024, li_1440, li_18720, tdv, bm, tnc]
    omega
  have e5 : (c - c / 4 * 4).toInt = c.toInt % 4 := by
    simp (disch := omega) only [Int32.toInt_add, Int32.toInt_sub, Int32.toInt_mul, Int32.toInt_neg, Int32.toInt_div, li_0, li_1, li_2, li_3, li_4, li_5, li_6, li_7, li_8, li_9, li_10, li_11, li_12, li_13, li_14, li_15, li_16, li_20, li_21, li_22, li_23, li_24, li_25, li_26, li_27, li_28, li_29, li_30, li_31, li_32, li_35, li_36, li_40, li_41, li_42, li_43, li_45, li_48, li_50, li_51, li_57, li_59, li_60, li_61, li_62, li_63, li_64, li_97, li_99, li_100, li_122, li_200, li_255, li_302, li_303, li_304, li_305, li_306, li_307, li_308, li_309, li_310, li_311, li_312, li_313, li_314, li_315, li_316, li_317, li_318, li_319, li_400, li_700, li_701, li_720, li_767, li_768, li_999, li_1000, li_1023, li_1024, li_1440, li_18720, tdv, bm, tnc]
    omega
  refine q_renamed _ _ _ _ hn (by omega) (by omega) (fun _ _ => ?_)
  refine q_renamed _ _ _ _ hn (by omega) (by omega) (fun _ _ => ?_)
  refine q_renamed _ _ _ _ hn (by omega) (by omega) (fun _ _ => ?_)
  exact k _
theorem q_isAct (S : GS) (x : Int32) (post : Int32 → GS → Prop) (k : ∀ r : Int32, (r = 0 ∨ r = 1) → (r.toInt = 0 ∧ ¬ ((0 ≤ x.toInt ∧ x.toInt ≤ 11) ∧ x.toInt % 6 < (ar S 7 (x.toInt / 6).toNat).toInt)) ∨ (r.toInt = 1 ∧ ((0 ≤ x.toInt ∧ x.toInt ≤ 11) ∧ x.toInt % 6 < (ar S 7 (x.toInt / 6).toNat).toInt)) → post r S) : w_X12_isAct S x post := by
  unfold w_X12_isAct w_X12_isAct_B30 w_X12_isAct_B31
  refine q_isIn _ _ _ _ _ (fun r hr hb => ?_)
  rw [li_0, li_11] at hb
  refine ⟨fun h => ⟨Or.inl rfl, k 0 (Or.inl rfl) (Or.inl ⟨by decide, by omega⟩)⟩, fun h => ?_⟩
  have hx : 0 ≤ x.toInt ∧ x.toInt ≤ 11 := by omega
  have e1 : (x / 6).toInt = x.toInt / 6 := by simp (disch := omega) only [Int32.toInt_add, Int32.toInt_sub, Int32.toInt_mul, Int32.toInt_neg, Int32.toInt_div, li_0, li_1, li_2, li_3, li_4, li_5, li_6, li_7, li_8, li_9, li_10, li_11, li_12, li_13, li_14, li_15, li_16, li_20, li_21, li_22, li_23, li_24, li_25, li_26, li_27, li_28, li_29, li_30, li_31, li_32, li_35, li_36, li_40, li_41, li_42, li_43, li_45, li_48, li_50, li_51, li_57, li_59, li_60, li_61, li_62, li_63, li_64, li_97, li_99, li_100, li_122, li_200, li_255, li_302, li_303, li_304, li_305, li_306, li_307, li_308, li_309, li_310, li_311, li_312, li_313, li_314, li_315, li_316, li_317, li_318, li_319, li_400, li_700, li_701, li_720, li_767, li_768, li_999, li_1000, li_1023, li_1024, li_1440, li_18720, tdv, bm, tnc]
  have e2 : (x - x / 6 * 6).toInt = x.toInt % 6 := by
    simp (disch := omega) only [Int32.toInt_add, Int32.toInt_sub, Int32.toInt_mul, Int32.toInt_neg, Int32.toInt_div, li_0, li_1, li_2, li_3, li_4, li_5, li_6, li_7, li_8, li_9, li_10, li_11, li_12, li_13, li_14, li_15, li_16, li_20, li_21, li_22, li_23, li_24, li_25, li_26, li_27, li_28, li_29, li_30, li_31, li_32, li_35, li_36, li_40, li_41, li_42, li_43, li_45, li_48, li_50, li_51, li_57, li_59, li_60, li_61, li_62, li_63, li_64, li_97, li_99, li_100, li_122, li_200, li_255, li_302, li_303, li_304, li_305, li_306, li_307, li_308, li_309, li_310, li_311, li_312, li_313, li_314, li_315, li_316, li_317, li_318, li_319, li_400, li_700, li_701, li_720, li_767, li_768, li_999, li_1000, li_1023, li_1024, li_1440, li_18720, tdv, bm, tnc]
    omega
  have e3 : (x / 6).toNatClampNeg = (x.toInt / 6).toNat := by rw [tnc, e1]
  rw [e1, e2, e3]
  refine ⟨by omega, fun h2 => ⟨Or.inl rfl, k 0 (Or.inl rfl) (Or.inl ⟨by decide, by omega⟩)⟩, fun h2 => ⟨Or.inr rfl, k 1 (Or.inr rfl) (Or.inr ⟨by decide, by omega⟩)⟩⟩
theorem q_fact (S : GS) (s v : Int32) (post : Int32 → GS → Prop) (ha : 0 ≤ (fi S 18).toInt ∧ (fi S 18).toInt ≤ 3) (hb : 0 ≤ (fi S 19).toInt ∧ (fi S 19).toInt ≤ 3) (ht : 0 ≤ (fi S 20).toInt ∧ (fi S 20).toInt ≤ 3) (k : ∀ r, post r S) : w_X12_fact S s v post := by
  have lp : ∀ p : Int32, ∃ n, lpn (w_X12_fact_F216 post (w_X12_fact_B249 post)) (fun _ _ _ _ => False) n S p 0 0 := by
    intro p
    refine lr4 (fun S' _ _ j => S' = S ∧ 0 ≤ j.toInt ∧ j.toInt ≤ 3) (fun _ _ _ j => (3 - j.toInt).toNat) ?_ _ _ _ _ ⟨rfl, by decide⟩
    rintro kk S' p' n' j ⟨rfl, h0, h3⟩ hk
    unfold w_X12_fact_F216 w_X12_fact_B240 w_X12_fact_B249
    have e : j.toInt < 3 → (j + 1).toInt = j.toInt + 1 := fun h => by simp (disch := omega) only [Int32.toInt_add, Int32.toInt_sub, Int32.toInt_mul, Int32.toInt_neg, Int32.toInt_div, li_0, li_1, li_2, li_3, li_4, li_5, li_6, li_7, li_8, li_9, li_10, li_11, li_12, li_13, li_14, li_15, li_16, li_20, li_21, li_22, li_23, li_24, li_25, li_26, li_27, li_28, li_29, li_30, li_31, li_32, li_35, li_36, li_40, li_41, li_42, li_43, li_45, li_48, li_50, li_51, li_57, li_59, li_60, li_61, li_62, li_63, li_64, li_97, li_99, li_100, li_122, li_200, li_255, li_302, li_303, li_304, li_305, li_306, li_307, li_308, li_309, li_310, li_311, li_312, li_313, li_314, li_315, li_316, li_317, li_318, li_319, li_400, li_700, li_701, li_720, li_767, li_768, li_999, li_1000, li_1023, li_1024, li_1440, li_18720, tdv, bm, tnc]
    refine ⟨fun _ => k _, fun h => ⟨⟨h0, h⟩, fun _ => ?_, fun _ => ?_⟩⟩
    · exact hk _ _ _ _ ⟨rfl, by rw [e h]; omega, by rw [e h]; omega⟩ (by rw [e h]; omega)
    · exact hk _ _ _ _ ⟨rfl, by rw [e h]; omega, by rw [e h]; omega⟩ (by rw [e h]; omega)
  have h90 : ∀ p q : Int32, 0 ≤ p.toInt ∧ p.toInt ≤ 2 → (s.toInt = 2 ∨ s.toInt = 3 ∨ s.toInt = 4 → 0 ≤ q.toInt ∧ q.toInt ≤ 2) → w_X12_fact_B90 post S s p q := by
    intro p q hp hq
    unfold w_X12_fact_B90 w_X12_fact_B162 w_X12_fact_B182 w_X12_fact_B208 w_X12_fact_B209
    have e : (s.toInt = 2 ∨ s.toInt = 3 ∨ s.toInt = 4) → (3 * p + q).toInt = 3 * p.toInt + q.toInt := fun h => by
      have := hq h
      simp (disch := omega) only [Int32.toInt_add, Int32.toInt_sub, Int32.toInt_mul, Int32.toInt_neg, Int32.toInt_div, li_0, li_1, li_2, li_3, li_4, li_5, li_6, li_7, li_8, li_9, li_10, li_11, li_12, li_13, li_14, li_15, li_16, li_20, li_21, li_22, li_23, li_24, li_25, li_26, li_27, li_28, li_29, li_30, li_31, li_32, li_35, li_36, li_40, li_41, li_42, li_43, li_45, li_48, li_50, li_51, li_57, li_59, li_60, li_61, li_62, li_63, li_64, li_97, li_99, li_100, li_122, li_200, li_255, li_302, li_303, li_304, li_305, li_306, li_307, li_308, li_309, li_310, li_311, li_312, li_313, li_314, li_315, li_316, li_317, li_318, li_319, li_400, li_700, li_701, li_720, li_767, li_768, li_999, li_1000, li_1023, li_1024, li_1440, li_18720, tdv, bm, tnc]
    refine ⟨fun _ => ⟨by omega, k _⟩, fun h => ⟨?_, k _⟩, fun h => ⟨?_, fun _ => k _, fun _ => k _⟩, fun h => ⟨?_, fun _ => k _, fun _ => k _⟩, fun _ => ⟨fun _ => k _, fun _ => ⟨by omega, fun _ => k _, fun _ => k _⟩⟩, fun _ => lp p⟩
    · have := hq (Or.inl h); rw [e (Or.inl h)]; omega
    · have := hq (Or.inr (Or.inl h)); rw [e (Or.inr (Or.inl h))]; omega
    · have := hq (Or.inr (Or.inr h)); rw [e (Or.inr (Or.inr h))]; omega
  have h70 : ∀ p q y : Int32, 0 ≤ p.toInt ∧ p.toInt ≤ 3 → 0 ≤ q.toInt ∧ q.toInt ≤ 3 → (s.toInt = 2 ∨ s.toInt = 3 ∨ s.toInt = 4 → y.toInt ≠ 0) → w_X12_fact_B70 post S s p q y := by
    intro p q y hp hq hy
    unfold w_X12_fact_B70 w_X12_fact_B88
    refine ⟨fun _ => k _, fun h => ⟨fun h2 => h90 p q (by omega) (fun h3 => absurd h2 (hy h3)), fun _ => ⟨fun h4 => h90 p q (by omega) (fun _ => by omega), fun _ => k _⟩⟩⟩
  have h31 : ∀ p q : Int32, 0 ≤ p.toInt ∧ p.toInt ≤ 3 → 0 ≤ q.toInt ∧ q.toInt ≤ 3 → w_X12_fact_B31 post S s v p q := by
    intro p q hp hq
    unfold w_X12_fact_B31 w_X12_fact_B65
    have h1 : (1 : Int32).toInt ≠ 0 := by decide
    exact ⟨fun _ => ⟨fun _ => ⟨fun _ => h70 p q 1 hp hq (fun _ => h1), fun _ => ⟨fun _ => h70 p q 1 hp hq (fun _ => h1), fun _ => ⟨fun _ => h70 p q 0 hp hq (fun h => by omega), fun _ => h70 p q 1 hp hq (fun _ => h1)⟩⟩⟩, fun _ => k _⟩, fun _ => k _⟩
  unfold w_X12_fact w_X12_fact_B15
  exact ⟨fun _ => ⟨fun _ => h31 _ _ hb ha, fun _ => h31 _ _ hb hb⟩, fun _ => ⟨fun _ => h31 _ _ ha ha, fun _ => h31 _ _ ha hb⟩⟩
