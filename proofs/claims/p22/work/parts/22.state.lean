/-- WED and CHILD are 0 or 1; no debt to oneself; the renamings -/
def BR (S : GS) : Prop := (∀ i, i < 9 → ((ar S 3 i = 0 ∨ ar S 3 i = 1) ∧ (ar S 4 i = 0 ∨ ar S 4 i = 1))) ∧ (∀ i, i = 0 ∨ i = 4 ∨ i = 8 → ar S 1 i = 0) ∧ ∀ i, i < 18 → ar S 31 i = becI i
theorem BR.si {S : GS} {k : Nat} {x : Int32} (h : BR S) : BR (si S k x) := h
theorem BR.sl {S : GS} {k : Nat} {x : Int64} (h : BR S) : BR (sl S k x) := h
theorem BR.sn {S : GS} {j i : Nat} {x : Int32} (hj : j ≠ 1 ∧ j ≠ 31 ∧ j ≠ 3 ∧ j ≠ 4) (h : BR S) : BR (su S j i x) := by
  obtain ⟨h1, h2, h3⟩ := h
  refine ⟨fun k hk => ?_, fun k hk => ?_, fun k hk => ?_⟩
  · show ((su S j i x).2.2.1 3 k = 0 ∨ (su S j i x).2.2.1 3 k = 1) ∧ ((su S j i x).2.2.1 4 k = 0 ∨ (su S j i x).2.2.1 4 k = 1)
    rw [su_ne (fun e => hj.2.2.1 e.symm), su_ne (fun e => hj.2.2.2 e.symm)]
    exact h1 k hk
  · show (su S j i x).2.2.1 1 k = 0
    rw [su_ne (fun e => hj.1 e.symm)]
    exact h2 k hk
  · show (su S j i x).2.2.1 31 k = becI k
    rw [su_ne (fun e => hj.2.1 e.symm)]
    exact h3 k hk
theorem BR.s1 {S : GS} {n : Nat} {x : Int32} (hx : n = 0 ∨ n = 4 ∨ n = 8 → x = 0) (h : BR S) : BR (su S 1 n x) := by
  obtain ⟨h1, h2, h3⟩ := h
  refine ⟨fun k hk => ?_, fun k hk => ?_, fun k hk => ?_⟩
  · show ((su S 1 n x).2.2.1 3 k = 0 ∨ (su S 1 n x).2.2.1 3 k = 1) ∧ ((su S 1 n x).2.2.1 4 k = 0 ∨ (su S 1 n x).2.2.1 4 k = 1)
    rw [su_ne (by decide), su_ne (by decide)]
    exact h1 k hk
  · show (su S 1 n x).2.2.1 1 k = 0
    rw [su_at]
    by_cases e : k = n
    · rw [e, upd_at]; exact hx (e ▸ hk)
    · rw [upd_ne e]; exact h2 k hk
  · show (su S 1 n x).2.2.1 31 k = becI k
    rw [su_ne (by decide)]
    exact h3 k hk
theorem up_bool {f : Nat → Int32} {i k : Nat} {x : Int32} (hx : x = 0 ∨ x = 1) (h : f k = 0 ∨ f k = 1) : upd f i x k = 0 ∨ upd f i x k = 1 := by
  by_cases e : k = i
  · subst e; rw [upd_at]; exact hx
  · rw [upd_ne e]; exact h
theorem BR.s3 {S : GS} {i : Nat} {x : Int32} (hx : x = 0 ∨ x = 1) (h : BR S) : BR (su S 3 i x) := by
  obtain ⟨h1, h2, h3⟩ := h
  refine ⟨fun k hk => ?_, fun k hk => ?_, fun k hk => ?_⟩
  · show ((su S 3 i x).2.2.1 3 k = 0 ∨ (su S 3 i x).2.2.1 3 k = 1) ∧ ((su S 3 i x).2.2.1 4 k = 0 ∨ (su S 3 i x).2.2.1 4 k = 1)
    rw [su_at, su_ne (by decide)]
    exact ⟨up_bool hx (h1 k hk).1, (h1 k hk).2⟩
  · show (su S 3 i x).2.2.1 1 k = 0
    rw [su_ne (by decide)]; exact h2 k hk
  · show (su S 3 i x).2.2.1 31 k = becI k
    rw [su_ne (by decide)]; exact h3 k hk
theorem BR.s4 {S : GS} {i : Nat} {x : Int32} (hx : x = 0 ∨ x = 1) (h : BR S) : BR (su S 4 i x) := by
  obtain ⟨h1, h2, h3⟩ := h
  refine ⟨fun k hk => ?_, fun k hk => ?_, fun k hk => ?_⟩
  · show ((su S 4 i x).2.2.1 3 k = 0 ∨ (su S 4 i x).2.2.1 3 k = 1) ∧ ((su S 4 i x).2.2.1 4 k = 0 ∨ (su S 4 i x).2.2.1 4 k = 1)
    rw [su_at, su_ne (by decide)]
    exact ⟨(h1 k hk).1, up_bool hx (h1 k hk).2⟩
  · show (su S 4 i x).2.2.1 1 k = 0
    rw [su_ne (by decide)]; exact h2 k hk
  · show (su S 4 i x).2.2.1 31 k = becI k
    rw [su_ne (by decide)]; exact h3 k hk
theorem q_packs (S : GS) (post : Int64 → GS → Prop) (k : ∀ v, post v S) : w_X12_packs S post := by
  unfold w_X12_packs
  refine lr3 (fun S' _ j => S' = S ∧ 0 ≤ j.toInt ∧ j.toInt ≤ 3) (fun _ _ j => (3 - j.toInt).toNat) ?_ _ _ _ ⟨rfl, by decide⟩
  rintro kk S' v j ⟨rfl, h0, h3⟩ hk
  unfold w_X12_packs_F8
  refine ⟨fun _ => k _, fun h => ⟨⟨h0, h⟩, ⟨h0, h⟩, ?_⟩⟩
  have e : (j + 1).toInt = j.toInt + 1 := by simp (disch := omega) only [Int32.toInt_add, Int32.toInt_sub, Int32.toInt_mul, Int32.toInt_neg, Int32.toInt_div, li_0, li_1, li_2, li_3, li_4, li_5, li_6, li_7, li_8, li_9, li_10, li_11, li_12, li_13, li_14, li_15, li_16, li_20, li_21, li_22, li_23, li_24, li_25, li_26, li_27, li_28, li_29, li_30, li_31, li_32, li_35, li_36, li_40, li_41, li_42, li_43, li_45, li_48, li_50, li_51, li_57, li_59, li_60, li_61, li_62, li_63, li_64, li_97, li_99, li_100, li_122, li_200, li_255, li_302, li_303, li_304, li_305, li_306, li_307, li_308, li_309, li_310, li_311, li_312, li_313, li_314, li_315, li_316, li_317, li_318, li_319, li_400, li_700, li_701, li_720, li_767, li_768, li_999, li_1000, li_1023, li_1024, li_1440, li_18720, tdv, bm, tnc]
  have inner : ∀ y0 y1 : Int64, w_X12_packs_B62 post kk (w_X12_packs_B134 post) S' j y0 y1 := by
    intro y0 y1
    unfold w_X12_packs_B62
    refine lr4 (fun T _ i x => T = S' ∧ i = j ∧ 0 ≤ x.toInt ∧ x.toInt ≤ 2) (fun _ _ _ x => (2 - x.toInt).toNat) ?_ _ _ _ _ ⟨rfl, rfl, by decide⟩
    rintro kk2 T v2 i x ⟨rfl, rfl, g0, g2⟩ hk2
    unfold w_X12_packs_F67
    have e2 : x.toInt < 2 → (x + 1).toInt = x.toInt + 1 := fun h => by simp (disch := omega) only [Int32.toInt_add, Int32.toInt_sub, Int32.toInt_mul, Int32.toInt_neg, Int32.toInt_div, li_0, li_1, li_2, li_3, li_4, li_5, li_6, li_7, li_8, li_9, li_10, li_11, li_12, li_13, li_14, li_15, li_16, li_20, li_21, li_22, li_23, li_24, li_25, li_26, li_27, li_28, li_29, li_30, li_31, li_32, li_35, li_36, li_40, li_41, li_42, li_43, li_45, li_48, li_50, li_51, li_57, li_59, li_60, li_61, li_62, li_63, li_64, li_97, li_99, li_100, li_122, li_200, li_255, li_302, li_303, li_304, li_305, li_306, li_307, li_308, li_309, li_310, li_311, li_312, li_313, li_314, li_315, li_316, li_317, li_318, li_319, li_400, li_700, li_701, li_720, li_767, li_768, li_999, li_1000, li_1023, li_1024, li_1440, li_18720, tdv, bm, tnc]
    refine ⟨fun _ => ?_, fun g => ?_⟩
    · unfold w_X12_packs_B128
      exact hk _ _ _ ⟨rfl, by omega, by omega⟩ (by omega)
    · have hb : ∀ r : Int32, r.toInt = (i.toInt + 1 + x.toInt) % 3 → 0 ≤ (3 * i + r).toInt ∧ (3 * i + r).toInt < 9 := by
        intro r hr
        simp (disch := omega) only [Int32.toInt_add, Int32.toInt_sub, Int32.toInt_mul, Int32.toInt_neg, Int32.toInt_div, li_0, li_1, li_2, li_3, li_4, li_5, li_6, li_7, li_8, li_9, li_10, li_11, li_12, li_13, li_14, li_15, li_16, li_20, li_21, li_22, li_23, li_24, li_25, li_26, li_27, li_28, li_29, li_30, li_31, li_32, li_35, li_36, li_40, li_41, li_42, li_43, li_45, li_48, li_50, li_51, li_57, li_59, li_60, li_61, li_62, li_63, li_64, li_97, li_99, li_100, li_122, li_200, li_255, li_302, li_303, li_304, li_305, li_306, li_307, li_308, li_309, li_310, li_311, li_312, li_313, li_314, li_315, li_316, li_317, li_318, li_319, li_400, li_700, li_701, li_720, li_767, li_768, li_999, li_1000, li_1023, li_1024, li_1440, li_18720, tdv, bm, tnc]
        omega
      refine q_other _ _ _ _ (by omega) (by omega) (fun r hr => ⟨hb r hr, ?_⟩)
      refine q_other _ _ _ _ (by omega) (by omega) (fun r2 hr2 => ⟨hb r2 hr2, ?_⟩)
      unfold w_X12_packs_B120
      have := e2 g
      exact ⟨fun _ => hk2 _ _ _ _ ⟨rfl, rfl, by omega, by omega⟩ (by omega), fun _ => hk2 _ _ _ _ ⟨rfl, rfl, by omega, by omega⟩ (by omega)⟩
  refine q_other _ _ _ _ (by omega) (by decide) (fun r hr => ⟨?_, fun _ => inner _ _, fun _ => inner _ _⟩)
  rw [li_0] at hr
  simp (disch := omega) only [Int32.toInt_add, Int32.toInt_sub, Int32.toInt_mul, Int32.toInt_neg, Int32.toInt_div, li_0, li_1, li_2, li_3, li_4, li_5, li_6, li_7, li_8, li_9, li_10, li_11, li_12, li_13, li_14, li_15, li_16, li_20, li_21, li_22, li_23, li_24, li_25, li_26, li_27, li_28, li_29, li_30, li_31, li_32, li_35, li_36, li_40, li_41, li_42, li_43, li_45, li_48, li_50, li_51, li_57, li_59, li_60, li_61, li_62, li_63, li_64, li_97, li_99, li_100, li_122, li_200, li_255, li_302, li_303, li_304, li_305, li_306, li_307, li_308, li_309, li_310, li_311, li_312, li_313, li_314, li_315, li_316, li_317, li_318, li_319, li_400, li_700, li_701, li_720, li_767, li_768, li_999, li_1000, li_1023, li_1024, li_1440, li_18720, tdv, bm, tnc]
  omega
/-- behind takes -/
def TK (S0 S : GS) (p : Int) : Prop := Fr [0] [] [0, 1, 2, 3, 4] [] S0 S ∧ (BR S0 → BR S) ∧ ∀ i : Nat, p < i → i ≤ 2 → 0 ≤ (ar S 2 i).toInt ∧ (ar S 2 i).toInt ≤ 3
theorem q_takes (S : GS) (v : Int64) (post : GS → Prop) (k : ∀ S', TK S S' (-1) → post S') : w_X12_takes S v post := by
  unfold w_X12_takes
  refine lr3 (fun S' _ j => -1 ≤ j.toInt ∧ j.toInt ≤ 2 ∧ TK S S' j.toInt) (fun _ _ j => (j.toInt + 1).toNat) ?_ _ _ _ ⟨by decide, by decide, Fr.rf, id, fun i h1 h2 => by rw [li_2] at h1; omega⟩
  rintro kk S' v j ⟨h0, h3, hT⟩ hk
  unfold w_X12_takes_F5
  refine ⟨fun h => ?_, fun h => ?_⟩
  · unfold w_X12_takes_B181
    have e : j.toInt = -1 := by omega
    rw [e] at hT
    exact k _ ⟨Fr.si (by decide) hT.1, fun b => BR.si (hT.2.1 b), hT.2.2⟩
  · refine lr4 (fun T _ i x => i = j ∧ -1 ≤ x.toInt ∧ x.toInt ≤ 1 ∧ TK S T j.toInt) (fun _ _ _ x => (x.toInt + 1).toNat) ?_ _ _ _ _ ⟨rfl, by decide, by decide, hT⟩
    rintro kk2 T v2 i x ⟨rfl, g0, g2, gT⟩ hk2
    unfold w_X12_takes_F13
    refine ⟨fun g => ?_, fun g => ?_⟩
    · unfold w_X12_takes_B83
      refine q_other _ _ _ _ (by omega) (by decide) (fun r hr => ?_)
      rw [li_0] at hr
      have e1 : (3 * i + r).toInt = 3 * i.toInt + r.toInt := by simp (disch := omega) only [Int32.toInt_add, Int32.toInt_sub, Int32.toInt_mul, Int32.toInt_neg, Int32.toInt_div, li_0, li_1, li_2, li_3, li_4, li_5, li_6, li_7, li_8, li_9, li_10, li_11, li_12, li_13, li_14, li_15, li_16, li_20, li_21, li_22, li_23, li_24, li_25, li_26, li_27, li_28, li_29, li_30, li_31, li_32, li_35, li_36, li_40, li_41, li_42, li_43, li_45, li_48, li_50, li_51, li_57, li_59, li_60, li_61, li_62, li_63, li_64, li_97, li_99, li_100, li_122, li_200, li_255, li_302, li_303, li_304, li_305, li_306, li_307, li_308, li_309, li_310, li_311, li_312, li_313, li_314, li_315, li_316, li_317, li_318, li_319, li_400, li_700, li_701, li_720, li_767, li_768, li_999, li_1000, li_1023, li_1024, li_1440, li_18720, tdv, bm, tnc]
      have e2 : (3 * r + i).toInt = 3 * r.toInt + i.toInt := by simp (disch := omega) only [Int32.toInt_add, Int32.toInt_sub, Int32.toInt_mul, Int32.toInt_neg, Int32.toInt_div, li_0, li_1, li_2, li_3, li_4, li_5, li_6, li_7, li_8, li_9, li_10, li_11, li_12, li_13, li_14, li_15, li_16, li_20, li_21, li_22, li_23, li_24, li_25, li_26, li_27, li_28, li_29, li_30, li_31, li_32, li_35, li_36, li_40, li_41, li_42, li_43, li_45, li_48, li_50, li_51, li_57, li_59, li_60, li_61, li_62, li_63, li_64, li_97, li_99, li_100, li_122, li_200, li_255, li_302, li_303, li_304, li_305, li_306, li_307, li_308, li_309, li_310, li_311, li_312, li_313, li_314, li_315, li_316, li_317, li_318, li_319, li_400, li_700, li_701, li_720, li_767, li_768, li_999, li_1000, li_1023, li_1024, li_1440, li_18720, tdv, bm, tnc]
      have e3 : (i + -1).toInt = i.toInt - 1 := by
        simp (disch := omega) only [Int32.toInt_add, Int32.toInt_sub, Int32.toInt_mul, Int32.toInt_neg, Int32.toInt_div, li_0, li_1, li_2, li_3, li_4, li_5, li_6, li_7, li_8, li_9, li_10, li_11, li_12, li_13, li_14, li_15, li_16, li_20, li_21, li_22, li_23, li_24, li_25, li_26, li_27, li_28, li_29, li_30, li_31, li_32, li_35, li_36, li_40, li_41, li_42, li_43, li_45, li_48, li_50, li_51, li_57, li_59, li_60, li_61, li_62, li_63, li_64, li_97, li_99, li_100, li_122, li_200, li_255, li_302, li_303, li_304, li_305, li_306, li_307, li_308, li_309, li_310, li_311, li_312, li_313, li_314, li_315, li_316, li_317, li_318, li_319, li_400, li_700, li_701, li_720, li_767, li_768, li_999, li_1000, li_1023, li_1024, li_1440, li_18720, tdv, bm, tnc]
        omega
      have fin : ∀ y : Int32, (y = 0 ∨ y = 1) → w_X12_takes_B115 post kk (w_X12_takes_B181 post) T v2 i r y (3 * i + r) := by
        intro y hy
        unfold w_X12_takes_B115
        have hy2 : upd (ar T 3) (3 * i + r).toNatClampNeg y (3 * i + r).toNatClampNeg = y := upd_at _ _ _
        rw [hy2]
        refine ⟨by omega, hy, by omega, by omega, hy, by omega, by omega, ?_⟩
        refine hk _ _ _ ⟨by omega, by omega, ?_, ?_, ?_⟩ (by omega)
        · exact Fr.su (by decide) (Fr.su (by decide) (Fr.su (by decide) (Fr.su (by decide) gT.1)))
        · exact fun b => BR.sn (by decide) (BR.sn (by decide) (BR.s3 hy (BR.s3 hy (gT.2.1 b))))
        · intro q q1 q2
          rw [e3] at q1
          simp (disch := omega) only [si_at, si_ne, si_2, sl_at, sl_ne, sl_1, sl_2, su_at, su_ne, su_1, su_2, su_3, sv_at, sv_ne, sv_1, sv_2, sv_3, upd_at, upd_ne, upl_at, upl_ne, Int32.toInt_add, Int32.toInt_sub, Int32.toInt_mul, Int32.toInt_neg, Int32.toInt_div, li_0, li_1, li_2, li_3, li_4, li_5, li_6, li_7, li_8, li_9, li_10, li_11, li_12, li_13, li_14, li_15, li_16, li_20, li_21, li_22, li_23, li_24, li_25, li_26, li_27, li_28, li_29, li_30, li_31, li_32, li_35, li_36, li_40, li_41, li_42, li_43, li_45, li_48, li_50, li_51, li_57, li_59, li_60, li_61, li_62, li_63, li_64, li_97, li_99, li_100, li_122, li_200, li_255, li_302, li_303, li_304, li_305, li_306, li_307, li_308, li_309, li_310, li_311, li_312, li_313, li_314, li_315, li_316, li_317, li_318, li_319, li_400, li_700, li_701, li_720, li_767, li_768, li_999, li_1000, li_1023, li_1024, li_1440, li_18720, tdv, bm, tnc]
          by_cases hq : q = i.toInt.toNat
          · rw [hq, upd_at]
            have := l_ai (a := v2 >>> ((1 : Int32).toInt64 &&& 63)) (c := 3) 3 (by decide) (by decide) (by decide)
            omega
          · rw [upd_ne hq]
            exact gT.2.2 q (by omega) q2
      exact ⟨fun _ => fin 0 (Or.inl rfl), fun _ => fin 1 (Or.inr rfl)⟩
    · refine q_other _ _ _ _ (by omega) (by omega) (fun r hr => ?_)
      have e1 : (3 * i + r).toInt = 3 * i.toInt + r.toInt := by simp (disch := omega) only [Int32.toInt_add, Int32.toInt_sub, Int32.toInt_mul, Int32.toInt_neg, Int32.toInt_div, li_0, li_1, li_2, li_3, li_4, li_5, li_6, li_7, li_8, li_9, li_10, li_11, li_12, li_13, li_14, li_15, li_16, li_20, li_21, li_22, li_23, li_24, li_25, li_26, li_27, li_28, li_29, li_30, li_31, li_32, li_35, li_36, li_40, li_41, li_42, li_43, li_45, li_48, li_50, li_51, li_57, li_59, li_60, li_61, li_62, li_63, li_64, li_97, li_99, li_100, li_122, li_200, li_255, li_302, li_303, li_304, li_305, li_306, li_307, li_308, li_309, li_310, li_311, li_312, li_313, li_314, li_315, li_316, li_317, li_318, li_319, li_400, li_700, li_701, li_720, li_767, li_768, li_999, li_1000, li_1023, li_1024, li_1440, li_18720, tdv, bm, tnc]
      have e3 : (x + -1).toInt = x.toInt - 1 := by
        simp (disch := omega) only [Int32.toInt_add, Int32.toInt_sub, Int32.toInt_mul, Int32.toInt_neg, Int32.toInt_div, li_0, li_1, li_2, li_3, li_4, li_5, li_6, li_7, li_8, li_9, li_10, li_11, li_12, li_13, li_14, li_15, li_16, li_20, li_21, li_22, li_23, li_24, li_25, li_26, li_27, li_28, li_29, li_30, li_31, li_32, li_35, li_36, li_40, li_41, li_42, li_43, li_45, li_48, li_50, li_51, li_57, li_59, li_60, li_61, li_62, li_63, li_64, li_97, li_99, li_100, li_122, li_200, li_255, li_302, li_303, li_304, li_305, li_306, li_307, li_308, li_309, li_310, li_311, li_312, li_313, li_314, li_315, li_316, li_317, li_318, li_319, li_400, li_700, li_701, li_720, li_767, li_768, li_999, li_1000, li_1023, li_1024, li_1440, li_18720, tdv, bm, tnc]
        omega
      have fin : ∀ y : Int32, (y = 0 ∨ y = 1) → w_X12_takes_B47 post kk2 (w_X12_takes_B83 post kk (w_X12_takes_B181 post)) T v2 i x y (3 * i + r) := by
        intro y hy
        unfold w_X12_takes_B47
        refine ⟨by omega, hy, ?_⟩
        refine q_other _ _ _ _ (by omega) (by omega) (fun r2 hr2 => ?_)
        have e4 : (3 * i + r2).toInt = 3 * i.toInt + r2.toInt := by simp (disch := omega) only [Int32.toInt_add, Int32.toInt_sub, Int32.toInt_mul, Int32.toInt_neg, Int32.toInt_div, li_0, li_1, li_2, li_3, li_4, li_5, li_6, li_7, li_8, li_9, li_10, li_11, li_12, li_13, li_14, li_15, li_16, li_20, li_21, li_22, li_23, li_24, li_25, li_26, li_27, li_28, li_29, li_30, li_31, li_32, li_35, li_36, li_40, li_41, li_42, li_43, li_45, li_48, li_50, li_51, li_57, li_59, li_60, li_61, li_62, li_63, li_64, li_97, li_99, li_100, li_122, li_200, li_255, li_302, li_303, li_304, li_305, li_306, li_307, li_308, li_309, li_310, li_311, li_312, li_313, li_314, li_315, li_316, li_317, li_318, li_319, li_400, li_700, li_701, li_720, li_767, li_768, li_999, li_1000, li_1023, li_1024, li_1440, li_18720, tdv, bm, tnc]
        refine ⟨by omega, hk2 _ _ _ _ ⟨rfl, by omega, by omega, ?_, ?_, ?_⟩ (by omega)⟩
        · exact Fr.su (by decide) (Fr.su (by decide) gT.1)
        · exact fun b => BR.s1 (fun z => by exfalso; rw [tnc] at z; omega) (BR.s4 hy (gT.2.1 b))
        · intro q q1 q2
          simp (disch := omega) only [si_at, si_ne, si_2, sl_at, sl_ne, sl_1, sl_2, su_at, su_ne, su_1, su_2, su_3, sv_at, sv_ne, sv_1, sv_2, sv_3, upd_at, upd_ne, upl_at, upl_ne, Int32.toInt_add, Int32.toInt_sub, Int32.toInt_mul, Int32.toInt_neg, Int32.toInt_div, li_0, li_1, li_2, li_3, li_4, li_5, li_6, li_7, li_8, li_9, li_10, li_11, li_12, li_13, li_14, li_15, li_16, li_20, li_21, li_22, li_23, li_24, li_25, li_26, li_27, li_28, li_29, li_30, li_31, li_32, li_35, li_36, li_40, li_41, li_42, li_43, li_45, li_48, li_50, li_51, li_57, li_59, li_60, li_61, li_62, li_63, li_64, li_97, li_99, li_100, li_122, li_200, li_255, li_302, li_303, li_304, li_305, li_306, li_307, li_308, li_309, li_310, li_311, li_312, li_313, li_314, li_315, li_316, li_317, li_318, li_319, li_400, li_700, li_701, li_720, li_767, li_768, li_999, li_1000, li_1023, li_1024, li_1440, li_18720, tdv, bm, tnc]
          exact gT.2.2 q q1 q2
      exact ⟨fun _ => fin 0 (Or.inl rfl), fun _ => fin 1 (Or.inr rfl)⟩
theorem q_told (S : GS) (post : Int32 → GS → Prop) (k : ∀ v, post 1 (sl S 0 v)) : w_X12_told S post := by
  unfold w_X12_told
  exact q_packs _ _ (fun v => k v)
/-- behind a setter -/
def ST (S S' : GS) : Prop := Fr [0] [0] [0, 1, 2, 3, 4] [] S S' ∧ (BR S → BR S')
theorem TK.st {S S' : GS} {p : Int} (h : TK S S' p) : ST S S' := ⟨h.1.wk (by decide), h.2.1⟩
theorem q_coin (S : GS) (p v : Int32) (post : Int32 → GS → Prop) (k1 : (0 ≤ p.toInt ∧ p.toInt ≤ 2) ∧ (0 ≤ v.toInt ∧ v.toInt ≤ 15) → ∀ S', ST S S' → post 1 S') (k0 : ¬ ((0 ≤ p.toInt ∧ p.toInt ≤ 2) ∧ (0 ≤ v.toInt ∧ v.toInt ≤ 15)) → post 0 S) : w_X12_coin S p v post := by
  unfold w_X12_coin w_X12_coin_B17
  refine q_isOne _ _ _ (fun r hr hb => ⟨fun h => k0 (by omega), fun h => ?_⟩)
  refine q_isIn _ _ _ _ _ (fun r2 hr2 hb2 => ?_)
  rw [li_0, li_15] at hb2
  refine ⟨fun h2 => ?_, fun h2 => k0 (by omega)⟩
  refine q_takes _ _ _ (fun S1 hT => ⟨by omega, ?_⟩)
  refine q_told _ _ (fun v2 => ⟨Or.inr rfl, k1 (by omega) _ ⟨Fr.sl (by decide) (Fr.su (by decide) hT.st.1), fun b => BR.sl (BR.sn (by decide) (hT.2.1 b))⟩⟩)
theorem q_owner (S : GS) (p v : Int32) (post : Int32 → GS → Prop) (k1 : (0 ≤ p.toInt ∧ p.toInt ≤ 2) ∧ (0 ≤ v.toInt ∧ v.toInt ≤ 3) → ∀ S', ST S S' → post 1 S') (k0 : ¬ ((0 ≤ p.toInt ∧ p.toInt ≤ 2) ∧ (0 ≤ v.toInt ∧ v.toInt ≤ 3)) → post 0 S) : w_X12_owner S p v post := by
  unfold w_X12_owner w_X12_owner_B16
  refine q_isOne _ _ _ (fun r hr hb => ⟨fun h => k0 (by omega), fun h => ?_⟩)
  refine q_isIn _ _ _ _ _ (fun r2 hr2 hb2 => ?_)
  rw [li_0, li_3] at hb2
  refine ⟨fun h2 => ?_, fun h2 => k0 (by omega)⟩
  refine q_takes _ _ _ (fun S1 hT => ⟨by omega, ?_⟩)
  refine q_told _ _ (fun v2 => ⟨Or.inr rfl, k1 (by omega) _ ⟨Fr.sl (by decide) (Fr.su (by decide) hT.st.1), fun b => BR.sl (BR.sn (by decide) (hT.2.1 b))⟩⟩)
theorem q_day (S : GS) (v : Int32) (post : Int32 → GS → Prop) (k1 : (0 ≤ v.toInt ∧ v.toInt ≤ 15) → ∀ S', ST S S' → post 1 S') (k0 : ¬ (0 ≤ v.toInt ∧ v.toInt ≤ 15) → post 0 S) : w_X12_day S v post := by
  unfold w_X12_day
  refine q_isIn _ _ _ _ _ (fun r2 hr2 hb2 => ?_)
  rw [li_0, li_15] at hb2
  refine ⟨fun h2 => ?_, fun h2 => k0 (by omega)⟩
  refine q_takes _ _ _ (fun S1 hT => ?_)
  refine q_told _ _ (fun v2 => ⟨Or.inr rfl, k1 (by omega) _ ⟨Fr.sl (by decide) (Fr.si (by decide) hT.st.1), fun b => BR.sl (BR.si (hT.2.1 b))⟩⟩)
theorem q_debt (S : GS) (p q v : Int32) (post : Int32 → GS → Prop) (k1 : (0 ≤ p.toInt ∧ p.toInt ≤ 2) ∧ (0 ≤ q.toInt ∧ q.toInt ≤ 2) ∧ p.toInt ≠ q.toInt ∧ (0 ≤ v.toInt ∧ v.toInt ≤ 7) → ∀ S', ST S S' → post 1 S') (k0 : ¬ ((0 ≤ p.toInt ∧ p.toInt ≤ 2) ∧ (0 ≤ q.toInt ∧ q.toInt ≤ 2) ∧ p.toInt ≠ q.toInt ∧ (0 ≤ v.toInt ∧ v.toInt ≤ 7)) → post 0 S) : w_X12_debt S p q v post := by
  unfold w_X12_debt w_X12_debt_B29
  refine q_isOne _ _ _ (fun r hr hb => ⟨fun h => k0 (by omega), fun h => ?_⟩)
  refine q_isOne _ _ _ (fun r2 hr2 hb2 => ⟨fun h => k0 (by omega), fun h2 => ⟨fun h => k0 (by omega), fun h3 => ?_⟩⟩)
  refine q_isIn _ _ _ _ _ (fun r3 hr3 hb3 => ?_)
  rw [li_0, li_7] at hb3
  refine ⟨fun h4 => ?_, fun h4 => k0 (by omega)⟩
  have e1 : (3 * p + q).toInt = 3 * p.toInt + q.toInt := by simp (disch := omega) only [Int32.toInt_add, Int32.toInt_sub, Int32.toInt_mul, Int32.toInt_neg, Int32.toInt_div, li_0, li_1, li_2, li_3, li_4, li_5, li_6, li_7, li_8, li_9, li_10, li_11, li_12, li_13, li_14, li_15, li_16, li_20, li_21, li_22, li_23, li_24, li_25, li_26, li_27, li_28, li_29, li_30, li_31, li_32, li_35, li_36, li_40, li_41, li_42, li_43, li_45, li_48, li_50, li_51, li_57, li_59, li_60, li_61, li_62, li_63, li_64, li_97, li_99, li_100, li_122, li_200, li_255, li_302, li_303, li_304, li_305, li_306, li_307, li_308, li_309, li_310, li_311, li_312, li_313, li_314, li_315, li_316, li_317, li_318, li_319, li_400, li_700, li_701, li_720, li_767, li_768, li_999, li_1000, li_1023, li_1024, li_1440, li_18720, tdv, bm, tnc]
  refine q_takes _ _ _ (fun S1 hT => ⟨by omega, ?_⟩)
  refine q_told _ _ (fun v2 => ⟨Or.inr rfl, k1 (by omega) _ ⟨Fr.sl (by decide) (Fr.su (by decide) hT.st.1), fun b => BR.sl (BR.s1 (fun z => by exfalso; rw [tnc] at z; omega) (hT.2.1 b))⟩⟩)
theorem q_kin (S : GS) (p q v z : Int32) (post : Int32 → GS → Prop) (hz : z = 0 ∨ z = 1) (k1 : (0 ≤ p.toInt ∧ p.toInt ≤ 2) ∧ (0 ≤ q.toInt ∧ q.toInt ≤ 2) ∧ p.toInt ≠ q.toInt ∧ (0 ≤ v.toInt ∧ v.toInt ≤ 1) → ∀ S', ST S S' → post 1 S') (k0 : ¬ ((0 ≤ p.toInt ∧ p.toInt ≤ 2) ∧ (0 ≤ q.toInt ∧ q.toInt ≤ 2) ∧ p.toInt ≠ q.toInt ∧ (0 ≤ v.toInt ∧ v.toInt ≤ 1)) → post 0 S) : w_X12_kin S p q v z post := by
  unfold w_X12_kin w_X12_kin_B28 w_X12_kin_B82
  refine q_isOne _ _ _ (fun r hr hb => ⟨fun h => k0 (by omega), fun h => ?_⟩)
  refine q_isOne _ _ _ (fun r2 hr2 hb2 => ⟨fun h => k0 (by omega), fun h2 => ⟨fun h => k0 (by omega), fun h3 => ?_⟩⟩)
  refine q_isIn _ _ _ _ _ (fun r3 hr3 hb3 => ?_)
  rw [li_0, li_1] at hb3
  refine ⟨fun h4 => ?_, fun h4 => k0 (by omega)⟩
  have e1 : (3 * p + q).toInt = 3 * p.toInt + q.toInt := by simp (disch := omega) only [Int32.toInt_add, Int32.toInt_sub, Int32.toInt_mul, Int32.toInt_neg, Int32.toInt_div, li_0, li_1, li_2, li_3, li_4, li_5, li_6, li_7, li_8, li_9, li_10, li_11, li_12, li_13, li_14, li_15, li_16, li_20, li_21, li_22, li_23, li_24, li_25, li_26, li_27, li_28, li_29, li_30, li_31, li_32, li_35, li_36, li_40, li_41, li_42, li_43, li_45, li_48, li_50, li_51, li_57, li_59, li_60, li_61, li_62, li_63, li_64, li_97, li_99, li_100, li_122, li_200, li_255, li_302, li_303, li_304, li_305, li_306, li_307, li_308, li_309, li_310, li_311, li_312, li_313, li_314, li_315, li_316, li_317, li_318, li_319, li_400, li_700, li_701, li_720, li_767, li_768, li_999, li_1000, li_1023, li_1024, li_1440, li_18720, tdv, bm, tnc]
  have e2 : (3 * q + p).toInt = 3 * q.toInt + p.toInt := by simp (disch := omega) only [Int32.toInt_add, Int32.toInt_sub, Int32.toInt_mul, Int32.toInt_neg, Int32.toInt_div, li_0, li_1, li_2, li_3, li_4, li_5, li_6, li_7, li_8, li_9, li_10, li_11, li_12, li_13, li_14, li_15, li_16, li_20, li_21, li_22, li_23, li_24, li_25, li_26, li_27, li_28, li_29, li_30, li_31, li_32, li_35, li_36, li_40, li_41, li_42, li_43, li_45, li_48, li_50, li_51, li_57, li_59, li_60, li_61, li_62, li_63, li_64, li_97, li_99, li_100, li_122, li_200, li_255, li_302, li_303, li_304, li_305, li_306, li_307, li_308, li_309, li_310, li_311, li_312, li_313, li_314, li_315, li_316, li_317, li_318, li_319, li_400, li_700, li_701, li_720, li_767, li_768, li_999, li_1000, li_1023, li_1024, li_1440, li_18720, tdv, bm, tnc]
  refine q_takes _ _ _ (fun S1 hT => ⟨fun _ => ⟨by omega, hz, by omega, hz, ?_⟩, fun _ => ⟨by omega, hz, ?_⟩⟩)
  · refine q_told _ _ (fun v2 => ⟨Or.inr rfl, k1 (by omega) _ ⟨Fr.sl (by decide) (Fr.su (by decide) (Fr.su (by decide) hT.st.1)), fun b => BR.sl (BR.s3 hz (BR.s3 hz (hT.2.1 b)))⟩⟩)
  · refine q_told _ _ (fun v2 => ⟨Or.inr rfl, k1 (by omega) _ ⟨Fr.sl (by decide) (Fr.su (by decide) hT.st.1), fun b => BR.sl (BR.s4 hz (hT.2.1 b))⟩⟩)
