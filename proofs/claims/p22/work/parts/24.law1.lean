/-- no debt to oneself among the new ones -/
def DZ (S T : GS) : Prop := BR S → ∀ i, i = 0 ∨ i = 4 ∨ i = 8 → ar T 25 i = 0
theorem DZ.fr {I L A N : List Nat} {S T T' : GS} (f : Fr I L A N T T') (h : 25 ∉ A) (d : DZ S T) : DZ S T' := fun b i hi => by
  show T'.2.2.1 25 i = 0
  rw [f.2.2.1 25 h]
  exact d b i hi
theorem DZ.sn {S T : GS} {j i : Nat} {x : Int32} (hj : j ≠ 25) (d : DZ S T) : DZ S (su T j i x) := fun b k hk => by
  show (su T j i x).2.2.1 25 k = 0
  rw [su_ne (fun e => hj e.symm)]
  exact d b k hk
theorem DZ.i {S T : GS} {k : Nat} {x : Int32} (d : DZ S T) : DZ S (si T k x) := d
theorem DZ.s25 {S T : GS} {n : Nat} {x : Int32} (hn : ¬ (n = 0 ∨ n = 4 ∨ n = 8)) (d : DZ S T) : DZ S (su T 25 n x) := fun b k hk => by
  show (su T 25 n x).2.2.1 25 k = 0
  have ne : k ≠ n := by omega
  rw [su_at, upd_ne ne]
  exact d b k hk
set_option maxHeartbeats 400000 in
theorem q_makes (S : GS) (x : Int32) (post : Int32 → GS → Prop) (hx : 0 ≤ x.toInt ∧ x.toInt ≤ 11) (hA : ActOK S x.toInt.toNat) (hB : BY S x.toInt.toNat) (k : ∀ r S', Fr [0] [] [0, 1, 2, 3, 4, 22, 24, 25] [] S S' → (BR S → BR S') → post r S') : w_X12_makes S x post := by
  obtain ⟨hn, hm, hN, hM⟩ := hA
  have hx6 : (x / 6).toInt = x.toInt / 6 := by simp (disch := omega) only [Int32.toInt_add, Int32.toInt_sub, Int32.toInt_mul, Int32.toInt_neg, Int32.toInt_div, li_0, li_1, li_2, li_3, li_4, li_5, li_6, li_7, li_8, li_9, li_10, li_11, li_12, li_13, li_14, li_15, li_16, li_20, li_21, li_22, li_23, li_24, li_25, li_26, li_27, li_28, li_29, li_30, li_31, li_32, li_35, li_36, li_40, li_41, li_42, li_43, li_45, li_48, li_50, li_51, li_57, li_59, li_60, li_61, li_62, li_63, li_64, li_97, li_99, li_100, li_122, li_200, li_255, li_302, li_303, li_304, li_305, li_306, li_307, li_308, li_309, li_310, li_311, li_312, li_313, li_314, li_315, li_316, li_317, li_318, li_319, li_400, li_700, li_701, li_720, li_767, li_768, li_999, li_1000, li_1023, li_1024, li_1440, li_18720, tdv, bm, tnc]
  -- the ties
  have t408 : ∀ T, Fr [0] [] [0, 1, 2, 3, 4, 22, 24, 25] [] S T → (BR S → BR T) → w_X12_makes_B405 post T x := by
    intro T hF hb
    unfold w_X12_makes_B405
    refine lr3 (fun (T : GS) (x' j : Int32) => x' = x ∧ Fr [0] [] [0, 1, 2, 3, 4, 22, 24, 25] [] S T ∧ (BR S → BR T) ∧ 0 ≤ j.toInt ∧ j.toInt ≤ 6) (fun _ _ j => (6 - j.toInt).toNat) ?_ _ _ _ ⟨rfl, hF, hb, by decide, by decide⟩
    rintro kk T x' j ⟨rfl, hF, hb, h0, h6⟩ hk
    unfold w_X12_makes_F408 w_X12_makes_B436
    have e9 : ar T 9 = ar S 9 := hF.2.2.1 9 (by decide)
    rw [e9, tnc]
    refine ⟨by omega, fun _ => k _ _ hF hb, fun g => ?_⟩
    have hMM := hM j.toInt.toNat (by omega)
    have hBT := hB.fr hF
    refine q_ties T x'.toInt.toNat _ _ ?_ ?_ hBT (fun T2 hF2 hb2 => hk _ _ _ ⟨rfl, hF.tr (hF2.wk (by decide)), fun b => hb2 (hb b), ?_, ?_⟩ ?_)
    · rw [ma_6 (by omega) (by omega)]; omega
    · rw [ma_6 (by omega) (by omega)]
      have e : (6 * x'.toInt + j.toInt).toNat = 6 * x'.toInt.toNat + j.toInt.toNat := by omega
      rw [e]
      unfold MakeOK sx ar at hMM ⊢
      rw [hF.2.2.1 5 (by decide), hF.2.2.1 12 (by decide), hF.2.2.1 13 (by decide), hF.2.2.1 14 (by decide), hF.2.2.1 15 (by decide), hF.2.2.1 16 (by decide), hF.2.2.1 19 (by decide), hF.2.2.1 20 (by decide)]
      exact hMM
    · rw [inc1 (by omega)]; omega
    · rw [inc1 (by omega)]; omega
    · rw [inc1 (by omega)]; omega
  have t378 : ∀ T, Fr [0] [] [0, 1, 2, 3, 4, 22, 24, 25] [] S T → (BR S → BR T) → DZ S T → w_X12_makes_B375 post T x := by
    intro T hF hb hd
    unfold w_X12_makes_B375
    refine lr3 (fun (T : GS) (x' j : Int32) => x' = x ∧ Fr [0] [] [0, 1, 2, 3, 4, 22, 24, 25] [] S T ∧ (BR S → BR T) ∧ DZ S T ∧ 0 ≤ j.toInt ∧ j.toInt ≤ 9) (fun _ _ j => (9 - j.toInt).toNat) ?_ _ _ _ ⟨rfl, hF, hb, hd, by decide, by decide⟩
    rintro kk T x' j ⟨rfl, hF, hb, hd, h0, h6⟩ hk
    unfold w_X12_makes_F378
    refine ⟨fun _ => t408 _ hF hb, fun g => ⟨⟨h0, g⟩, ⟨h0, g⟩, hk _ _ _ ⟨rfl, Fr.su (by decide) hF, fun b => BR.s1 (fun z => hd b _ z) (hb b), DZ.sn (by decide) hd, ?_, ?_⟩ ?_⟩⟩
    · rw [inc1 (by omega)]; omega
    · rw [inc1 (by omega)]; omega
    · rw [inc1 (by omega)]; omega
  have t334 : ∀ T (d y : Int32), Fr [0] [] [0, 1, 2, 3, 4, 22, 24, 25] [] S T → (BR S → BR T) → DZ S T → w_X12_makes_B334 post T x d y := by
    intro T d y hF hb hd
    unfold w_X12_makes_B334
    refine ⟨fun _ => ?_, fun _ => k _ _ hF hb⟩
    refine lr3 (fun (T : GS) (x' j : Int32) => x' = x ∧ Fr [0] [] [0, 1, 2, 3, 4, 22, 24, 25] [] S T ∧ (BR S → BR T) ∧ DZ S T ∧ 0 ≤ j.toInt ∧ j.toInt ≤ 3) (fun _ _ j => (3 - j.toInt).toNat) ?_ _ _ _ ⟨rfl, Fr.si (by decide) hF, fun b => BR.si (hb b), DZ.i hd, by decide, by decide⟩
    rintro kk T x' j ⟨rfl, hF, hb, hd, h0, h6⟩ hk
    unfold w_X12_makes_F349
    refine ⟨fun _ => t378 _ hF hb hd, fun g => ⟨⟨h0, g⟩, ⟨h0, g⟩, hk _ _ _ ⟨rfl, Fr.su (by decide) hF, fun b => BR.sn (by decide) (hb b), DZ.sn (by decide) hd, ?_, ?_⟩ ?_⟩⟩
    · rw [inc1 (by omega)]; omega
    · rw [inc1 (by omega)]; omega
    · rw [inc1 (by omega)]; omega
  have t290 : ∀ T (d y : Int32), Fr [0] [] [0, 1, 2, 3, 4, 22, 24, 25] [] S T → (BR S → BR T) → DZ S T → w_X12_makes_B290 post T x d y := by
    intro T d y hF hb hd
    unfold w_X12_makes_B290
    refine lr5 (fun (T : GS) (x' d y j : Int32) => x' = x ∧ Fr [0] [] [0, 1, 2, 3, 4, 22, 24, 25] [] S T ∧ (BR S → BR T) ∧ DZ S T ∧ 0 ≤ j.toInt ∧ j.toInt ≤ 9) (fun _ _ _ _ j => (9 - j.toInt).toNat) ?_ _ _ _ _ _ ⟨rfl, hF, hb, hd, by decide, by decide⟩
    rintro kk T x' d y j ⟨rfl, hF, hb, hd, h0, h6⟩ hk
    unfold w_X12_makes_F293 w_X12_makes_B325 w_X12_makes_B326
    have go : j.toInt < 9 → ∀ y, kk T x' d y (j + 1) := fun g y => hk _ _ _ _ _ ⟨rfl, hF, hb, hd, by rw [inc1 (by omega)]; omega, by rw [inc1 (by omega)]; omega⟩ (by rw [inc1 (by omega)]; omega)
    exact ⟨fun _ => t334 _ _ _ hF hb hd, fun g => ⟨fun _ => go g _, fun _ => ⟨⟨h0, g⟩, q_isIn _ _ _ _ _ (fun _ _ _ => ⟨fun _ => go g _, fun _ => go g _⟩)⟩⟩⟩
  have t238 : ∀ T (d : Int32), Fr [0] [] [0, 1, 2, 3, 4, 22, 24, 25] [] S T → (BR S → BR T) → DZ S T → w_X12_makes_B238 post T x d := by
    intro T d hF hb hd
    unfold w_X12_makes_B238
    refine q_isIn _ _ _ _ _ (fun y _ _ => ?_)
    refine lr5 (fun (T : GS) (x' d y j : Int32) => x' = x ∧ Fr [0] [] [0, 1, 2, 3, 4, 22, 24, 25] [] S T ∧ (BR S → BR T) ∧ DZ S T ∧ 0 ≤ j.toInt ∧ j.toInt ≤ 3) (fun _ _ _ _ j => (3 - j.toInt).toNat) ?_ _ _ _ _ _ ⟨rfl, hF, hb, hd, by decide, by decide⟩
    rintro kk T x' d y j ⟨rfl, hF, hb, hd, h0, h6⟩ hk
    unfold w_X12_makes_F250 w_X12_makes_B281 w_X12_makes_B282
    have go : j.toInt < 3 → ∀ y, kk T x' d y (j + 1) := fun g y => hk _ _ _ _ _ ⟨rfl, hF, hb, hd, by rw [inc1 (by omega)]; omega, by rw [inc1 (by omega)]; omega⟩ (by rw [inc1 (by omega)]; omega)
    exact ⟨fun _ => t290 _ _ _ hF hb hd, fun g => ⟨fun _ => go g _, fun _ => ⟨⟨h0, g⟩, q_isIn _ _ _ _ _ (fun _ _ _ => ⟨fun _ => go g _, fun _ => go g _⟩)⟩⟩⟩
  -- the amounts
  have t56 : ∀ T, Fr [] [] [22, 24, 25] [] S T → DZ S T → w_X12_makes_B56 post T x (x / 6) := by
    intro T hF hd
    unfold w_X12_makes_B56
    refine lr5 (fun (T : GS) (x' x6 d j : Int32) => x' = x ∧ x6 = x / 6 ∧ Fr [] [] [22, 24, 25] [] S T ∧ DZ S T ∧ 0 ≤ j.toInt ∧ j.toInt ≤ 6) (fun _ _ _ _ j => (6 - j.toInt).toNat) ?_ _ _ _ _ _ ⟨rfl, rfl, hF, hd, by decide, by decide⟩
    rintro kk T x' x6 d j ⟨rfl, rfl, hF, hd, h0, h6⟩ hk
    unfold w_X12_makes_F64 w_X12_makes_B232
    have e9 : ar T 9 = ar S 9 := hF.2.2.1 9 (by decide)
    have e12 : ar T 12 = ar S 12 := hF.2.2.1 12 (by decide)
    have e15 : ar T 15 = ar S 15 := hF.2.2.1 15 (by decide)
    have e16 : ar T 16 = ar S 16 := hF.2.2.1 16 (by decide)
    have h56 : ar T 5 = ar S 5 := hF.2.2.1 5 (by decide)
    have hw : Fr [0] [] [0, 1, 2, 3, 4, 22, 24, 25] [] S T := hF.wk (by decide)
    rw [e9, e12, e15, e16, tnc]
    refine ⟨by omega, fun _ => t238 _ _ hw (BR.fr hF (by decide) (by decide)) hd, fun g => ?_⟩
    have hMM := hM j.toInt.toNat (by omega)
    have hBT := hB.fr hw
    have em : ((6 : Int32) * x' + j).toNatClampNeg = 6 * x'.toInt.toNat + j.toInt.toNat := by
      rw [tnc, ma_6 (by omega) (by omega)]; omega
    have go : ∀ (T2 : GS) (d2 : Int32), Fr [] [] [22, 24, 25] [] S T2 → DZ S T2 → kk T2 x' (x' / 6) d2 (j + 1) := fun T2 d2 hF2 hd2 => hk _ _ _ _ _ ⟨rfl, rfl, hF2, hd2, by rw [inc1 (by omega)]; omega, by rw [inc1 (by omega)]; omega⟩ (by rw [inc1 (by omega)]; omega)
    rw [em, ma_6 (by omega) (by omega)]
    refine ⟨by omega, by omega, by omega, fun g2 => ⟨by omega, by omega, ?_⟩, fun _ => go _ _ hF hd⟩
    have hs := hMM.2.1 g2
    have hk0 := hMM.1
    have hk1 := hMM.2.2.1
    have hk2 := hMM.2.2.2.1
    have hsg := hs.2.2.2
    refine q_comesTo T _ _ _ _ (by rw [hx6]; omega) hs.1 ⟨hs.2.1, hs.2.2.1⟩ ?_ hBT.r (fun r T2 hF2 => ⟨by omega, ?_⟩)
    · rw [hx6]
      have e6 : (x'.toInt / 6).toNat = x'.toInt.toNat / 6 := by omega
      rw [e6]
      unfold sx at hsg ⊢
      rw [h56]
      exact hsg
    · have hF3 : Fr [] [] [22, 24, 25] [] S T2 := hF.tr (hF2.wk (by decide))
      have hd3 : DZ S T2 := DZ.fr hF2 (by decide) hd
      have hB2 := hB.fr (hF3.wk (by decide) : Fr [0] [] [0, 1, 2, 3, 4, 22, 24, 25] [] S T2)
      have fin : ∀ v, w_X12_makes_B154 post kk (w_X12_makes_B238 post) T2 x' (x' / 6) d j ((6 : Int32) * x' + j) (ar S 12 (6 * x'.toInt.toNat + j.toInt.toNat) - ar S 12 (6 * x'.toInt.toNat + j.toInt.toNat) / 100 * 100) v := by
        intro v
        unfold w_X12_makes_B154 w_X12_makes_B232
        rw [kd100 hk0, em, ma_6 (by omega) (by omega)]
        have f13 : ar T2 13 = ar S 13 := hF3.2.2.1 13 (by decide)
        have f14 : ar T2 14 = ar S 14 := hF3.2.2.1 14 (by decide)
        have f19 : ar T2 19 = ar S 19 := hF3.2.2.1 19 (by decide)
        unfold BY at hB2
        rw [f13]
        refine ⟨fun g3 => ⟨fun _ => go _ _ hF3 hd3, fun g4 => ⟨by omega, ?_⟩⟩, fun g3 => ⟨by omega, ?_⟩⟩
        · have h2 := hk2 (Or.inl g4)
          have h3 := hB2.2.2.2.1 (by rw [f19]; exact h2.2)
          refine q_stood _ _ _ (fun p hp => ⟨by omega, ?_⟩)
          rw [f14]
          refine q_stood _ _ _ (fun q hq => ?_)
          have hpq : (0 ≤ p.toInt ∧ p.toInt ≤ 2) ∧ (0 ≤ q.toInt ∧ q.toInt ≤ 2) := by
            rcases hp with g | g | g <;> rcases hq with g' | g' | g' <;> (first | omega | (rw [g.2, g'.2.2]; omega) | (rw [g.2.2, g'.2]; omega))
          have hne : p.toInt ≠ q.toInt := by
            rcases hp with g | g | g <;> rcases hq with g' | g' | g' <;> (first | omega | (rw [g.2, g'.2.2]; omega) | (rw [g.2.2, g'.2]; omega))
          have em3 : (3 * p + q).toNatClampNeg = (3 * p.toInt + q.toInt).toNat := by rw [tnc, ma_3 (by omega) (by omega)]
          rw [ma_3 (by omega) (by omega)]
          exact ⟨by omega, by omega, go _ _ (Fr.su (by decide) hF3) (DZ.s25 (fun z => by rw [em3] at z; omega) hd3)⟩
        · have h2 := hk1 g3
          refine q_stood _ _ _ (fun p hp => ?_)
          have hp2 : 0 ≤ p.toInt ∧ p.toInt ≤ 2 := by
            rcases h2 with h2 | h2
            · rcases hp with g | g | g
              · omega
              · rw [g.2]; omega
              · omega
            · have h3 := hB2.2.2.2.1 (by rw [f19]; exact h2.2)
              rcases hp with g | g | g
              · omega
              · omega
              · rw [g.2.2]; omega
          exact ⟨by omega, by omega, go _ _ (Fr.su (by decide) hF3) (DZ.sn (by decide) hd3)⟩
      exact ⟨fun _ => fin _, fun _ => fin _⟩
  have t30 : ∀ T, Fr [] [] [22, 24, 25] [] S T → w_X12_makes_B30 post T x (x / 6) := by
    intro T hF
    unfold w_X12_makes_B30
    refine lr4 (fun (T : GS) (x' x6 j : Int32) => x' = x ∧ x6 = x / 6 ∧ Fr [] [] [22, 24, 25] [] S T ∧ (BR S → ∀ i : Nat, (i : Int) < j.toInt → (i = 0 ∨ i = 4 ∨ i = 8) → ar T 25 i = 0) ∧ 0 ≤ j.toInt ∧ j.toInt ≤ 9) (fun _ _ _ j => (9 - j.toInt).toNat) ?_ _ _ _ _ ⟨rfl, rfl, hF, fun b i hi => by rw [li_0] at hi; omega, by decide, by decide⟩
    rintro kk T x' x6 j ⟨rfl, rfl, hF, hd, h0, h6⟩ hk
    unfold w_X12_makes_F32
    refine ⟨fun g => t56 _ hF (fun b i hi => hd b i (by omega) hi), fun g => ⟨⟨h0, g⟩, ⟨h0, g⟩, hk _ _ _ _ ⟨rfl, rfl, Fr.su (by decide) hF, ?_, ?_, ?_⟩ ?_⟩⟩
    · intro b i hi hdi
      rw [inc1 (by omega)] at hi
      have a25 : ar (su T 25 j.toNatClampNeg (ar T 1 j.toNatClampNeg)) 25 = upd (ar T 25) j.toNatClampNeg (ar T 1 j.toNatClampNeg) := su_at _ _ _ _
      have a1 : ar T 1 = ar S 1 := hF.2.2.1 1 (by decide)
      rw [a25]
      by_cases e : i = j.toNatClampNeg
      · rw [← e, upd_at, a1]; exact b.2.1 i hdi
      · rw [upd_ne e]; exact hd b i (by rw [tnc] at e; omega) hdi
    · rw [inc1 (by omega)]; omega
    · rw [inc1 (by omega)]; omega
    · rw [inc1 (by omega)]; omega
  unfold w_X12_makes
  refine lr4 (fun (T : GS) (x' x6 j : Int32) => x' = x ∧ x6 = x / 6 ∧ Fr [] [] [22, 24, 25] [] S T ∧ 0 ≤ j.toInt ∧ j.toInt ≤ 3) (fun _ _ _ j => (3 - j.toInt).toNat) ?_ _ _ _ _ ⟨rfl, rfl, Fr.rf, by decide, by decide⟩
  rintro kk T x' x6 j ⟨rfl, rfl, hF, h0, h6⟩ hk
  unfold w_X12_makes_F7
  refine ⟨fun _ => t30 _ hF, fun g => ⟨⟨h0, g⟩, ⟨h0, g⟩, hk _ _ _ _ ⟨rfl, rfl, Fr.su (by decide) hF, ?_, ?_⟩ ?_⟩⟩
  · rw [inc1 (by omega)]; omega
  · rw [inc1 (by omega)]; omega
  · rw [inc1 (by omega)]; omega
theorem ActOK.fr {S S' : GS} {x : Nat} (h : ActOK S x) (f : FQ S S') : ActOK S' x := by
  unfold ActOK NeedOK MakeOK sx ar at *
  rw [f.2.2.1 5 (by decide), f.2.2.1 8 (by decide), f.2.2.1 9 (by decide), f.2.2.1 10 (by decide), f.2.2.1 11 (by decide), f.2.2.1 12 (by decide), f.2.2.1 13 (by decide), f.2.2.1 14 (by decide), f.2.2.1 15 (by decide), f.2.2.1 16 (by decide), f.2.2.1 19 (by decide), f.2.2.1 20 (by decide)]
  exact h
set_option maxHeartbeats 400000 in
theorem q_whyNot (S : GS) (st : Int64) (c laws set : Int32) (post : Int32 → GS → Prop) (hK : KInv S) (hc : 0 ≤ c.toInt ∧ c.toInt ≤ 767) (k : ∀ r S', WW S S' → post r S') : w_X12_whyNot S st c laws set post := by
  unfold w_X12_whyNot
  refine q_isCode _ _ _ _ hc (fun r S1 hr hF1 hY => ⟨fun g => ?_, fun _ => k _ _ ⟨hF1.wk (by decide), BR.fr hF1 (by decide) (by decide)⟩⟩)
  have hY1 := hY g
  have hx64 : (c / 64).toInt = c.toInt / 64 := by simp (disch := omega) only [Int32.toInt_add, Int32.toInt_sub, Int32.toInt_mul, Int32.toInt_neg, Int32.toInt_div, li_0, li_1, li_2, li_3, li_4, li_5, li_6, li_7, li_8, li_9, li_10, li_11, li_12, li_13, li_14, li_15, li_16, li_20, li_21, li_22, li_23, li_24, li_25, li_26, li_27, li_28, li_29, li_30, li_31, li_32, li_35, li_36, li_40, li_41, li_42, li_43, li_45, li_48, li_50, li_51, li_57, li_59, li_60, li_61, li_62, li_63, li_64, li_97, li_99, li_100, li_122, li_200, li_255, li_302, li_303, li_304, li_305, li_306, li_307, li_308, li_309, li_310, li_311, li_312, li_313, li_314, li_315, li_316, li_317, li_318, li_319, li_400, li_700, li_701, li_720, li_767, li_768, li_999, li_1000, li_1023, li_1024, li_1440, li_18720, tdv, bm, tnc]
  have hx6 : (c / 64 / 6).toInt = c.toInt / 64 / 6 := by simp (disch := omega) only [Int32.toInt_add, Int32.toInt_sub, Int32.toInt_mul, Int32.toInt_neg, Int32.toInt_div, li_0, li_1, li_2, li_3, li_4, li_5, li_6, li_7, li_8, li_9, li_10, li_11, li_12, li_13, li_14, li_15, li_16, li_20, li_21, li_22, li_23, li_24, li_25, li_26, li_27, li_28, li_29, li_30, li_31, li_32, li_35, li_36, li_40, li_41, li_42, li_43, li_45, li_48, li_50, li_51, li_57, li_59, li_60, li_61, li_62, li_63, li_64, li_97, li_99, li_100, li_122, li_200, li_255, li_302, li_303, li_304, li_305, li_306, li_307, li_308, li_309, li_310, li_311, li_312, li_313, li_314, li_315, li_316, li_317, li_318, li_319, li_400, li_700, li_701, li_720, li_767, li_768, li_999, li_1000, li_1023, li_1024, li_1440, li_18720, tdv, bm, tnc]
  have hxn : (c.toInt / 64 / 6).toNat = (c.toInt / 64).toNat / 6 := by omega
  have hW1 : WW S S1 := ⟨hF1.wk (by decide), BR.fr hF1 (by decide) (by decide)⟩
  have hA : ActOK S (c.toInt / 64).toNat := hK.2.2.1 _ (by omega) (by
    have := hY1.1.2
    rw [hxn] at this
    omega)
  refine q_takes _ _ _ (fun S2 hT => ?_)
  have hW2 : WW S S2 := hW1.tr hT.ww
  have hB2 : BY S2 (c.toInt / 64).toNat := hY1.2.fr (hT.1.wk (by decide))
  -- makes
  have m156 : ∀ T, WW S T → BY T (c.toInt / 64).toNat → w_X12_whyNot_B156 post T (c / 64) := by
    intro T hW hB
    unfold w_X12_whyNot_B156
    refine q_makes _ _ _ (by rw [hx64]; omega) (by rw [hx64]; exact hA.fr (hW.1.wk (by decide))) (by rw [hx64]; exact hB) (fun r T2 hF2 hb2 => ?_)
    have hW2 : WW S T2 := hW.tr ⟨hF2.wk (by decide), hb2⟩
    exact ⟨fun _ => q_packs _ _ (fun v => k _ _ ⟨Fr.sl (by decide) hW2.1, fun b => BR.sl (hW2.2 b)⟩), fun _ => k _ _ hW2⟩
  have c85 : ∀ T, WW S T → BY T (c.toInt / 64).toNat → w_X12_whyNot_B85 post T set (c / 64) := by
    intro T hW hB
    unfold w_X12_whyNot_B85
    refine lr4 (fun (T : GS) (st' x' j : Int32) => st' = set ∧ x' = c / 64 ∧ WW S T ∧ BY T (c.toInt / 64).toNat ∧ 0 ≤ j.toInt ∧ j.toInt ≤ 5) (fun _ _ _ j => (5 - j.toInt).toNat) ?_ _ _ _ _ ⟨rfl, rfl, hW, hB, by decide, by decide⟩
    rintro kk T st' x' j ⟨rfl, rfl, hW, hB, h0, h6⟩ hk
    unfold w_X12_whyNot_F88 w_X12_whyNot_B150
    have hKT := hK.fw hW.1
    have h17 := hKT.2.2.2.2.2.1
    refine ⟨fun _ => m156 _ hW hB, fun g => ?_⟩
    have go : ∀ T2, WW S T2 → BY T2 (c.toInt / 64).toNat → kk T2 st' (c / 64) (j + 1) := fun T2 hW2 hB2 => hk _ _ _ _ ⟨rfl, rfl, hW2, hB2, by rw [inc1 (by omega)]; omega, by rw [inc1 (by omega)]; omega⟩ (by rw [inc1 (by omega)]; omega)
    refine ⟨fun _ => go _ hW hB, fun _ => ⟨by omega, fun _ => go _ hW hB, fun _ => ?_⟩⟩
    have hX := hKT.2.2.2.2.2.2.1 j.toInt.toNat (by omega)
    have e8 : ((8 : Int32) + j).toInt = 8 + j.toInt := ad_8 (by omega)
    have e8n : ((8 : Int32) + j).toNatClampNeg = 8 + j.toInt.toNat := by rw [tnc, e8]; omega
    rw [e8n]
    refine ⟨by omega, q_comesTo T _ _ _ _ (by rw [e8]; omega) (by decide) ⟨hX.1, hX.2.1⟩ ?_ hB.r (fun r T2 hF2 => ?_)⟩
    · have e8i : ((8 : Int32) + j).toInt.toNat = 8 + j.toInt.toNat := by omega
      rw [e8i]; exact hX.2.2
    · have hW2 : WW S T2 := hW.tr ⟨hF2.wk (by decide), BR.fr hF2 (by decide) (by decide)⟩
      exact ⟨fun _ => go _ hW2 (hB.fr (hF2.wk (by decide))), fun _ => k _ _ hW2⟩
  refine lr4 (fun (T : GS) (st' x' j : Int32) => st' = set ∧ x' = c / 64 ∧ WW S T ∧ BY T (c.toInt / 64).toNat ∧ 0 ≤ j.toInt ∧ j.toInt ≤ 4) (fun _ _ _ j => (4 - j.toInt).toNat) ?_ _ _ _ _ ⟨rfl, rfl, hW2, hB2, by decide, by decide⟩
  rintro kk T st' x' j ⟨rfl, rfl, hW, hB, h0, h6⟩ hk
  unfold w_X12_whyNot_F27
  have hAT := hA.fr (hW.1.wk (by decide) : FQ S T)
  have exn : (c / 64).toNatClampNeg = (c.toInt / 64).toNat := by rw [tnc, hx64]
  have hn4 := hAT.1
  rw [exn, hx64]
  refine ⟨by omega, fun _ => c85 _ hW hB, fun g => ?_⟩
  have hNd := hAT.2.2.1 j.toInt.toNat (by omega)
  have e4 : ((4 : Int32) * (c / 64) + j).toInt = 4 * (c.toInt / 64) + j.toInt := by rw [ma_4 (by rw [hx64]; omega) (by omega), hx64]
  have e4n : ((4 : Int32) * (c / 64) + j).toNatClampNeg = 4 * (c.toInt / 64).toNat + j.toInt.toNat := by rw [tnc, e4]; omega
  rw [e4n, e4]
  clear e4 e4n
  refine ⟨by omega, by omega, q_comesTo T _ _ _ _ (by rw [hx6]; omega) hNd.1 ⟨hNd.2.1, hNd.2.2.1⟩ ?_ hB.r (fun r T2 hF2 => ?_)⟩
  · rw [hx6, hxn]; exact hNd.2.2.2
  · have hW2 : WW S T2 := hW.tr ⟨hF2.wk (by decide), BR.fr hF2 (by decide) (by decide)⟩
    exact ⟨fun _ => hk _ _ _ _ ⟨rfl, rfl, hW2, hB.fr (hF2.wk (by decide)), by rw [inc1 (by omega)]; omega, by rw [inc1 (by omega)]; omega⟩ (by rw [inc1 (by omega)]; omega), fun _ => k _ _ hW2⟩
set_option maxHeartbeats 400000 in
theorem q_goes (S : GS) (r laws set : Int32) (post : Int32 → GS → Prop) (hK : KInv S) (hr : 0 ≤ r.toInt ∧ r.toInt ≤ 5) (k : ∀ v S', WW S S' → post v S') : w_X12_goes S r laws set post := by
  unfold w_X12_goes
  refine lr5 (fun (T : GS) (r' l' s' j : Int32) => r' = r ∧ WW S T ∧ 0 ≤ j.toInt ∧ j.toInt ≤ 12) (fun _ _ _ _ j => (12 - j.toInt).toNat) ?_ _ _ _ _ _ ⟨rfl, ⟨Fr.si (by decide) (Fr.sl (by decide) Fr.rf), fun b => BR.si (BR.sl b)⟩, by decide, by decide⟩
  rintro kk T r' l' s' j ⟨rfl, hW, h0, h6⟩ hk
  unfold w_X12_goes_F16 w_X12_goes_B78
  have hKT := hK.fw hW.1
  have h38 := hKT.2.2.2.2.2.2.2.1 r'.toNatClampNeg (by rw [tnc]; omega)
  refine ⟨by omega, fun _ => ⟨by omega, k _ _ hW⟩, fun g => ?_⟩
  have e12 : ((12 : Int32) * r' + j).toInt = 12 * r'.toInt + j.toInt := ma_12 (by omega) (by omega)
  have h37 := hKT.2.2.2.2.2.2.2.2.1 ((12 : Int32) * r' + j).toNatClampNeg (by rw [tnc, e12]; omega)
  rw [e12]
  clear e12
  refine ⟨by omega, q_whyNot _ _ _ _ _ _ hKT h37 (fun v T2 hW2 => ?_)⟩
  have hW3 := hW.tr hW2
  exact ⟨fun _ => hk _ _ _ _ _ ⟨rfl, ⟨Fr.sl (by decide) (Fr.si (by decide) hW3.1), fun b => BR.sl (BR.si (hW3.2 b))⟩, by rw [inc1 (by omega)]; omega, by rw [inc1 (by omega)]; omega⟩ (by rw [inc1 (by omega)]; omega), fun _ => k _ _ ⟨Fr.si (by decide) hW3.1, fun b => BR.si (hW3.2 b)⟩⟩
set_option maxHeartbeats 400000 in
theorem q_isHonestAll (S : GS) (set : Int32) (post : Int32 → GS → Prop) (hK : KInv S) (k : ∀ v S', WW S S' → post v S') : w_X12_isHonestAll S set post := by
  unfold w_X12_isHonestAll
  refine lr4 (fun (T : GS) (s' y j : Int32) => (y = 0 ∨ y = 1) ∧ WW S T ∧ 0 ≤ j.toInt ∧ j.toInt ≤ 6) (fun _ _ _ j => (6 - j.toInt).toNat) ?_ _ _ _ _ ⟨Or.inr rfl, WW.rf, by decide, by decide⟩
  rintro kk T s' y j ⟨hy, hW, h0, h6⟩ hk
  unfold w_X12_isHonestAll_F4 w_X12_isHonestAll_B51 w_X12_isHonestAll_B43 w_X12_isHonestAll_B39 w_X12_isHonestAll_B44
  have go : j.toInt < 6 → ∀ T2 y2, (y2 = 0 ∨ y2 = 1) → WW S T2 → kk T2 s' y2 (j + 1) := fun g T2 y2 hy2 hW2 => hk _ _ _ _ ⟨hy2, hW2, by rw [inc1 (by omega)]; omega, by rw [inc1 (by omega)]; omega⟩ (by rw [inc1 (by omega)]; omega)
  refine ⟨fun _ => ⟨hy, k _ _ hW⟩, fun g => ⟨fun _ => go g _ _ (Or.inl rfl) hW, fun _ => ⟨⟨h0, g⟩, fun _ => go g _ _ (Or.inr rfl) hW, fun _ => ?_⟩⟩⟩
  refine q_goes _ _ _ _ _ (hK.fw hW.1) (by omega) (fun v T2 hW2 => ⟨⟨h0, g⟩, fun _ => go g _ _ (Or.inl rfl) (hW.tr hW2), fun _ => go g _ _ (Or.inr rfl) (hW.tr hW2)⟩)
set_option maxHeartbeats 400000 in
theorem q_isNever (S : GS) (st : Int64) (n : Int32) (post : Int32 → GS → Prop) (hK : KInv S) (hn : 0 ≤ n.toInt ∧ n.toInt < (fi S 16).toInt) (k : ∀ v S', WW S S' → post v S') : w_X12_isNever S st n post := by
  unfold w_X12_isNever
  refine q_takes _ _ _ (fun S1 hT => ?_)
  have h16 := hK.2.2.2.1
  refine lr2 (fun (T : GS) (n' : Int32) => n' = n ∧ WW S T ∧ 0 ≤ (fi T 18).toInt ∧ (fi T 18).toInt ≤ 3) (fun T _ => (3 - (fi T 18).toInt).toNat) ?_ _ _ ⟨rfl, ⟨Fr.si (by decide) hT.ww.1, fun b => BR.si (hT.ww.2 b)⟩, by show 0 ≤ ((si S1 18 0).1 18).toInt; rw [si_at]; decide, by show ((si S1 18 0).1 18).toInt ≤ 3; rw [si_at]; decide⟩
  rintro kk T n' ⟨rfl, hW, a0, a3⟩ hk
  unfold w_X12_isNever_F10
  refine ⟨fun _ => k _ _ hW, fun g => ?_⟩
  refine lr2 (fun (U : GS) (n2 : Int32) => n2 = n' ∧ WW S U ∧ (fi U 18).toInt = (fi T 18).toInt ∧ 0 ≤ (fi U 19).toInt ∧ (fi U 19).toInt ≤ 3) (fun U _ => (3 - (fi U 19).toInt).toNat) ?_ _ _ ⟨rfl, ⟨Fr.si (by decide) hW.1, fun b => BR.si (hW.2 b)⟩, by show ((si T 19 0).1 18).toInt = _; rw [si_ne (by decide)], by show 0 ≤ ((si T 19 0).1 19).toInt; rw [si_at]; decide, by show ((si T 19 0).1 19).toInt ≤ 3; rw [si_at]; decide⟩
  rintro kk2 U n2 ⟨rfl, hWU, u18, b0, b3⟩ hk2
  unfold w_X12_isNever_F23
  refine ⟨fun _ => ?_, fun g2 => ?_⟩
  · unfold w_X12_isNever_B103
    have e : (si U 18 (fi U 18 + 1)).1 18 = fi U 18 + 1 := si_at _ _ _
    have e2 : ((si U 18 (fi U 18 + 1)).1 18).toInt = (fi T 18).toInt + 1 := by rw [e, inc1 (by omega), u18]
    exact hk _ _ ⟨rfl, ⟨Fr.si (by decide) hWU.1, fun b => BR.si (hWU.2 b)⟩, by show 0 ≤ ((si U 18 (fi U 18 + 1)).1 18).toInt; omega, by show ((si U 18 (fi U 18 + 1)).1 18).toInt ≤ 3; omega⟩ (by show (3 - ((si U 18 (fi U 18 + 1)).1 18).toInt).toNat < _; omega)
  refine lr2 (fun (V : GS) (n3 : Int32) => n3 = n2 ∧ WW S V ∧ (fi V 18).toInt = (fi T 18).toInt ∧ (fi V 19).toInt = (fi U 19).toInt ∧ 0 ≤ (fi V 20).toInt ∧ (fi V 20).toInt ≤ 3) (fun V _ => (3 - (fi V 20).toInt).toNat) ?_ _ _ ⟨rfl, ⟨Fr.si (by decide) hWU.1, fun b => BR.si (hWU.2 b)⟩, by show ((si U 20 0).1 18).toInt = _; rw [si_ne (by decide)]; exact u18, by show ((si U 20 0).1 19).toInt = _; rw [si_ne (by decide)], by show 0 ≤ ((si U 20 0).1 20).toInt; rw [si_at]; decide, by show ((si U 20 0).1 20).toInt ≤ 3; rw [si_at]; decide⟩
  rintro kk3 V n3 ⟨rfl, hWV, v18, v19, c0, c3⟩ hk3
  unfold w_X12_isNever_F36
  have x90 : w_X12_isNever_B90 post kk2 (w_X12_isNever_B103 post kk (w_X12_isNever_B116 post)) V n3 := by
    unfold w_X12_isNever_B90
    have e : (si V 19 (fi V 19 + 1)).1 19 = fi V 19 + 1 := si_at _ _ _
    have e2 : ((si V 19 (fi V 19 + 1)).1 19).toInt = (fi U 19).toInt + 1 := by rw [e, inc1 (by omega), v19]
    exact hk2 _ _ ⟨rfl, ⟨Fr.si (by decide) hWV.1, fun b => BR.si (hWV.2 b)⟩, by show ((si V 19 (fi V 19 + 1)).1 18).toInt = _; rw [si_ne (by decide)]; exact v18, by show 0 ≤ ((si V 19 (fi V 19 + 1)).1 19).toInt; omega, by show ((si V 19 (fi V 19 + 1)).1 19).toInt ≤ 3; omega⟩ (by show (3 - ((si V 19 (fi V 19 + 1)).1 19).toInt).toNat < _; omega)
  refine ⟨fun _ => x90, fun g3 => ⟨fun _ => x90, fun _ => ?_⟩⟩
  have hKV := hK.fw hWV.1
  have e16 : (fi V 16).toInt = (fi S 16).toInt := by
    show (V.1 16).toInt = (S.1 16).toInt
    rw [hWV.1.1 16 (by decide)]
  have hX := hKV.2.2.2.2.1 n3.toInt.toNat (by omega)
  have e2n : ((2 : Int32) + n3).toNatClampNeg = 2 + n3.toInt.toNat := by rw [tnc, ad_2 (by omega)]; omega
  have e2i : ((2 : Int32) + n3).toInt.toNat = 2 + n3.toInt.toNat := e2n
  rw [e2n]
  refine ⟨by rw [ad_2 (by omega)]; omega, q_comesTo V _ _ _ _ (by rw [ad_2 (by omega)]; omega) (by decide) ⟨hX.1, hX.2.1⟩ ?_ ⟨by omega, by omega, by omega⟩ (fun r T2 hF2 => ?_)⟩
  · rw [e2i]; exact hX.2.2
  have hW2 : WW S T2 := hWV.tr ⟨hF2.wk (by decide), BR.fr hF2 (by decide) (by decide)⟩
  refine ⟨fun _ => ?_, fun _ => k _ _ hW2⟩
  have f18 : (fi T2 18).toInt = (fi V 18).toInt := by show (T2.1 18).toInt = (V.1 18).toInt; rw [hF2.1 18 (by decide)]
  have f19 : (fi T2 19).toInt = (fi V 19).toInt := by show (T2.1 19).toInt = (V.1 19).toInt; rw [hF2.1 19 (by decide)]
  have f20 : (fi T2 20).toInt = (fi V 20).toInt := by show (T2.1 20).toInt = (V.1 20).toInt; rw [hF2.1 20 (by decide)]
  have e : (si T2 20 (fi T2 20 + 1)).1 20 = fi T2 20 + 1 := si_at _ _ _
  have e2 : ((si T2 20 (fi T2 20 + 1)).1 20).toInt = (fi V 20).toInt + 1 := by rw [e, inc1 (by omega), f20]
  exact hk3 _ _ ⟨rfl, ⟨Fr.si (by decide) hW2.1, fun b => BR.si (hW2.2 b)⟩, by show ((si T2 20 (fi T2 20 + 1)).1 18).toInt = _; rw [si_ne (by decide)]; exact f18.trans v18, by show ((si T2 20 (fi T2 20 + 1)).1 19).toInt = _; rw [si_ne (by decide)]; exact f19.trans v19, by show 0 ≤ ((si T2 20 (fi T2 20 + 1)).1 20).toInt; omega, by show ((si T2 20 (fi T2 20 + 1)).1 20).toInt ≤ 3; omega⟩ (by show (3 - ((si T2 20 (fi T2 20 + 1)).1 20).toInt).toNat < _; omega)
