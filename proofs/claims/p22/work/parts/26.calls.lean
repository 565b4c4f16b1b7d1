theorem SS.rf {S : GS} (hS : SInv S) : SS S S := ⟨Fr.rf, id, hS⟩
set_option maxHeartbeats 400000 in
theorem q_lawful (S : GS) (r laws set x : Int32) (post : Int32 → GS → Prop) (hK : KInv S) (hS : SInv S) (k : ∀ v S', SS S S' → post v S') : w_X12_lawful S r laws set x post := by
  unfold w_X12_lawful w_X12_lawful_B36 w_X12_lawful_B61
  have no := k (-1) S (SS.rf hS)
  refine q_isRow _ _ _ (fun r1 _ hb1 => ⟨fun _ => no, fun g1 => ?_⟩)
  refine q_isIn _ _ _ _ _ (fun r2 _ hb2 => ⟨fun _ => no, fun g2 => ?_⟩)
  refine q_isIn _ _ _ _ _ (fun r3 _ hb3 => ⟨fun _ => no, fun g3 => ?_⟩)
  refine q_isIn _ _ _ _ _ (fun r4 _ hb4 => ⟨fun g4 => ?_, fun _ => no⟩)
  refine q_goes _ _ _ _ _ hK (by omega) (fun v T hW => ⟨fun _ => k _ _ (hW.ss hS), fun _ => k _ _ (hW.ss hS)⟩)
set_option maxHeartbeats 400000 in
theorem q_after (S : GS) (r x : Int32) (post : Int32 → GS → Prop) (hK : KInv S) (hS : SInv S) (k : ∀ v S', SS S S' → post v S') : w_X12_after S r x post := by
  unfold w_X12_after w_X12_after_B102 w_X12_after_B150 w_X12_after_B146 w_X12_after_B151
  refine q_isRow _ _ _ (fun r1 _ hb1 => ⟨fun g1 => ?_, fun _ => k _ _ (SS.rf hS)⟩)
  refine q_goes _ _ _ _ _ hK (by omega) (fun v T hW => ?_)
  refine q_takes _ _ _ (fun T2 hT => ?_)
  have hy : ∀ v, post v T2 := fun v => k _ _ ((hW.tr hT.ww).ss hS)
  refine q_isOne _ _ _ (fun r2 _ hb2 => ⟨fun g2 => ⟨fun g3 => ?_, fun _ => hy _⟩, fun g2 => ⟨by omega, hy _⟩⟩)
  refine q_isIn _ _ _ _ _ (fun r3 _ hb3 => ?_)
  rw [li_40, li_42] at hb3
  refine ⟨fun g4 => ?_, fun g4 => ⟨?_, hy _⟩⟩
  · refine q_isIn _ _ _ _ _ (fun r4 _ hb4 => ?_)
    have li38 : (38 : Int32).toInt = 38 := by decide
    rw [li_10, li38] at hb4
    refine ⟨fun _ => hy _, fun g5 => ?_⟩
    have e : (x - x / 10 * 10).toInt = x.toInt % 10 := by
      simp (disch := omega) only [Int32.toInt_add, Int32.toInt_sub, Int32.toInt_mul, Int32.toInt_neg, Int32.toInt_div, li_0, li_1, li_2, li_3, li_4, li_5, li_6, li_7, li_8, li_9, li_10, li_11, li_12, li_13, li_14, li_15, li_16, li_20, li_21, li_22, li_23, li_24, li_25, li_26, li_27, li_28, li_29, li_30, li_31, li_32, li_35, li_36, li_40, li_41, li_42, li_43, li_45, li_48, li_50, li_51, li_57, li_59, li_60, li_61, li_62, li_63, li_64, li_97, li_99, li_100, li_122, li_200, li_255, li_302, li_303, li_304, li_305, li_306, li_307, li_308, li_309, li_310, li_311, li_312, li_313, li_314, li_315, li_316, li_317, li_318, li_319, li_400, li_700, li_701, li_720, li_767, li_768, li_999, li_1000, li_1023, li_1024, li_1440, li_18720, tdv, bm, tnc]
      omega
    rw [e]
    refine ⟨fun _ => hy _, fun g6 => ⟨fun _ => ⟨fun _ => ⟨fun _ => ⟨by omega, fun _ => hy _, fun _ => hy _⟩, fun _ => ⟨by omega, fun _ => hy _, fun _ => hy _⟩⟩, fun _ => ⟨by omega, hy _⟩⟩, fun _ => hy _⟩⟩
  · have e : (x - 40).toInt = x.toInt - 40 := by simp (disch := omega) only [Int32.toInt_add, Int32.toInt_sub, Int32.toInt_mul, Int32.toInt_neg, Int32.toInt_div, li_0, li_1, li_2, li_3, li_4, li_5, li_6, li_7, li_8, li_9, li_10, li_11, li_12, li_13, li_14, li_15, li_16, li_20, li_21, li_22, li_23, li_24, li_25, li_26, li_27, li_28, li_29, li_30, li_31, li_32, li_35, li_36, li_40, li_41, li_42, li_43, li_45, li_48, li_50, li_51, li_57, li_59, li_60, li_61, li_62, li_63, li_64, li_97, li_99, li_100, li_122, li_200, li_255, li_302, li_303, li_304, li_305, li_306, li_307, li_308, li_309, li_310, li_311, li_312, li_313, li_314, li_315, li_316, li_317, li_318, li_319, li_400, li_700, li_701, li_720, li_767, li_768, li_999, li_1000, li_1023, li_1024, li_1440, li_18720, tdv, bm, tnc]
    rw [e]; omega
set_option maxHeartbeats 400000 in
theorem q_hole (S : GS) (n laws d ps x : Int32) (post : Int32 → GS → Prop) (hK : KInv S) (hS : SInv S) (k : ∀ v S', SS S S' → post v S') : w_X12_hole S n laws d ps x post := by
  unfold w_X12_hole w_X12_hole_B46
  have no := k (-1) S (SS.rf hS)
  have b48 : 0 ≤ n.toInt ∧ n.toInt < (fi S 16).toInt → (x.toInt = 20 ∨ (0 ≤ x.toInt ∧ x.toInt ≤ 6)) → w_X12_hole_B48 post S n laws d ps x := by
    intro hn hx
    unfold w_X12_hole_B48 w_X12_hole_B151 w_X12_hole_B93
    refine q_searches _ _ _ _ _ _ _ hK hS (Or.inr hn) (fun T hW hm => ?_)
    have h4 := hW.2.2.1
    have h22 := hW.2.2.2.2.2
    refine ⟨fun g1 => ⟨fun g2 => ⟨fun g3 => ⟨by omega, fun _ => k _ _ hW, fun _ => ?_⟩, fun _ => ⟨by omega, k _ _ hW⟩⟩, fun _ => k _ _ hW⟩, fun _ => ⟨fun _ => ⟨fun _ => k _ _ hW, fun _ => k _ _ hW⟩, fun _ => k _ _ hW⟩⟩
    exact q_codeOf _ _ _ _ hW.2.2 (by omega) (by rw [sub1 (by omega)]; omega) (fun v => k _ _ hW)
  refine q_isNeverText _ _ _ hK.2.2.2.1 (fun r1 _ hb1 => ⟨fun _ => no, fun g1 => ?_⟩)
  refine q_canSearch _ _ _ _ (fun r2 _ hb2 => ⟨fun _ => no, fun g2 => ?_⟩)
  refine q_isIn _ _ _ _ _ (fun r3 _ hb3 => ⟨fun _ => no, fun g3 => ⟨fun g4 => b48 (by omega) (Or.inl g4), fun g4 => ?_⟩⟩)
  refine q_isIn _ _ _ _ _ (fun r5 _ hb5 => ?_)
  rw [li_0, li_6] at hb5
  exact ⟨fun g5 => b48 (by omega) (Or.inr (by omega)), fun _ => no⟩
set_option maxHeartbeats 400000 in
theorem q_friends (S : GS) (n laws d : Int32) (post : Int32 → GS → Prop) (hK : KInv S) (hS : SInv S) (k : ∀ v S', SS S S' → post v S') : w_X12_friends S n laws d post := by
  unfold w_X12_friends w_X12_friends_B17
  have no := k (-1) S (SS.rf hS)
  refine q_isNeverText _ _ _ hK.2.2.2.1 (fun r1 _ hb1 => ⟨fun _ => no, fun g1 => ?_⟩)
  refine q_canSearch _ _ _ _ (fun r2 _ hb2 => ⟨fun g2 => ?_, fun _ => no⟩)
  refine lr5 (fun (T : GS) (n' _ _ m : Int32) => n' = n ∧ SS S T ∧ 0 ≤ m.toInt ∧ m.toInt ≤ 4) (fun _ _ _ _ m => (4 - m.toInt).toNat) ?_ _ _ _ _ _ ⟨rfl, SS.rf hS, by decide, by decide⟩
  rintro kk T n' l2 d2 m ⟨rfl, hW, m0, m4⟩ hk
  unfold w_X12_friends_F22 w_X12_friends_B84
  refine ⟨fun _ => k _ _ hW, fun g => ?_⟩
  refine lr6 (fun (U : GS) (n2 _ _ m2 s : Int32) => n2 = n' ∧ m2 = m ∧ SS S U ∧ 0 ≤ s.toInt ∧ s.toInt ≤ 8) (fun _ _ _ _ _ s => (8 - s.toInt).toNat) ?_ _ _ _ _ _ _ ⟨rfl, rfl, hW, by decide, by decide⟩
  rintro kk2 U n2 l3 d3 m2 s ⟨rfl, rfl, hU, s0, s8⟩ hk2
  unfold w_X12_friends_F31 w_X12_friends_B78 w_X12_friends_B72
  have go : s.toInt < 8 → ∀ V, SS S V → kk2 V n2 l3 d3 m2 (s + 1) := fun g V hV => hk2 _ _ _ _ _ _ ⟨rfl, rfl, hV, by rw [inc1 (by omega)]; omega, by rw [inc1 (by omega)]; omega⟩ (by rw [inc1 (by omega)]; omega)
  refine ⟨fun _ => hk _ _ _ _ _ ⟨rfl, hU, by rw [inc1 (by omega)]; omega, by rw [inc1 (by omega)]; omega⟩ (by rw [inc1 (by omega)]; omega), fun g2 => q_bits _ _ _ (fun r => ⟨fun _ => ?_, fun _ => go g2 _ hU⟩)⟩
  have e16 : (fi U 16).toInt = (fi S 16).toInt := by
    show (U.1 16).toInt = (S.1 16).toInt
    rw [hU.1.1 16 (by decide)]
  refine q_searches _ _ _ _ _ _ _ (hK.fr hU.1) hU.2.2 (Or.inr (by omega)) (fun V hV _ => ⟨fun _ => go g2 _ (hU.tr hV), fun _ => k _ _ (hU.tr hV)⟩)
set_option maxHeartbeats 400000 in
theorem q_only (S : GS) (n d : Int32) (post : Int32 → GS → Prop) (hK : KInv S) (hS : SInv S) (k : ∀ v S', SS S S' → post v S') : w_X12_only S n d post := by
  unfold w_X12_only w_X12_only_B18
  have no := k (-1) S (SS.rf hS)
  refine q_isNeverText _ _ _ hK.2.2.2.1 (fun r1 _ hb1 => ⟨fun _ => no, fun g1 => ?_⟩)
  refine q_isIn _ _ _ _ _ (fun r2 _ hb2 => ⟨fun g2 => ?_, fun _ => no⟩)
  refine lr6 (fun (T : GS) (n' _ _ _ m : Int32) => n' = n ∧ SS S T ∧ 0 ≤ m.toInt ∧ m.toInt ≤ 4) (fun _ _ _ _ _ m => (4 - m.toInt).toNat) ?_ _ _ _ _ _ _ ⟨rfl, SS.rf hS, by decide, by decide⟩
  rintro kk T n' d2 y z m ⟨rfl, hW, m0, m4⟩ hk
  unfold w_X12_only_F28 w_X12_only_B107 w_X12_only_B126
  have hy : ∀ v, post v T := fun v => k _ _ hW
  refine ⟨fun _ => ⟨fun _ => ⟨fun _ => hy _, fun _ => hy _⟩, fun _ => hy _⟩, fun g => ?_⟩
  have e16 : (fi T 16).toInt = (fi S 16).toInt := by
    show (T.1 16).toInt = (S.1 16).toInt
    rw [hW.1.1 16 (by decide)]
  refine q_searches _ _ _ _ _ _ _ (hK.fr hW.1) hW.2.2 (Or.inr (by omega)) (fun V hV _ => ?_)
  have go : ∀ y z, kk V n' d2 y z (m + 1) := fun y z => hk _ _ _ _ _ _ ⟨rfl, hW.tr hV, by rw [inc1 (by omega)]; omega, by rw [inc1 (by omega)]; omega⟩ (by rw [inc1 (by omega)]; omega)
  have b62 : ∀ y0, w_X12_only_B62 post kk (w_X12_only_B107 post) V n' d2 y m y0 := by
    intro y0
    unfold w_X12_only_B62 w_X12_only_B99 w_X12_only_B100 w_X12_only_B81 w_X12_only_B92 w_X12_only_B99 w_X12_only_B100
    exact ⟨fun _ => go _ _, fun _ => ⟨fun _ => ⟨fun _ => ⟨fun _ => go _ _, fun _ => go _ _⟩, fun _ => ⟨fun _ => go _ _, fun _ => go _ _⟩⟩, fun _ => ⟨fun _ => ⟨fun _ => go _ _, fun _ => go _ _⟩, fun _ => ⟨fun _ => go _ _, fun _ => go _ _⟩⟩⟩⟩
  unfold w_X12_only_B57
  exact ⟨fun _ => b62 _, fun _ => ⟨fun _ => b62 _, fun _ => b62 _⟩⟩
set_option maxHeartbeats 400000 in
theorem q_stop (S : GS) (n d x : Int32) (post : Int32 → GS → Prop) (hK : KInv S) (hS : SInv S) (k : ∀ v S', SS S S' → post v S') : w_X12_stop S n d x post := by
  unfold w_X12_stop w_X12_stop_B27
  have no := k (-1) S (SS.rf hS)
  refine q_isNeverText _ _ _ hK.2.2.2.1 (fun r1 _ hb1 => ⟨fun _ => no, fun g1 => ?_⟩)
  refine q_isIn _ _ _ _ _ (fun r2 _ hb2 => ⟨fun _ => no, fun g2 => ?_⟩)
  refine q_isIn _ _ _ _ _ (fun r3 _ hb3 => ⟨fun g3 => ?_, fun _ => no⟩)
  refine lr5 (fun (T : GS) (n' _ _ m : Int32) => n' = n ∧ SS S T ∧ 0 ≤ m.toInt ∧ m.toInt ≤ 6) (fun _ _ _ _ m => (6 - m.toInt).toNat) ?_ _ _ _ _ _ ⟨rfl, SS.rf hS, by decide, by decide⟩
  rintro kk T n' d2 x2 m ⟨rfl, hW, m0, m4⟩ hk
  unfold w_X12_stop_F32 w_X12_stop_B127
  have hKT := hK.fr hW.1
  have h17 := hKT.2.2.2.2.2.1
  refine ⟨fun _ => k _ _ hW, fun g => ?_⟩
  refine lr6 (fun (U : GS) (n2 _ _ m2 s : Int32) => n2 = n' ∧ m2 = m ∧ SS S U ∧ fi U 17 = fi T 17 ∧ 0 ≤ s.toInt) (fun U _ _ _ _ s => ((((1 : Int32) <<< ((fi T 17) &&& 31)).toInt) - s.toInt).toNat) ?_ _ _ _ _ _ _ ⟨rfl, rfl, hW, rfl, by decide⟩
  rintro kk2 U n2 d3 x3 m2 s ⟨rfl, rfl, hU, u17, s0⟩ hk2
  unfold w_X12_stop_F44 w_X12_stop_B121 w_X12_stop_B115 w_X12_stop_B114
  rw [u17]
  generalize hP : ((1 : Int32) <<< ((fi T 17) &&& 31)) = P at hk2 ⊢
  have hPr := i_rng P
  have go : s.toInt < P.toInt → ∀ V, SS S V → fi V 17 = fi T 17 → kk2 V n2 d3 x3 m2 (s + 1) := fun g V hV e => hk2 _ _ _ _ _ _ ⟨rfl, rfl, hV, e, by rw [inc1 (by omega)]; omega⟩ (by rw [inc1 (by omega)]; omega)
  refine ⟨fun _ => hk _ _ _ _ _ ⟨rfl, hU, by rw [inc1 (by omega)]; omega, by rw [inc1 (by omega)]; omega⟩ (by rw [inc1 (by omega)]; omega), fun g2 => q_bits _ _ _ (fun r => ⟨fun _ => go g2 _ hU u17, fun _ => ?_⟩)⟩
  refine q_isHonestAll _ _ _ (hK.fr hU.1) (fun v V hV => ?_)
  have hVS : SS S V := hU.tr (hV.ss hU.2.2)
  have v17 : fi V 17 = fi T 17 := (hV.1.1 17 (by decide) : V.1 17 = U.1 17).trans u17
  have e16 : (fi V 16).toInt = (fi S 16).toInt := by
    show (V.1 16).toInt = (S.1 16).toInt
    rw [hVS.1.1 16 (by decide)]
  refine ⟨fun _ => ?_, fun _ => go g2 _ hVS v17⟩
  refine q_searches _ _ _ _ _ _ _ (hK.fr hVS.1) hVS.2.2 (Or.inr (by omega)) (fun W hX _ => ?_)
  have w17 : fi W 17 = fi T 17 := (hX.1.1 17 (by decide) : W.1 17 = V.1 17).trans v17
  have hy : ∀ v, post v W := fun v => k _ _ (hVS.tr hX)
  exact ⟨fun _ => go g2 _ (hVS.tr hX) w17, fun _ => ⟨fun _ => go g2 _ (hVS.tr hX) w17, fun _ => ⟨fun _ => hy _, fun _ => hy _⟩⟩⟩
set_option maxHeartbeats 400000 in
theorem q_gain (S : GS) (p laws d x : Int32) (post : Int32 → GS → Prop) (hK : KInv S) (hS : SInv S) (k : ∀ v S', SS S S' → post v S') : w_X12_gain S p laws d x post := by
  unfold w_X12_gain w_X12_gain_B27
  have no := k (-100) S (SS.rf hS)
  refine q_isOne _ _ _ (fun r1 _ hb1 => ⟨fun _ => no, fun g1 => ?_⟩)
  refine q_canSearch _ _ _ _ (fun r2 _ hb2 => ⟨fun _ => no, fun g2 => ?_⟩)
  refine q_isIn _ _ _ _ _ (fun r3 _ hb3 => ?_)
  rw [li_0, li_7] at hb3
  refine ⟨fun g3 => ?_, fun _ => no⟩
  refine q_searches _ _ _ _ _ _ _ hK hS (Or.inl (by decide)) (fun T hW hm => ⟨fun _ => ?_, fun _ => k _ _ hW⟩)
  have h4 := hW.2.2.1
  refine lr6 (fun (U : GS) (p' x' b m i : Int32) => p' = p ∧ x' = x ∧ SS S U ∧ (fi U 21).toInt = (fi T 21).toInt ∧ 0 ≤ i.toInt ∧ i.toInt ≤ (fi T 21).toInt ∧ ((b.toInt = -1 ∧ i.toInt = 0) ∨ (0 ≤ b.toInt ∧ b.toInt < (fi T 21).toInt))) (fun _ _ _ _ _ i => ((fi T 21).toInt - i.toInt).toNat) ?_ _ _ _ _ _ _ ⟨rfl, rfl, hW, rfl, by decide, by rw [li_0]; omega, Or.inl ⟨by decide, by decide⟩⟩
  rintro kk U p' x' b m i ⟨rfl, rfl, hU, u21, i0, i1, hb⟩ hk
  unfold w_X12_gain_F59
  refine ⟨fun g => ?_, fun g => ⟨by omega, ?_⟩⟩
  · unfold w_X12_gain_B147 w_X12_gain_B200 w_X12_gain_B170
    refine ⟨fun g4 => ⟨by omega, fun _ => k _ _ hU, fun _ => ?_⟩, fun _ => ⟨fun _ => ⟨by omega, k _ _ hU⟩, fun _ => k _ _ hU⟩⟩
    have e : (x' - 2).toInt = x'.toInt - 2 := by simp (disch := omega) only [Int32.toInt_add, Int32.toInt_sub, Int32.toInt_mul, Int32.toInt_neg, Int32.toInt_div, li_0, li_1, li_2, li_3, li_4, li_5, li_6, li_7, li_8, li_9, li_10, li_11, li_12, li_13, li_14, li_15, li_16, li_20, li_21, li_22, li_23, li_24, li_25, li_26, li_27, li_28, li_29, li_30, li_31, li_32, li_35, li_36, li_40, li_41, li_42, li_43, li_45, li_48, li_50, li_51, li_57, li_59, li_60, li_61, li_62, li_63, li_64, li_97, li_99, li_100, li_122, li_200, li_255, li_302, li_303, li_304, li_305, li_306, li_307, li_308, li_309, li_310, li_311, li_312, li_313, li_314, li_315, li_316, li_317, li_318, li_319, li_400, li_700, li_701, li_720, li_767, li_768, li_999, li_1000, li_1023, li_1024, li_1440, li_18720, tdv, bm, tnc]
    exact q_codeOf _ _ _ _ hU.2.2 (by omega) (by rw [e]; omega) (fun v => k _ _ hU)
  · refine q_takes _ _ _ (fun V hT => ⟨by omega, ?_⟩)
    have hV : SS S V := hU.tr (hT.ww.ss hU.2.2)
    have v21 : (fi V 21).toInt = (fi T 21).toInt := by
      have : V.1 21 = U.1 21 := hT.1.1 21 (by decide)
      show (V.1 21).toInt = _
      rw [this]; exact u21
    have h3 : ∀ (y r : Int32), 0 ≤ y.toInt ∧ y.toInt ≤ 1 → r.toInt = (p'.toInt + 1 + y.toInt) % 3 → 0 ≤ ((3 : Int32) * p' + r).toInt ∧ ((3 : Int32) * p' + r).toInt < 9 := by
      intro y r hy hr
      rw [ma_3 (by omega) (by omega)]
      omega
    have go : ∀ b2 m2, ((b2 = b ∧ b.toInt ≠ -1) ∨ b2 = i) → kk V p' x' b2 m2 (i + 1) := fun b2 m2 hb2 => hk _ _ _ _ _ _ ⟨rfl, rfl, hV, v21, by rw [inc1 (by omega)]; omega, by rw [inc1 (by omega)]; omega, Or.inr (by rcases hb2 with ⟨rfl, h⟩ | rfl <;> omega)⟩ (by rw [inc1 (by omega)]; omega)
    unfold w_X12_gain_B133 w_X12_gain_B141
    refine q_other _ _ _ _ (by omega) (by decide) (fun r1 hr1 => ⟨h3 0 r1 (by decide) hr1, ?_⟩)
    refine q_other _ _ _ _ (by omega) (by decide) (fun r2 hr2 => ⟨h3 1 r2 (by decide) hr2, fun _ => go _ _ (Or.inr rfl), fun g5 => ⟨fun _ => go _ _ (Or.inr rfl), fun _ => go _ _ (Or.inl ⟨rfl, g5⟩)⟩⟩)
/-- plainest's rows -/
def PL (S T : GS) : Prop := Fr [0] [] [0, 1, 2, 3, 4, 32, 33, 34, 35, 36] [] S T ∧ BR T ∧ (∀ q, q < 3 → 0 ≤ (ar T 34 q).toInt ∧ (ar T 34 q).toInt ≤ 3) ∧ (∀ q, q < 9 → (ar T 35 q = 0 ∨ ar T 35 q = 1) ∧ (ar T 36 q = 0 ∨ ar T 36 q = 1)) ∧ ∀ i, i = 0 ∨ i = 4 ∨ i = 8 → ar T 33 i = 0
theorem PL_su {S T : GS} {j i : Nat} {x : Int32} (hj : j ∈ [0, 2]) (h : PL S T) : PL S (su T j i x) := by
  have hj2 : j = 0 ∨ j = 2 := by simpa using hj
  have hj3 : j ∈ [0, 1, 2, 3, 4, 32, 33, 34, 35, 36] := by
    rcases hj2 with rfl | rfl <;> decide
  refine ⟨Fr.su hj3 h.1, BR.sn (by omega) h.2.1, ?_, ?_, ?_⟩
  · intro q hq
    show 0 ≤ ((su T j i x).2.2.1 34 q).toInt ∧ ((su T j i x).2.2.1 34 q).toInt ≤ 3
    rw [su_ne (by omega)]; exact h.2.2.1 q hq
  · intro q hq
    show ((su T j i x).2.2.1 35 q = 0 ∨ (su T j i x).2.2.1 35 q = 1) ∧ ((su T j i x).2.2.1 36 q = 0 ∨ (su T j i x).2.2.1 36 q = 1)
    rw [su_ne (by omega), su_ne (by omega)]; exact h.2.2.2.1 q hq
  · intro k hk
    show (su T j i x).2.2.1 33 k = 0
    rw [su_ne (by omega)]; exact h.2.2.2.2 k hk
theorem PL_s1 {S T : GS} {i : Nat} {x : Int32} (hx : i = 0 ∨ i = 4 ∨ i = 8 → x = 0) (h : PL S T) : PL S (su T 1 i x) := by
  refine ⟨Fr.su (by decide) h.1, BR.s1 hx h.2.1, ?_, ?_, ?_⟩
  · intro q hq
    show 0 ≤ ((su T 1 i x).2.2.1 34 q).toInt ∧ ((su T 1 i x).2.2.1 34 q).toInt ≤ 3
    rw [su_ne (by omega)]; exact h.2.2.1 q hq
  · intro q hq
    show ((su T 1 i x).2.2.1 35 q = 0 ∨ (su T 1 i x).2.2.1 35 q = 1) ∧ ((su T 1 i x).2.2.1 36 q = 0 ∨ (su T 1 i x).2.2.1 36 q = 1)
    rw [su_ne (by omega), su_ne (by omega)]; exact h.2.2.2.1 q hq
  · intro k hk
    show (su T 1 i x).2.2.1 33 k = 0
    rw [su_ne (by omega)]; exact h.2.2.2.2 k hk
theorem PL_s3 {S T : GS} {i : Nat} {x : Int32} (hx : x = 0 ∨ x = 1) (h : PL S T) : PL S (su T 3 i x) := by
  refine ⟨Fr.su (by decide) h.1, BR.s3 hx h.2.1, ?_, ?_, ?_⟩
  · intro q hq
    show 0 ≤ ((su T 3 i x).2.2.1 34 q).toInt ∧ ((su T 3 i x).2.2.1 34 q).toInt ≤ 3
    rw [su_ne (by omega)]; exact h.2.2.1 q hq
  · intro q hq
    show ((su T 3 i x).2.2.1 35 q = 0 ∨ (su T 3 i x).2.2.1 35 q = 1) ∧ ((su T 3 i x).2.2.1 36 q = 0 ∨ (su T 3 i x).2.2.1 36 q = 1)
    rw [su_ne (by omega), su_ne (by omega)]; exact h.2.2.2.1 q hq
  · intro k hk
    show (su T 3 i x).2.2.1 33 k = 0
    rw [su_ne (by decide)]; exact h.2.2.2.2 k hk
theorem PL_s4 {S T : GS} {i : Nat} {x : Int32} (hx : x = 0 ∨ x = 1) (h : PL S T) : PL S (su T 4 i x) := by
  refine ⟨Fr.su (by decide) h.1, BR.s4 hx h.2.1, ?_, ?_, ?_⟩
  · intro q hq
    show 0 ≤ ((su T 4 i x).2.2.1 34 q).toInt ∧ ((su T 4 i x).2.2.1 34 q).toInt ≤ 3
    rw [su_ne (by omega)]; exact h.2.2.1 q hq
  · intro q hq
    show ((su T 4 i x).2.2.1 35 q = 0 ∨ (su T 4 i x).2.2.1 35 q = 1) ∧ ((su T 4 i x).2.2.1 36 q = 0 ∨ (su T 4 i x).2.2.1 36 q = 1)
    rw [su_ne (by omega), su_ne (by omega)]; exact h.2.2.2.1 q hq
  · intro k hk
    show (su T 4 i x).2.2.1 33 k = 0
    rw [su_ne (by decide)]; exact h.2.2.2.2 k hk
theorem bec_in : ∀ r, r < 6 → ∀ p, p < 3 → ∀ q, q < 3 → becI (3 * r + p) = becI (3 * r + q) → p = q := by decide +kernel
theorem q_renamedD (S : GS) (r0 v : Int32) (post : Int32 → GS → Prop) (hn : ∀ i, i < 18 → ar S 31 i = becI i) (hr : ∀ i, i < 18 → 0 ≤ (ar S 31 i).toInt ∧ (ar S 31 i).toInt ≤ 2) (h1 : 0 ≤ r0.toInt ∧ r0.toInt ≤ 5) (h2 : 0 ≤ v.toInt ∧ v.toInt ≤ 2) (k : ∀ r : Int32, 0 ≤ r.toInt ∧ r.toInt ≤ 2 → r = becI (3 * r0.toInt.toNat + v.toInt.toNat) → post r S) : w_X12_renamed S r0 v post := by
  unfold w_X12_renamed w_X12_renamed_B19
  have e := ma_3 (p := r0) (q := v) (by omega) (by omega)
  have en : (3 * r0 + v).toNatClampNeg = 3 * r0.toInt.toNat + v.toInt.toNat := by rw [tnc, e]; omega
  refine ⟨fun h => ⟨by omega, ?_⟩, fun h => by exfalso; omega⟩
  rw [en]
  exact k _ (hr _ (by omega)) (hn _ (by omega))
set_option maxHeartbeats 400000 in
theorem q_plainest (S : GS) (st : Int64) (post : Int64 → GS → Prop) (hK : KInv S) (hB : BR S) (k : ∀ v S', PL S S' → post v S') : w_X12_plainest S st post := by
  have hn : ∀ T, PL S T → ∀ i, i < 18 → 0 ≤ (ar T 31 i).toInt ∧ (ar T 31 i).toInt ≤ 2 := by
    intro T hT i hi
    show 0 ≤ (T.2.2.1 31 i).toInt ∧ (T.2.2.1 31 i).toInt ≤ 2
    rw [hT.1.2.2.1 31 (by decide)]
    exact hK.2.2.2.2.2.2.2.2.2.1 i hi
  have b108 : ∀ T v, PL S T → w_X12_plainest_B108 post T v := by
    intro T v hT
    unfold w_X12_plainest_B108
    refine lr3 (fun (T : GS) (_ : Int64) (r : Int32) => PL S T ∧ 0 ≤ r.toInt ∧ r.toInt ≤ 36) (fun _ _ r => (36 - r.toInt).toNat) ?_ _ _ _ ⟨hT, by decide, by decide⟩
    rintro kk T v r ⟨hT, r0, r6⟩ hk
    unfold w_X12_plainest_F111 w_X12_plainest_B313
    refine ⟨fun _ => k _ _ hT, fun g => ?_⟩
    have er : (r / 6).toInt = r.toInt / 6 := by simp (disch := omega) only [Int32.toInt_add, Int32.toInt_sub, Int32.toInt_mul, Int32.toInt_neg, Int32.toInt_div, li_0, li_1, li_2, li_3, li_4, li_5, li_6, li_7, li_8, li_9, li_10, li_11, li_12, li_13, li_14, li_15, li_16, li_20, li_21, li_22, li_23, li_24, li_25, li_26, li_27, li_28, li_29, li_30, li_31, li_32, li_35, li_36, li_40, li_41, li_42, li_43, li_45, li_48, li_50, li_51, li_57, li_59, li_60, li_61, li_62, li_63, li_64, li_97, li_99, li_100, li_122, li_200, li_255, li_302, li_303, li_304, li_305, li_306, li_307, li_308, li_309, li_310, li_311, li_312, li_313, li_314, li_315, li_316, li_317, li_318, li_319, li_400, li_700, li_701, li_720, li_767, li_768, li_999, li_1000, li_1023, li_1024, li_1440, li_18720, tdv, bm, tnc]
    have er2 : (r - r / 6 * 6).toInt = r.toInt % 6 := by
      simp (disch := omega) only [Int32.toInt_add, Int32.toInt_sub, Int32.toInt_mul, Int32.toInt_neg, Int32.toInt_div, li_0, li_1, li_2, li_3, li_4, li_5, li_6, li_7, li_8, li_9, li_10, li_11, li_12, li_13, li_14, li_15, li_16, li_20, li_21, li_22, li_23, li_24, li_25, li_26, li_27, li_28, li_29, li_30, li_31, li_32, li_35, li_36, li_40, li_41, li_42, li_43, li_45, li_48, li_50, li_51, li_57, li_59, li_60, li_61, li_62, li_63, li_64, li_97, li_99, li_100, li_122, li_200, li_255, li_302, li_303, li_304, li_305, li_306, li_307, li_308, li_309, li_310, li_311, li_312, li_313, li_314, li_315, li_316, li_317, li_318, li_319, li_400, li_700, li_701, li_720, li_767, li_768, li_999, li_1000, li_1023, li_1024, li_1440, li_18720, tdv, bm, tnc]
      omega
    refine lr4 (fun (U : GS) (_ : Int64) (r' p : Int32) => r' = r ∧ PL S U ∧ 0 ≤ p.toInt ∧ p.toInt ≤ 3) (fun _ _ _ p => (3 - p.toInt).toNat) ?_ _ _ _ _ ⟨rfl, hT, by decide, by decide⟩
    rintro kk2 U v2 r' p ⟨rfl, hU, p0, p3⟩ hk2
    unfold w_X12_plainest_F121
    refine ⟨fun _ => ?_, fun g2 => ?_⟩
    · unfold w_X12_plainest_B287 w_X12_plainest_B306
      have go : ∀ v, kk U v (r' + 1) := fun v => hk _ _ _ ⟨hU, by rw [inc1 (by omega)]; omega, by rw [inc1 (by omega)]; omega⟩ (by rw [inc1 (by omega)]; omega)
      exact q_packs _ _ (fun v => ⟨fun _ => go _, fun _ => go _⟩)
    · refine q_renamed _ _ _ _ (hn _ hU) (by rw [er]; omega) (by omega) (fun a ha => ⟨by omega, by omega, ?_⟩)
      have hU2 := PL_su (j := 0) (i := a.toNatClampNeg) (x := ar U 32 p.toNatClampNeg) (by decide) hU
      generalize su U 0 a.toNatClampNeg (ar U 32 p.toNatClampNeg) = U2 at hU2 ⊢
      refine q_renamed _ _ _ _ (hn _ hU2) (by rw [er2]; omega) (by omega) (fun b hb => ⟨by omega, ?_⟩)
      refine q_renamed _ _ _ _ (hn _ hU2) (by rw [er]; omega) (hU2.2.2.1 _ (by rw [tnc]; omega)) (fun c hc => ⟨by omega, ?_⟩)
      refine lr5 (fun (V : GS) (_ : Int64) (r2 p2 q : Int32) => r2 = r' ∧ p2 = p ∧ PL S V ∧ 0 ≤ q.toInt ∧ q.toInt ≤ 3) (fun _ _ _ _ q => (3 - q.toInt).toNat) ?_ _ _ _ _ _ ⟨rfl, rfl, PL_su (by decide) hU2, by decide, by decide⟩
      rintro kk3 V v3 r2 p2 q ⟨rfl, rfl, hV, q0, q3⟩ hk3
      unfold w_X12_plainest_F185 w_X12_plainest_B281
      refine ⟨fun _ => hk2 _ _ _ _ ⟨rfl, hV, by rw [inc1 (by omega)]; omega, by rw [inc1 (by omega)]; omega⟩ (by rw [inc1 (by omega)]; omega), fun g3 => ?_⟩
      refine q_renamedD _ _ _ _ hV.2.1.2.2 (hn _ hV) (by rw [er]; omega) (by omega) (fun a2 ha2 ea2 => ?_)
      refine q_renamedD _ _ _ _ hV.2.1.2.2 (hn _ hV) (by rw [er]; omega) (by omega) (fun b2 hb2 eb2 => ?_)
      have hz33 : ((3 : Int32) * a2 + b2).toNatClampNeg = 0 ∨ ((3 : Int32) * a2 + b2).toNatClampNeg = 4 ∨ ((3 : Int32) * a2 + b2).toNatClampNeg = 8 → ar V 33 ((3 : Int32) * p2 + q).toNatClampNeg = 0 := by
        intro z
        have x1 := ma_3 (p := a2) (q := b2) (by omega) (by omega)
        have x2 := ma_3 (p := p2) (q := q) (by omega) (by omega)
        rw [tnc, x1] at z
        have eab : a2 = b2 := i_eq (by omega)
        have epq := bec_in ((r2 / 6).toInt.toNat) (by rw [er]; omega) p2.toInt.toNat (by omega) q.toInt.toNat (by omega) (ea2.symm.trans (eab.trans eb2))
        exact hV.2.2.2.2 _ (by rw [tnc, x2]; omega)
      have hw := hV.2.2.2.1 ((3 : Int32) * p2 + q).toNatClampNeg (by rw [tnc, ma_3 (by omega) (by omega)]; omega)
      rw [ma_3 (p := p2) (q := q) (by omega) (by omega), ma_3 (p := a2) (q := b2) (by omega) (by omega)]
      refine ⟨by omega, by omega, by omega, by omega, hw.1, by omega, by omega, hw.2, hk3 _ _ _ _ _ ⟨rfl, rfl, PL_s4 hw.2 (PL_s3 hw.1 (PL_s1 hz33 hV)), by rw [inc1 (by omega)]; omega, by rw [inc1 (by omega)]; omega⟩ (by rw [inc1 (by omega)]; omega)⟩
  unfold w_X12_plainest
  refine q_takes _ _ _ (fun S1 hT => ?_)
  have hB1 := hT.2.1 hB
  have b50 : ∀ T v, (Fr [0] [] [0, 1, 2, 3, 4, 32, 33, 34, 35, 36] [] S T ∧ BR T ∧ (∀ q, q < 3 → 0 ≤ (ar T 34 q).toInt ∧ (ar T 34 q).toInt ≤ 3)) → w_X12_plainest_B50 post T v := by
    intro T v hP
    unfold w_X12_plainest_B50
    refine lr3 (fun (T : GS) (_ : Int64) (j : Int32) => (Fr [0] [] [0, 1, 2, 3, 4, 32, 33, 34, 35, 36] [] S T ∧ BR T ∧ (∀ q, q < 3 → 0 ≤ (ar T 34 q).toInt ∧ (ar T 34 q).toInt ≤ 3)) ∧ (0 ≤ j.toInt ∧ j.toInt ≤ 9) ∧ (∀ q : Nat, (q : Int) < j.toInt → ((ar T 35 q = 0 ∨ ar T 35 q = 1) ∧ (ar T 36 q = 0 ∨ ar T 36 q = 1)) ∧ ((q = 0 ∨ q = 4 ∨ q = 8) → ar T 33 q = 0))) (fun _ _ j => (9 - j.toInt).toNat) ?_ _ _ _ ⟨hP, by decide, fun q hq => by rw [li_0] at hq; omega⟩
    rintro kk T v j ⟨hP, hj, hQ⟩ hk
    unfold w_X12_plainest_F53
    refine ⟨fun g => b108 _ _ ⟨hP.1, hP.2.1, hP.2.2, fun q hq => (hQ q (by omega)).1, fun q hq => (hQ q (by omega)).2 hq⟩, fun g => ?_⟩
    have hb := hP.2.1.1 j.toNatClampNeg (by rw [tnc]; omega)
    refine ⟨by omega, by omega, by omega, by omega, hb.1, by omega, by omega, hb.2, hk _ _ _ ⟨⟨Fr.su (by decide) (Fr.su (by decide) (Fr.su (by decide) hP.1)), BR.sn (by decide) (BR.sn (by decide) (BR.sn (by decide) hP.2.1)), ?_⟩, ⟨by rw [inc1 (by omega)]; omega, by rw [inc1 (by omega)]; omega⟩, ?_⟩ (by rw [inc1 (by omega)]; omega)⟩
    · intro q hq
      have := hP.2.2 q hq
      simp (disch := omega) only [si_at, si_ne, si_2, sl_at, sl_ne, sl_1, sl_2, su_at, su_ne, su_1, su_2, su_3, sv_at, sv_ne, sv_1, sv_2, sv_3, upd_at, upd_ne, upl_at, upl_ne, Int32.toInt_add, Int32.toInt_sub, Int32.toInt_mul, Int32.toInt_neg, Int32.toInt_div, li_0, li_1, li_2, li_3, li_4, li_5, li_6, li_7, li_8, li_9, li_10, li_11, li_12, li_13, li_14, li_15, li_16, li_20, li_21, li_22, li_23, li_24, li_25, li_26, li_27, li_28, li_29, li_30, li_31, li_32, li_35, li_36, li_40, li_41, li_42, li_43, li_45, li_48, li_50, li_51, li_57, li_59, li_60, li_61, li_62, li_63, li_64, li_97, li_99, li_100, li_122, li_200, li_255, li_302, li_303, li_304, li_305, li_306, li_307, li_308, li_309, li_310, li_311, li_312, li_313, li_314, li_315, li_316, li_317, li_318, li_319, li_400, li_700, li_701, li_720, li_767, li_768, li_999, li_1000, li_1023, li_1024, li_1440, li_18720, tdv, bm, tnc]
      exact this
    · intro q hq
      rw [inc1 (by omega)] at hq
      simp (disch := omega) only [si_at, si_ne, si_2, sl_at, sl_ne, sl_1, sl_2, su_at, su_ne, su_1, su_2, su_3, sv_at, sv_ne, sv_1, sv_2, sv_3, upd_at, upd_ne, upl_at, upl_ne, Int32.toInt_add, Int32.toInt_sub, Int32.toInt_mul, Int32.toInt_neg, Int32.toInt_div, li_0, li_1, li_2, li_3, li_4, li_5, li_6, li_7, li_8, li_9, li_10, li_11, li_12, li_13, li_14, li_15, li_16, li_20, li_21, li_22, li_23, li_24, li_25, li_26, li_27, li_28, li_29, li_30, li_31, li_32, li_35, li_36, li_40, li_41, li_42, li_43, li_45, li_48, li_50, li_51, li_57, li_59, li_60, li_61, li_62, li_63, li_64, li_97, li_99, li_100, li_122, li_200, li_255, li_302, li_303, li_304, li_305, li_306, li_307, li_308, li_309, li_310, li_311, li_312, li_313, li_314, li_315, li_316, li_317, li_318, li_319, li_400, li_700, li_701, li_720, li_767, li_768, li_999, li_1000, li_1023, li_1024, li_1440, li_18720, tdv, bm, tnc]
      by_cases e : q = j.toInt.toNat
      · rw [e, upd_at, upd_at, upd_at]
        exact ⟨hb, fun z => hP.2.1.2.1 _ z⟩
      · rw [upd_ne e, upd_ne e, upd_ne e]; exact hQ q (by omega)
  refine lr3 (fun (T : GS) (_ : Int64) (j : Int32) => (Fr [0] [] [0, 1, 2, 3, 4, 32, 33, 34, 35, 36] [] S T ∧ BR T) ∧ (0 ≤ j.toInt ∧ j.toInt ≤ 3) ∧ (∀ q : Nat, q < 3 → 0 ≤ (ar T 2 q).toInt ∧ (ar T 2 q).toInt ≤ 3) ∧ (∀ q : Nat, (q : Int) < j.toInt → 0 ≤ (ar T 34 q).toInt ∧ (ar T 34 q).toInt ≤ 3)) (fun _ _ j => (3 - j.toInt).toNat) ?_ _ _ _ ⟨⟨hT.1.wk (by decide), hB1⟩, by decide, fun q hq => hT.2.2 q (by omega) (by omega), fun q hq => by rw [li_0] at hq; omega⟩
  rintro kk T v j ⟨hP, hj, hO, hQ⟩ hk
  unfold w_X12_plainest_F10
  refine ⟨fun g => b50 _ _ ⟨hP.1, hP.2, fun q hq => hQ q (by omega)⟩, fun g => ?_⟩
  refine ⟨by omega, by omega, by omega, by omega, hk _ _ _ ⟨⟨Fr.su (by decide) (Fr.su (by decide) hP.1), BR.sn (by decide) (BR.sn (by decide) hP.2)⟩, ⟨by rw [inc1 (by omega)]; omega, by rw [inc1 (by omega)]; omega⟩, ?_, ?_⟩ (by rw [inc1 (by omega)]; omega)⟩
  · intro q hq
    have := hO q hq
    simp (disch := omega) only [si_at, si_ne, si_2, sl_at, sl_ne, sl_1, sl_2, su_at, su_ne, su_1, su_2, su_3, sv_at, sv_ne, sv_1, sv_2, sv_3, upd_at, upd_ne, upl_at, upl_ne, Int32.toInt_add, Int32.toInt_sub, Int32.toInt_mul, Int32.toInt_neg, Int32.toInt_div, li_0, li_1, li_2, li_3, li_4, li_5, li_6, li_7, li_8, li_9, li_10, li_11, li_12, li_13, li_14, li_15, li_16, li_20, li_21, li_22, li_23, li_24, li_25, li_26, li_27, li_28, li_29, li_30, li_31, li_32, li_35, li_36, li_40, li_41, li_42, li_43, li_45, li_48, li_50, li_51, li_57, li_59, li_60, li_61, li_62, li_63, li_64, li_97, li_99, li_100, li_122, li_200, li_255, li_302, li_303, li_304, li_305, li_306, li_307, li_308, li_309, li_310, li_311, li_312, li_313, li_314, li_315, li_316, li_317, li_318, li_319, li_400, li_700, li_701, li_720, li_767, li_768, li_999, li_1000, li_1023, li_1024, li_1440, li_18720, tdv, bm, tnc]
    exact this
  · intro q hq
    rw [inc1 (by omega)] at hq
    have := hO j.toInt.toNat (by omega)
    simp (disch := omega) only [si_at, si_ne, si_2, sl_at, sl_ne, sl_1, sl_2, su_at, su_ne, su_1, su_2, su_3, sv_at, sv_ne, sv_1, sv_2, sv_3, upd_at, upd_ne, upl_at, upl_ne, Int32.toInt_add, Int32.toInt_sub, Int32.toInt_mul, Int32.toInt_neg, Int32.toInt_div, li_0, li_1, li_2, li_3, li_4, li_5, li_6, li_7, li_8, li_9, li_10, li_11, li_12, li_13, li_14, li_15, li_16, li_20, li_21, li_22, li_23, li_24, li_25, li_26, li_27, li_28, li_29, li_30, li_31, li_32, li_35, li_36, li_40, li_41, li_42, li_43, li_45, li_48, li_50, li_51, li_57, li_59, li_60, li_61, li_62, li_63, li_64, li_97, li_99, li_100, li_122, li_200, li_255, li_302, li_303, li_304, li_305, li_306, li_307, li_308, li_309, li_310, li_311, li_312, li_313, li_314, li_315, li_316, li_317, li_318, li_319, li_400, li_700, li_701, li_720, li_767, li_768, li_999, li_1000, li_1023, li_1024, li_1440, li_18720, tdv, bm, tnc]
    by_cases e : q = j.toInt.toNat
    · rw [e, upd_at]; exact this
    · rw [upd_ne e]; exact hQ q (by omega)
set_option maxHeartbeats 400000 in
theorem q_met (S : GS) (laws d z : Int32) (post : Int32 → GS → Prop) (hK : KInv S) (hS : SInv S) (hB : BR S) (k : ∀ v S', SS S S' → post v S') : w_X12_met S laws d z post := by
  unfold w_X12_met
  have no := k (-1) S (SS.rf hS)
  refine q_canSearch _ _ _ _ (fun r2 _ hb2 => ⟨fun g2 => ?_, fun _ => no⟩)
  refine q_searches _ _ _ _ _ _ _ hK hS (Or.inl (by decide)) (fun T hW hm => ⟨fun _ => ⟨fun _ => ?_, fun _ => k _ _ hW⟩, fun _ => k _ _ hW⟩)
  have h4 := hW.2.2.1
  refine lr3 (fun (U : GS) (m i : Int32) => SS S U ∧ (fi U 21).toInt = (fi T 21).toInt ∧ 0 ≤ m.toInt ∧ m.toInt ≤ i.toInt ∧ i.toInt ≤ (fi T 21).toInt) (fun _ _ i => ((fi T 21).toInt - i.toInt).toNat) ?_ _ _ _ ⟨hW, rfl, by decide, by decide, by rw [li_0]; omega⟩
  rintro kk U m i ⟨hU, u21, m0, mi, i1⟩ hk
  unfold w_X12_met_F46 w_X12_met_B138
  refine ⟨fun _ => k _ _ hU, fun g => ⟨by omega, ?_⟩⟩
  refine q_plainest _ _ _ (hK.fr hU.1) (hU.2.1 hB) (fun v V hV => ?_)
  have hVS : SS S V := hU.tr ⟨hV.1.wk (by decide), fun _ => hV.2.1, by
    have h5 := hU.2.2
    unfold SInv fi ar at h5 ⊢
    rw [hV.1.1 21 (by decide), hV.1.1 22 (by decide), hV.1.2.2.1 26 (by decide), hV.1.2.2.1 28 (by decide), hV.1.2.2.1 29 (by decide), hV.1.2.2.1 30 (by decide)]
    exact h5⟩
  have v21 : (fi V 21).toInt = (fi T 21).toInt := by
    have : V.1 21 = U.1 21 := hV.1.1 21 (by decide)
    show (V.1 21).toInt = _
    rw [this]; exact u21
  refine lr6 (fun (W : GS) (m' i' : Int32) (_ : Int64) (y j : Int32) => m' = m ∧ i' = i ∧ SS S W ∧ (fi W 21).toInt = (fi T 21).toInt ∧ 0 ≤ j.toInt ∧ j.toInt ≤ m.toInt) (fun _ _ _ _ _ j => (m.toInt - j.toInt).toNat) ?_ _ _ _ _ _ _ ⟨rfl, rfl, hVS, v21, by decide, by rw [li_0]; omega⟩
  rintro kk2 W m' i' v2 y j ⟨rfl, rfl, hX, w21, j0, jm⟩ hk2
  unfold w_X12_met_F74 w_X12_met_B104
  have x112 : ∀ y, w_X12_met_B112 post kk (w_X12_met_B138 post) W m' i' v2 y := by
    intro y
    unfold w_X12_met_B112 w_X12_met_B132
    refine ⟨fun _ => ⟨by omega, hk _ _ _ ⟨⟨Fr.sv (by decide) hX.1, hX.2.1, hX.2.2⟩, w21, ?_, ?_, ?_⟩ ?_⟩, fun _ => hk _ _ _ ⟨hX, w21, m0, ?_, ?_⟩ ?_⟩
    · rw [inc1 (by omega)]; omega
    · rw [inc1 (by omega), inc1 (by omega)]; omega
    · rw [inc1 (by omega)]; omega
    · rw [inc1 (by omega)]; omega
    · rw [inc1 (by omega)]; omega
    · rw [inc1 (by omega)]; omega
    · rw [inc1 (by omega)]; omega
  have go : j.toInt < m'.toInt → ∀ y, kk2 W m' i' v2 y (j + 1) := fun g y => hk2 _ _ _ _ _ _ ⟨rfl, rfl, hX, w21, by rw [inc1 (by omega)]; omega, by rw [inc1 (by omega)]; omega⟩ (by rw [inc1 (by omega)]; omega)
  exact ⟨fun _ => x112 _, fun g3 => ⟨fun _ => x112 _, fun _ => ⟨by omega, fun _ => go g3 _, fun _ => go g3 _⟩⟩⟩
set_option maxHeartbeats 400000 in
theorem q_endsAt (S : GS) (r m : Int32) (post : Int32 → GS → Prop) (hK : KInv S) (hr : 0 ≤ r.toInt ∧ r.toInt ≤ 5) (h0 : (ar S 38 r.toNatClampNeg).toInt ≠ 0) (hm : 0 ≤ m.toInt ∧ m.toInt ≤ 35) (k : ∀ v, post v S) : w_X12_endsAt S r m post := by
  unfold w_X12_endsAt
  have h25 := hK.2.2.2.2.2.2.2.2.2.2
  have h38 := hK.2.2.2.2.2.2.2.1 r.toNatClampNeg (by rw [tnc]; omega)
  refine lr5 (fun (T : GS) (r' m' j i : Int32) => T = S ∧ r' = r ∧ m' = m ∧ 0 ≤ j.toInt ∧ j.toInt < (ar S 38 r.toNatClampNeg).toInt ∧ 0 ≤ i.toInt ∧ i.toInt ≤ 200) (fun _ _ _ _ i => (200 - i.toInt).toNat) ?_ _ _ _ _ _ ⟨rfl, rfl, rfl, by decide, by rw [li_0]; omega, by decide, by decide⟩
  rintro kk T r' m' j i ⟨rfl, rfl, rfl, j0, j1, i0, i1⟩ hk
  unfold w_X12_endsAt_F5 w_X12_endsAt_B65 w_X12_endsAt_B59
  have h37 := hK.2.2.2.2.2.2.2.2.1 ((12 : Int32) * r' + j).toNatClampNeg (by rw [tnc, ma_12 (by omega) (by omega)]; omega)
  rw [ma_12 (p := r') (q := j) (by omega) (by omega), inc1 (x := j) (by omega)]
  have go : ∀ j2 : Int32, 0 ≤ j2.toInt → j2.toInt < (ar T 38 r'.toNatClampNeg).toInt → i.toInt < 200 → kk T r' m' j2 (i + 1) := fun j2 a b c => hk _ _ _ _ _ ⟨rfl, rfl, rfl, a, b, by rw [inc1 (by omega)]; omega, by rw [inc1 (by omega)]; omega⟩ (by rw [inc1 (by omega)]; omega)
  refine ⟨fun _ => k _, fun g => ⟨by omega, by omega, q_renamedCode _ _ _ _ hK.2.2.2.2.2.2.2.2.2.1 hm h37 (fun v => ⟨fun _ => ⟨by omega, fun g2 => go _ ?_ ?_ (by omega), fun _ => k _⟩, fun _ => go _ j0 j1 (by omega)⟩)⟩⟩
  · rw [inc1 (by omega)]; omega
  · rw [inc1 (by omega)]; omega
set_option maxHeartbeats 400000 in
theorem q_through (S : GS) (r x : Int32) (post : Int32 → GS → Prop) (hK : KInv S) (k : ∀ v, post v S) : w_X12_through S r x post := by
  unfold w_X12_through w_X12_through_B25
  refine q_isRow _ _ _ (fun r1 _ hb1 => ⟨fun _ => k _, fun g1 => ⟨by omega, fun _ => k _, fun g2 => ?_⟩⟩)
  refine q_isIn _ _ _ _ _ (fun r2 _ hb2 => ⟨fun g3 => ?_, fun _ => k _⟩)
  refine lr6 (fun (T : GS) (r' x' b e m : Int32) => T = S ∧ r' = r ∧ ((b.toInt = -1) ∨ (0 ≤ b.toInt ∧ b.toInt ≤ 35)) ∧ 0 ≤ m.toInt ∧ m.toInt ≤ 36) (fun _ _ _ _ _ m => (36 - m.toInt).toNat) ?_ _ _ _ _ _ _ ⟨rfl, rfl, Or.inl (by decide), by decide, by decide⟩
  rintro kk T r' x' b e m ⟨rfl, rfl, hb, m0, m6⟩ hk
  unfold w_X12_through_F35
  refine ⟨fun _ => ?_, fun g => ?_⟩
  · unfold w_X12_through_B85 w_X12_through_B94 w_X12_through_B105
    refine ⟨fun _ => ⟨fun _ => k _, fun _ => k _⟩, fun g5 => ⟨fun _ => ?_, fun _ => ⟨fun _ => k _, fun _ => k _⟩⟩⟩
    have er : (b / 6).toInt = b.toInt / 6 := by simp (disch := omega) only [Int32.toInt_add, Int32.toInt_sub, Int32.toInt_mul, Int32.toInt_neg, Int32.toInt_div, li_0, li_1, li_2, li_3, li_4, li_5, li_6, li_7, li_8, li_9, li_10, li_11, li_12, li_13, li_14, li_15, li_16, li_20, li_21, li_22, li_23, li_24, li_25, li_26, li_27, li_28, li_29, li_30, li_31, li_32, li_35, li_36, li_40, li_41, li_42, li_43, li_45, li_48, li_50, li_51, li_57, li_59, li_60, li_61, li_62, li_63, li_64, li_97, li_99, li_100, li_122, li_200, li_255, li_302, li_303, li_304, li_305, li_306, li_307, li_308, li_309, li_310, li_311, li_312, li_313, li_314, li_315, li_316, li_317, li_318, li_319, li_400, li_700, li_701, li_720, li_767, li_768, li_999, li_1000, li_1023, li_1024, li_1440, li_18720, tdv, bm, tnc]
    have er2 : (b - b / 6 * 6).toInt = b.toInt % 6 := by
      simp (disch := omega) only [Int32.toInt_add, Int32.toInt_sub, Int32.toInt_mul, Int32.toInt_neg, Int32.toInt_div, li_0, li_1, li_2, li_3, li_4, li_5, li_6, li_7, li_8, li_9, li_10, li_11, li_12, li_13, li_14, li_15, li_16, li_20, li_21, li_22, li_23, li_24, li_25, li_26, li_27, li_28, li_29, li_30, li_31, li_32, li_35, li_36, li_40, li_41, li_42, li_43, li_45, li_48, li_50, li_51, li_57, li_59, li_60, li_61, li_62, li_63, li_64, li_97, li_99, li_100, li_122, li_200, li_255, li_302, li_303, li_304, li_305, li_306, li_307, li_308, li_309, li_310, li_311, li_312, li_313, li_314, li_315, li_316, li_317, li_318, li_319, li_400, li_700, li_701, li_720, li_767, li_768, li_999, li_1000, li_1023, li_1024, li_1440, li_18720, tdv, bm, tnc]
      omega
    refine lr4 (fun (U : GS) (b' v j : Int32) => U = T ∧ b' = b ∧ 0 ≤ j.toInt ∧ j.toInt ≤ 3) (fun _ _ _ j => (3 - j.toInt).toNat) ?_ _ _ _ _ ⟨rfl, rfl, by decide, by decide⟩
    rintro kk2 U b' v j ⟨rfl, rfl, j0, j3⟩ hk2
    unfold w_X12_through_F112 w_X12_through_B142
    refine ⟨fun _ => ?_, fun g6 => q_renamed _ _ _ _ hK.2.2.2.2.2.2.2.2.2.1 (by rw [er]; omega) (by omega) (fun _ _ => hk2 _ _ _ _ ⟨rfl, rfl, by rw [inc1 (by omega)]; omega, by rw [inc1 (by omega)]; omega⟩ (by rw [inc1 (by omega)]; omega))⟩
    refine lr4 (fun (V : GS) (b2 v j : Int32) => V = U ∧ b2 = b' ∧ 0 ≤ j.toInt ∧ j.toInt ≤ 3) (fun _ _ _ j => (3 - j.toInt).toNat) ?_ _ _ _ _ ⟨rfl, rfl, by decide, by decide⟩
    rintro kk3 V b2 v j ⟨rfl, rfl, j0, j3⟩ hk3
    unfold w_X12_through_F145 w_X12_through_B175
    exact ⟨fun _ => k _, fun g6 => q_renamed _ _ _ _ hK.2.2.2.2.2.2.2.2.2.1 (by rw [er2]; omega) (by omega) (fun _ _ => hk3 _ _ _ _ ⟨rfl, rfl, by rw [inc1 (by omega)]; omega, by rw [inc1 (by omega)]; omega⟩ (by rw [inc1 (by omega)]; omega))⟩
  · unfold w_X12_through_B79 w_X12_through_B72 w_X12_through_B79
    have go : ∀ b2 e2, ((b2.toInt = -1) ∨ (0 ≤ b2.toInt ∧ b2.toInt ≤ 35)) → kk T r' x' b2 e2 (m + 1) := fun b2 e2 h => hk _ _ _ _ _ _ ⟨rfl, rfl, h, by rw [inc1 (by omega)]; omega, by rw [inc1 (by omega)]; omega⟩ (by rw [inc1 (by omega)]; omega)
    refine q_endsAt _ _ _ _ hK (by omega) g2 (by omega) (fun v => ⟨fun _ => go _ _ hb, fun _ => ⟨fun _ => go _ _ (Or.inr (by omega)), fun _ => ⟨fun _ => go _ _ (Or.inr (by omega)), fun _ => go _ _ hb⟩⟩⟩)
set_option maxHeartbeats 400000 in
theorem q_put (S : GS) (r c : Int32) (post : Int32 → GS → Prop) (hK : KInv S)
    (k0 : ¬ ((0 ≤ r.toInt ∧ r.toInt ≤ 5) ∧ (0 ≤ c.toInt ∧ c.toInt ≤ 767) ∧ (ar S 38 r.toNatClampNeg).toInt ≠ 12) → post (-1) S)
    (k1 : (0 ≤ r.toInt ∧ r.toInt ≤ 5) ∧ (0 ≤ c.toInt ∧ c.toInt ≤ 767) ∧ (ar S 38 r.toNatClampNeg).toInt < 12 → post (ar S 38 r.toNatClampNeg + 1) (su (su S 37 (12 * r.toInt.toNat + (ar S 38 r.toNatClampNeg).toInt.toNat) c) 38 r.toNatClampNeg (ar S 38 r.toNatClampNeg + 1))) : w_X12_put S r c post := by
  unfold w_X12_put w_X12_put_B25
  refine q_isRow _ _ _ (fun r1 _ hb1 => ⟨fun _ => k0 (by omega), fun g1 => ?_⟩)
  refine q_isNumber _ _ _ (fun r2 _ hb2 => ⟨fun _ => k0 (by omega), fun g2 => ⟨by omega, fun g3 => ?_, fun _ => k0 (by omega)⟩⟩)
  have h38 := hK.2.2.2.2.2.2.2.1 r.toNatClampNeg (by rw [tnc]; omega)
  have em : ((12 : Int32) * r + ar S 38 r.toNatClampNeg).toNatClampNeg = 12 * r.toInt.toNat + (ar S 38 r.toNatClampNeg).toInt.toNat := by
    rw [tnc, ma_12 (by omega) (by omega)]; omega
  rw [em, ma_12 (p := r) (by omega) (by omega), upd_at]
  exact ⟨by omega, by omega, by omega, by omega, by omega, k1 (by omega)⟩
set_option maxHeartbeats 400000 in
theorem q_clear (S : GS) (r : Int32) (post : Int32 → GS → Prop) (k0 : ¬ (0 ≤ r.toInt ∧ r.toInt ≤ 5) → post 0 S) (k1 : (0 ≤ r.toInt ∧ r.toInt ≤ 5) → post 1 (su (su S 38 r.toNatClampNeg 0) 39 r.toNatClampNeg 0)) : w_X12_clear S r post := by
  unfold w_X12_clear
  exact q_isRow _ _ _ (fun r1 _ hb1 => ⟨fun g => ⟨by omega, by omega, k1 (by omega)⟩, fun g => k0 (by omega)⟩)
set_option maxHeartbeats 400000 in
theorem q_honest (S : GS) (r z : Int32) (post : Int32 → GS → Prop) (hz : z = 0 ∨ z = 1) (k0 : ¬ ((0 ≤ r.toInt ∧ r.toInt ≤ 5) ∧ (ar S 39 r.toNatClampNeg).toInt ≠ z.toInt) → post 0 S) (k1 : ((0 ≤ r.toInt ∧ r.toInt ≤ 5) ∧ (ar S 39 r.toNatClampNeg).toInt ≠ z.toInt) → post 1 (su S 39 r.toNatClampNeg z)) : w_X12_honest S r z post := by
  unfold w_X12_honest w_X12_honest_B17
  exact q_isRow _ _ _ (fun r1 _ hb1 => ⟨fun g => k0 (by omega), fun g => ⟨by omega, fun g2 => ⟨by omega, hz, k1 ⟨by omega, g2⟩⟩, fun g2 => k0 (by omega)⟩⟩)
set_option maxHeartbeats 400000 in
theorem q_past (S : GS) (c : Int32) (post : Int32 → GS → Prop) (hK : KInv S) (k0 : ¬ ((0 ≤ c.toInt ∧ c.toInt ≤ 767) ∧ (fi S 25).toInt ≠ 200) → post (-1) S) (k1 : ((0 ≤ c.toInt ∧ c.toInt ≤ 767) ∧ (fi S 25).toInt < 200) → post (fi S 25 + 1) (si (su S 40 (fi S 25).toNatClampNeg c) 25 (fi S 25 + 1))) : w_X12_past S c post := by
  unfold w_X12_past w_X12_past_B17
  have h25 := hK.2.2.2.2.2.2.2.2.2.2
  exact q_isNumber _ _ _ (fun r1 _ hb1 => ⟨fun g => k0 (by omega), fun g => ⟨fun g2 => ⟨by omega, k1 (by omega)⟩, fun g2 => k0 (by omega)⟩⟩)
set_option maxHeartbeats 400000 in
theorem q_end (S : GS) (n : Int32) (post : Int32 → GS → Prop) (k0 : ¬ (0 ≤ n.toInt ∧ n.toInt ≤ (fi S 1).toInt) → post 0 S) (k1 : (0 ≤ n.toInt ∧ n.toInt ≤ (fi S 1).toInt) → post 1 (si S 1 n)) : w_X12_end S n post := by
  unfold w_X12_end
  refine q_isIn _ _ _ _ _ (fun r1 _ hb1 => ?_)
  rw [li_0] at hb1
  exact ⟨fun g => k1 (by omega), fun g => k0 (by omega)⟩
set_option maxHeartbeats 400000 in
theorem q_fault (S : GS) (x : Int32) (post : Int32 → GS → Prop) (k : ∀ v, post v S) : w_X12_fault S x post := by
  unfold w_X12_fault w_X12_fault_B24
  exact ⟨fun _ => ⟨fun _ => k _, fun _ => k _⟩, fun _ => k _⟩
set_option maxHeartbeats 400000 in
theorem q_act (S : GS) (x y : Int32) (post : Int32 → GS → Prop) (k : ∀ v, post v S) : w_X12_act S x y post := by
  unfold w_X12_act w_X12_act_B54 w_X12_act_B69
  exact q_isAct _ _ _ (fun r _ hb => ⟨fun g => ⟨fun _ => ⟨by omega, fun _ => k _, fun _ => k _⟩, fun _ => ⟨by omega, fun _ => k _, fun _ => k _⟩, fun _ => ⟨by omega, k _⟩, fun _ => ⟨by omega, k _⟩, fun _ => k _⟩, fun _ => k _⟩)
set_option maxHeartbeats 400000 in
theorem q_feed (S : GS) (a b c d e : Int32) (post : Int32 → GS → Prop) (hK : KInv S) (k0 : 680 < (fi S 1).toInt → post (-1) S) (k1 : (fi S 1).toInt ≤ 680 → ∀ S', Fr [1] [] [21] [] S S' → (fi S' 1).toInt = (fi S 1).toInt + 20 → post (fi S' 1) S') : w_X12_feed S a b c d e post := by
  unfold w_X12_feed
  have h1 := hK.1
  have e20 : (fi S 1 + 20).toInt = (fi S 1).toInt + 20 := by simp (disch := omega) only [Int32.toInt_add, Int32.toInt_sub, Int32.toInt_mul, Int32.toInt_neg, Int32.toInt_div, li_0, li_1, li_2, li_3, li_4, li_5, li_6, li_7, li_8, li_9, li_10, li_11, li_12, li_13, li_14, li_15, li_16, li_20, li_21, li_22, li_23, li_24, li_25, li_26, li_27, li_28, li_29, li_30, li_31, li_32, li_35, li_36, li_40, li_41, li_42, li_43, li_45, li_48, li_50, li_51, li_57, li_59, li_60, li_61, li_62, li_63, li_64, li_97, li_99, li_100, li_122, li_200, li_255, li_302, li_303, li_304, li_305, li_306, li_307, li_308, li_309, li_310, li_311, li_312, li_313, li_314, li_315, li_316, li_317, li_318, li_319, li_400, li_700, li_701, li_720, li_767, li_768, li_999, li_1000, li_1023, li_1024, li_1440, li_18720, tdv, bm, tnc]
  rw [e20]
  refine ⟨fun g => ?_, fun g => k0 (by omega)⟩
  clear e20
  refine lr7 (fun (T : GS) (_ _ _ _ _ j : Int32) => Fr [1] [] [21] [] S T ∧ (fi T 1).toInt = (fi S 1).toInt + j.toInt ∧ 0 ≤ j.toInt ∧ j.toInt ≤ 20) (fun _ _ _ _ _ _ j => (20 - j.toInt).toNat) ?_ _ _ _ _ _ _ _ ⟨Fr.rf, by rw [li_0]; omega, by decide, by decide⟩
  rintro kk T a b c d e j ⟨hF, hj, j0, j2⟩ hk
  unfold w_X12_feed_F18 w_X12_feed_B115
  have b71 : j.toInt < 20 → ∀ y, w_X12_feed_B71 post kk (w_X12_feed_B115 post) T a b c d e j y := by
    intro gj y
    unfold w_X12_feed_B71
    refine ⟨by omega, hk _ _ _ _ _ _ _ ⟨Fr.si (by decide) (Fr.su (by decide) hF), ?_, by rw [inc1 (by omega)]; omega, by rw [inc1 (by omega)]; omega⟩ (by rw [inc1 (by omega)]; omega)⟩
    show ((si (su T 21 _ _) 1 (fi T 1 + 1)).1 1).toInt = _
    rw [si_at, inc1 (by omega), inc1 (by omega)]
    omega
  exact ⟨fun _ => k1 (by omega) _ hF (by omega), fun gj => ⟨fun _ => ⟨fun _ => ⟨fun _ => ⟨fun _ => b71 gj _, fun _ => b71 gj _⟩, fun _ => b71 gj _⟩, fun _ => b71 gj _⟩, fun _ => b71 gj _⟩⟩
