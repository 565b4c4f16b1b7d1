set_option maxHeartbeats 400000 in
theorem q_see2 (S : GS) (x : Int32) (post : Int32 → GS → Prop) (h1 : (fi S 1).toInt ≤ 700) (h2 : 0 ≤ x.toInt) (k : ∀ r : Int32, ((fi S 1).toInt ≤ x.toInt ∧ r.toInt = -1) ∨ (x.toInt < (fi S 1).toInt ∧ r = ar S 21 x.toNatClampNeg) → post r S) : w_X12_see S x post :=
  q_see S x post h1 h2 (fun h => k _ (Or.inl ⟨h, by decide⟩)) (fun h => k _ (Or.inr ⟨h, rfl⟩))
set_option maxHeartbeats 400000 in
theorem q_is (S : GS) (p : Nat) (N : Int) (post : Int32 → GS → Prop) (hN : (Int32.ofNat (sN p)).toInt = N ∧ ((sN p : Nat) : Int) = N ∧ 0 ≤ N ∧ N ≤ 100) (h1 : 0 ≤ (fi S 4).toInt ∧ (fi S 4).toInt ≤ (fi S 2).toInt ∧ (fi S 2).toInt ≤ 700) (k : ∀ r : Int32, (r = 0 ∨ r = 1) → post r S) : w_X12_is S p post := by
  unfold w_X12_is w_X12_is_B21
  have es : (fi S 2 - fi S 4).toInt = (fi S 2).toInt - (fi S 4).toInt := by
    have := i_rng (fi S 2)
    simp (disch := omega) only [Int32.toInt_add, Int32.toInt_sub, Int32.toInt_mul, Int32.toInt_neg, Int32.toInt_div, li_0, li_1, li_2, li_3, li_4, li_5, li_6, li_7, li_8, li_9, li_10, li_11, li_12, li_13, li_14, li_15, li_16, li_20, li_21, li_22, li_23, li_24, li_25, li_26, li_27, li_28, li_29, li_30, li_31, li_32, li_35, li_36, li_40, li_41, li_42, li_43, li_45, li_48, li_50, li_51, li_57, li_59, li_60, li_61, li_62, li_63, li_64, li_97, li_99, li_100, li_122, li_200, li_255, li_302, li_303, li_304, li_305, li_306, li_307, li_308, li_309, li_310, li_311, li_312, li_313, li_314, li_315, li_316, li_317, li_318, li_319, li_400, li_700, li_701, li_720, li_767, li_768, li_999, li_1000, li_1023, li_1024, li_1440, li_18720, tdv, bm, tnc]
  have lp : ∀ y : Int32, (y = 0 ∨ y = 1) → (y.toInt ≠ 0 → (fi S 2).toInt - (fi S 4).toInt = N) → ∃ n, lpn (w_X12_is_F24 p post (w_X12_is_B67 p post)) (fun _ _ _ => False) n S y 0 := by
    intro y hy hs
    refine lr3 (fun (T : GS) (y j : Int32) => T = S ∧ (y = 0 ∨ y = 1) ∧ (y.toInt ≠ 0 → (fi S 2).toInt - (fi S 4).toInt = N) ∧ 0 ≤ j.toInt ∧ j.toInt ≤ N) (fun _ _ j => (N - j.toInt).toNat) ?_ _ _ _ ⟨rfl, hy, hs, by decide, by rw [li_0]; omega⟩
    rintro kk T y j ⟨rfl, hy, hs, j0, j1⟩ hk
    unfold w_X12_is_F24 w_X12_is_B67 w_X12_is_B60
    rw [hN.1, hN.2.1]
    refine ⟨fun _ => ⟨hy, k _ hy⟩, fun g => ⟨fun _ => ⟨hy, k _ hy⟩, fun g2 => ?_⟩⟩
    have hs2 := hs g2
    have e4 : (fi T 4 + j).toInt = (fi T 4).toInt + j.toInt := by simp (disch := omega) only [Int32.toInt_add, Int32.toInt_sub, Int32.toInt_mul, Int32.toInt_neg, Int32.toInt_div, li_0, li_1, li_2, li_3, li_4, li_5, li_6, li_7, li_8, li_9, li_10, li_11, li_12, li_13, li_14, li_15, li_16, li_20, li_21, li_22, li_23, li_24, li_25, li_26, li_27, li_28, li_29, li_30, li_31, li_32, li_35, li_36, li_40, li_41, li_42, li_43, li_45, li_48, li_50, li_51, li_57, li_59, li_60, li_61, li_62, li_63, li_64, li_97, li_99, li_100, li_122, li_200, li_255, li_302, li_303, li_304, li_305, li_306, li_307, li_308, li_309, li_310, li_311, li_312, li_313, li_314, li_315, li_316, li_317, li_318, li_319, li_400, li_700, li_701, li_720, li_767, li_768, li_999, li_1000, li_1023, li_1024, li_1440, li_18720, tdv, bm, tnc]
    rw [e4]
    refine ⟨by omega, by omega, g, fun _ => hk _ _ _ ⟨rfl, Or.inl rfl, fun _ => hs2, ?_, ?_⟩ ?_, fun _ => hk _ _ _ ⟨rfl, Or.inr rfl, fun _ => hs2, ?_, ?_⟩ ?_⟩
    all_goals (clear e4; rw [inc1 (by omega)]; omega)
  rw [es, hN.1]
  clear es
  exact ⟨fun _ => lp 0 (Or.inl rfl) (fun g => absurd li_0 g), fun g => lp 1 (Or.inr rfl) (fun _ => g)⟩
set_option maxHeartbeats 400000 in
theorem q_word (S : GS) (post : Int32 → GS → Prop) (h1 : 0 ≤ (fi S 4).toInt ∧ (fi S 4).toInt ≤ (fi S 2).toInt ∧ (fi S 2).toInt ≤ 700) (k : ∀ r : Int32, post r S) : w_X12_word S post := by
  unfold w_X12_word w_X12_word_B270
  refine q_is S 2 3 _ (by decide) h1 (fun _ _ => ⟨fun _ => ?_, fun _ => k _⟩)
  refine q_is S 3 4 _ (by decide) h1 (fun _ _ => ⟨fun _ => ?_, fun _ => k _⟩)
  refine q_is S 4 4 _ (by decide) h1 (fun _ _ => ⟨fun _ => ?_, fun _ => k _⟩)
  refine q_is S 5 4 _ (by decide) h1 (fun _ _ => ⟨fun _ => ?_, fun _ => k _⟩)
  refine q_is S 6 4 _ (by decide) h1 (fun _ _ => ⟨fun _ => ?_, fun _ => k _⟩)
  refine q_is S 7 3 _ (by decide) h1 (fun _ _ => ⟨fun _ => ?_, fun _ => k _⟩)
  refine q_is S 8 4 _ (by decide) h1 (fun _ _ => ⟨fun _ => ?_, fun _ => k _⟩)
  refine q_is S 9 3 _ (by decide) h1 (fun _ _ => ⟨fun _ => ?_, fun _ => k _⟩)
  refine q_is S 10 4 _ (by decide) h1 (fun _ _ => ⟨fun _ => ?_, fun _ => k _⟩)
  refine q_is S 11 5 _ (by decide) h1 (fun _ _ => ⟨fun _ => ?_, fun _ => k _⟩)
  refine q_is S 12 3 _ (by decide) h1 (fun _ _ => ⟨fun _ => ?_, fun _ => k _⟩)
  refine q_is S 13 2 _ (by decide) h1 (fun _ _ => ⟨fun _ => ?_, fun _ => k _⟩)
  refine q_is S 14 3 _ (by decide) h1 (fun _ _ => ⟨fun _ => ?_, fun _ => k _⟩)
  refine q_is S 15 3 _ (by decide) h1 (fun _ _ => ⟨fun _ => ?_, fun _ => k _⟩)
  refine q_is S 16 5 _ (by decide) h1 (fun _ _ => ⟨fun _ => ?_, fun _ => k _⟩)
  refine q_is S 17 4 _ (by decide) h1 (fun _ _ => ⟨fun _ => ?_, fun _ => k _⟩)
  refine q_is S 18 6 _ (by decide) h1 (fun _ _ => ⟨fun _ => ?_, fun _ => k _⟩)
  refine q_is S 19 1 _ (by decide) h1 (fun _ _ => ⟨fun _ => ?_, fun _ => k _⟩)
  refine q_is S 20 1 _ (by decide) h1 (fun _ _ => ⟨fun _ => ?_, fun _ => k _⟩)
  exact q_isIn _ _ _ _ _ (fun _ _ _ => ⟨fun _ => k _, fun _ => k _⟩)
/-- behind next0 -/
def NX (S S' : GS) : Prop := Fr [2, 3, 4, 5] [] [] [] S S' ∧ (fi S 2).toInt ≤ (fi S' 4).toInt ∧ (fi S' 4).toInt ≤ (fi S' 2).toInt ∧ (fi S' 2).toInt ≤ (fi S 1).toInt ∧ ((fi S' 3).toInt ≠ 0 → (fi S' 4).toInt < (fi S' 2).toInt)
set_option maxHeartbeats 400000 in
theorem q_next0 (S : GS) (post : GS → Prop) (h1 : 0 ≤ (fi S 2).toInt ∧ (fi S 2).toInt ≤ (fi S 1).toInt ∧ (fi S 1).toInt ≤ 700) (k : ∀ S', NX S S' → post S') : w_X12_next0 S post := by
  unfold w_X12_next0
  refine lr1 (fun (T : GS) => Fr [2, 3, 4, 5] [] [] [] S T ∧ (fi S 2).toInt ≤ (fi T 2).toInt ∧ (fi T 2).toInt ≤ (fi S 1).toInt) (fun T => (700 - (fi T 2).toInt).toNat) ?_ _ ⟨Fr.rf, Int.le_refl _, h1.2.1⟩
  rintro kk T ⟨hF, ha, hb⟩ hk
  have t1 : (fi T 1).toInt = (fi S 1).toInt := by
    show (T.1 1).toInt = (S.1 1).toInt
    rw [hF.1 1 (by decide)]
  unfold w_X12_next0_F0
  have go : (fi T 2).toInt < (fi T 1).toInt → w_X12_next0_B26 post kk (w_X12_next0_B39 post) T := by
    intro g
    unfold w_X12_next0_B26
    have e : (fi (si T 2 (fi T 2 + 1)) 2).toInt = (fi T 2).toInt + 1 := by
      show ((si T 2 (fi T 2 + 1)).1 2).toInt = _
      rw [si_at, inc1 (by omega)]
    exact hk _ ⟨Fr.si (by decide) hF, by omega, by omega⟩ (by omega)
  refine q_see2 _ _ _ (by omega) (by omega) (fun r hr => ⟨fun g => go (by omega), fun _ => ?_⟩)
  refine q_see2 _ _ _ (by omega) (by omega) (fun r2 hr2 => ⟨fun _ => ?_, fun g => go (by omega)⟩)
  -- the token
  unfold w_X12_next0_B39
  have hU : Fr [2, 3, 4, 5] [] [] [] S (si T 4 (fi T 2)) := Fr.si (by decide) hF
  have u1 : (fi (si T 4 (fi T 2)) 1).toInt = (fi S 1).toInt := by
    show ((si T 4 (fi T 2)).1 1).toInt = _
    rw [si_ne (by decide)]; exact t1
  have u2 : (fi (si T 4 (fi T 2)) 2).toInt = (fi T 2).toInt := by
    show ((si T 4 (fi T 2)).1 2).toInt = _
    rw [si_ne (by decide)]
  have u4 : (fi (si T 4 (fi T 2)) 4).toInt = (fi T 2).toInt := by
    show ((si T 4 (fi T 2)).1 4).toInt = _
    rw [si_at]
  generalize hUe : si T 4 (fi T 2) = U at hU u1 u2 u4 ⊢
  refine q_see2 _ _ _ (by omega) (by omega) (fun c hc => ⟨fun g => ?_, fun g => ?_⟩)
  · have hcc : (fi T 2).toInt < (fi U 1).toInt ∧ c = ar U 21 (fi T 2).toNatClampNeg := by
      rcases hc with h | h
      · exact absurd h.2 g
      · exact h
    refine q_isLetter _ _ _ (fun r3 _ hb3 => ⟨fun g3 => ?_, fun g3 => ?_⟩)
    · refine q_isDigit _ _ _ (fun r4 _ hb4 => ⟨fun g4 => ?_, fun g4 => ?_⟩)
      · have fin : ∀ y : Int32, post (si (si U 2 (fi U 2 + 1)) 3 y) := by
          intro y
          have e2 : (fi (si (si U 2 (fi U 2 + 1)) 3 y) 2).toInt = (fi U 2).toInt + 1 := by
            show ((si (si U 2 (fi U 2 + 1)) 3 y).1 2).toInt = _
            rw [si_ne (by decide), si_at, inc1 (by omega)]
          have e4 : (fi (si (si U 2 (fi U 2 + 1)) 3 y) 4).toInt = (fi U 4).toInt := by
            show ((si (si U 2 (fi U 2 + 1)) 3 y).1 4).toInt = _
            rw [si_ne (by decide), si_ne (by decide)]
          exact k _ ⟨Fr.si (by decide) (Fr.si (by decide) hU), by omega, by omega, by omega, fun _ => by omega⟩
        have f278 : ∀ x, w_X12_next0_B278 post (si U 2 (fi U 2 + 1)) x := fun x => ⟨fun _ => fin _, fun _ => fin _⟩
        have f283 : ∀ x y, w_X12_next0_B283 post (si U 2 (fi U 2 + 1)) x y := fun x y => ⟨fun _ => fin _, fun _ => fin _⟩
        exact ⟨fun _ => f278 _, fun _ => ⟨fun _ => f278 _, fun _ => ⟨fun _ => f278 _, fun _ => ⟨fun _ => f278 _, fun _ => ⟨fun _ => f278 _, fun _ => ⟨fun _ => f278 _, fun _ => ⟨fun _ => f278 _, fun _ => ⟨fun _ => f278 _, fun _ => ⟨fun _ => f283 _ _, fun _ => f278 _⟩⟩⟩⟩⟩⟩⟩⟩⟩
      · -- digits
        have e2 : (fi (si U 5 0) 2).toInt = (fi U 2).toInt := by
          show ((si U 5 0).1 2).toInt = _
          rw [si_ne (by decide)]
        have e4 : (fi (si U 5 0) 4).toInt = (fi U 4).toInt := by
          show ((si U 5 0).1 4).toInt = _
          rw [si_ne (by decide)]
        refine lr1 (fun (V : GS) => Fr [2, 3, 4, 5] [] [] [] S V ∧ (fi V 4).toInt = (fi U 4).toInt ∧ (fi U 4).toInt ≤ (fi V 2).toInt ∧ (fi V 2).toInt ≤ (fi S 1).toInt) (fun V => (700 - (fi V 2).toInt).toNat) ?_ _ ⟨Fr.si (by decide) hU, e4, by omega, by omega⟩
        rintro kk2 V ⟨hV, v4, v2, v3⟩ hk2
        have v1 : (fi V 1).toInt = (fi S 1).toInt := by
          show (V.1 1).toInt = (S.1 1).toInt
          rw [hV.1 1 (by decide)]
        have v21 : ar V 21 = ar U 21 := (hV.2.2.1 21 (by decide)).trans (hU.2.2.1 21 (by decide)).symm
        unfold w_X12_next0_F126
        have go2 : ∀ (W : GS), Fr [2, 3, 4, 5] [] [] [] S W → (fi W 4).toInt = (fi U 4).toInt → (fi W 2).toInt = (fi V 2).toInt → (fi V 2).toInt < (fi V 1).toInt → w_X12_next0_B176 post kk2 (w_X12_next0_B189 post) W := by
          intro W hW w4 w2 gl
          unfold w_X12_next0_B176
          have e2 : (fi (si W 2 (fi W 2 + 1)) 2).toInt = (fi W 2).toInt + 1 := by
            show ((si W 2 (fi W 2 + 1)).1 2).toInt = _
            rw [si_at, inc1 (by omega)]
          have e4 : (fi (si W 2 (fi W 2 + 1)) 4).toInt = (fi W 4).toInt := by
            show ((si W 2 (fi W 2 + 1)).1 4).toInt = _
            rw [si_ne (by decide)]
          exact hk2 _ ⟨Fr.si (by decide) hW, by omega, by omega, by omega⟩ (by omega)
        refine q_see2 _ _ _ (by omega) (by omega) (fun c2 hc2 => ?_)
        refine q_isDigit _ _ _ (fun r5 _ hb5 => ⟨fun g5 => ?_, fun g5 => ?_⟩)
        · have hlt : (fi V 4).toInt < (fi V 2).toInt := by
            apply Classical.byContradiction
            intro hn
            have he : fi V 2 = fi T 2 := i_eq (by omega)
            rcases hc2 with h | h
            · omega
            · have : c2 = c := by rw [h.2, hcc.2, v21, he]
              rw [this] at hb5
              omega
          unfold w_X12_next0_B189 w_X12_next0_B208 w_X12_next0_B297
          have fin : ∀ y : Int32, post (si V 3 y) := by
            intro y
            have e2 : (fi (si V 3 y) 2).toInt = (fi V 2).toInt := by
              show ((si V 3 y).1 2).toInt = _
              rw [si_ne (by decide)]
            have e4 : (fi (si V 3 y) 4).toInt = (fi V 4).toInt := by
              show ((si V 3 y).1 4).toInt = _
              rw [si_ne (by decide)]
            exact k _ ⟨Fr.si (by decide) hV, by omega, by omega, by omega, fun _ => by omega⟩
          exact ⟨fun _ => fin _, fun _ => fin _⟩
        · have gl : (fi V 2).toInt < (fi V 1).toInt := by
            rcases hc2 with h | h
            · omega
            · exact h.1
          refine ⟨fun _ => go2 V hV v4 rfl gl, fun _ => ?_⟩
          refine q_see2 _ _ _ (by omega) (by omega) (fun c3 _ => ?_)
          refine go2 _ (Fr.si (by decide) hV) ?_ ?_ gl
          · show ((si V 5 _).1 4).toInt = _
            rw [si_ne (by decide)]; exact v4
          · show ((si V 5 _).1 2).toInt = _
            rw [si_ne (by decide)]
    · -- letters
      refine lr1 (fun (V : GS) => Fr [2, 3, 4, 5] [] [] [] S V ∧ (fi V 4).toInt = (fi U 4).toInt ∧ (fi U 4).toInt ≤ (fi V 2).toInt ∧ (fi V 2).toInt ≤ (fi S 1).toInt) (fun V => (700 - (fi V 2).toInt).toNat) ?_ _ ⟨hU, rfl, by omega, by omega⟩
      rintro kk2 V ⟨hV, v4, v2, v3⟩ hk2
      have v1 : (fi V 1).toInt = (fi S 1).toInt := by
        show (V.1 1).toInt = (S.1 1).toInt
        rw [hV.1 1 (by decide)]
      have v21 : ar V 21 = ar U 21 := (hV.2.2.1 21 (by decide)).trans (hU.2.2.1 21 (by decide)).symm
      unfold w_X12_next0_F76
      refine q_see2 _ _ _ (by omega) (by omega) (fun c2 hc2 => ?_)
      refine q_isLetter _ _ _ (fun r5 _ hb5 => ⟨fun g5 => ?_, fun g5 => ?_⟩)
      · have hlt : (fi V 4).toInt < (fi V 2).toInt := by
          apply Classical.byContradiction
          intro hn
          have he : fi V 2 = fi T 2 := i_eq (by omega)
          rcases hc2 with h | h
          · omega
          · have : c2 = c := by rw [h.2, hcc.2, v21, he]
            rw [this] at hb5
            omega
        unfold w_X12_next0_B103 w_X12_next0_B297
        refine q_word _ _ (by omega) (fun y => ?_)
        have e2 : (fi (si V 3 y) 2).toInt = (fi V 2).toInt := by
          show ((si V 3 y).1 2).toInt = _
          rw [si_ne (by decide)]
        have e4 : (fi (si V 3 y) 4).toInt = (fi V 4).toInt := by
          show ((si V 3 y).1 4).toInt = _
          rw [si_ne (by decide)]
        exact k _ ⟨Fr.si (by decide) hV, by omega, by omega, by omega, fun _ => by omega⟩
      · have gl : (fi V 2).toInt < (fi V 1).toInt := by
          rcases hc2 with h | h
          · omega
          · exact h.1
        have e2 : (fi (si V 2 (fi V 2 + 1)) 2).toInt = (fi V 2).toInt + 1 := by
          show ((si V 2 (fi V 2 + 1)).1 2).toInt = _
          rw [si_at, inc1 (by omega)]
        have e4 : (fi (si V 2 (fi V 2 + 1)) 4).toInt = (fi V 4).toInt := by
          show ((si V 2 (fi V 2 + 1)).1 4).toInt = _
          rw [si_ne (by decide)]
        exact hk2 _ ⟨Fr.si (by decide) hV, by omega, by omega, by omega⟩ (by omega)
  · unfold w_X12_next0_B297
    have e2 : (fi (si U 3 0) 2).toInt = (fi U 2).toInt := by
      show ((si U 3 0).1 2).toInt = _
      rw [si_ne (by decide)]
    have e4 : (fi (si U 3 0) 4).toInt = (fi U 4).toInt := by
      show ((si U 3 0).1 4).toInt = _
      rw [si_ne (by decide)]
    have e3 : (fi (si U 3 0) 3).toInt = 0 := by
      show ((si U 3 0).1 3).toInt = _
      rw [si_at]; decide
    exact k _ ⟨Fr.si (by decide) hU, by omega, by omega, by omega, fun h => absurd e3 h⟩
