theorem EE_bad (S : GS) (x : Int32) : EE S (si (si S 6 x) 7 (fi S 4)) := EE_fr (Fr.si (by decide) (Fr.si (by decide) Fr.rf))
theorem no0 {P : Prop} : (0 : Int32).toInt ≠ 0 → P := fun h => absurd li_0 h
set_option maxHeartbeats 400000 in
theorem q_person (S : GS) (post : Int32 → GS → Prop) (hL : Lx S) (k : ∀ (r : Int32) (S' : GS), EE S S' → (r = 0 ∨ r = 1) → (r.toInt ≠ 0 → GOx S S' ∧ ((fi S' 10).toInt = 0 ∨ (fi S' 10).toInt = 1) ∧ ((fi S' 10).toInt = 1 → fi S' 14 = 1) ∧ (fi S' 10).toInt = (fi S 3).toInt - 318) → post r S') : w_X12_person S post := by
  unfold w_X12_person w_X12_person_B26 w_X12_person_B54 w_X12_person_B59
  have main : ((fi S 3).toInt = 318 ∨ (fi S 3).toInt = 319) → ∀ y : Int32, (y = 0 ∨ y = 1) → (y = fi S 14 ∨ y = 1) → ((fi S 3).toInt = 319 → y = 1) → w_X12_next0 (si (si S 10 (fi S 3 - 318)) 14 y) (fun S3 => post 1 S3) := by
    intro ht y hy hy2 hy3
    have e318 : (fi S 3 - 318).toInt = (fi S 3).toInt - 318 := by simp (disch := omega) only [Int32.toInt_add, Int32.toInt_sub, Int32.toInt_mul, Int32.toInt_neg, Int32.toInt_div, li_0, li_1, li_2, li_3, li_4, li_5, li_6, li_7, li_8, li_9, li_10, li_11, li_12, li_13, li_14, li_15, li_16, li_20, li_21, li_22, li_23, li_24, li_25, li_26, li_27, li_28, li_29, li_30, li_31, li_32, li_35, li_36, li_40, li_41, li_42, li_43, li_45, li_48, li_50, li_51, li_57, li_59, li_60, li_61, li_62, li_63, li_64, li_97, li_99, li_100, li_122, li_200, li_255, li_302, li_303, li_304, li_305, li_306, li_307, li_308, li_309, li_310, li_311, li_312, li_313, li_314, li_315, li_316, li_317, li_318, li_319, li_400, li_700, li_701, li_720, li_767, li_768, li_999, li_1000, li_1023, li_1024, li_1440, li_18720, tdv, bm, tnc]
    have eF : Fr [10, 14] [] [] [] S (si (si S 10 (fi S 3 - 318)) 14 y) := Fr.si (by decide) (Fr.si (by decide) Fr.rf)
    have f10 : fi (si (si S 10 (fi S 3 - 318)) 14 y) 10 = fi S 3 - 318 := by
      show (si (si S 10 (fi S 3 - 318)) 14 y).1 10 = _
      rw [si_ne (by decide), si_at]
    have f14 : fi (si (si S 10 (fi S 3 - 318)) 14 y) 14 = y := by
      show (si (si S 10 (fi S 3 - 318)) 14 y).1 14 = _
      rw [si_at]
    generalize si (si S 10 (fi S 3 - 318)) 14 y = T at eF f10 f14 ⊢
    have t1 : fi T 1 = fi S 1 := eF.1 1 (by decide)
    have t2 : fi T 2 = fi S 2 := eF.1 2 (by decide)
    have t3 : fi T 3 = fi S 3 := eF.1 3 (by decide)
    have t4 : fi T 4 = fi S 4 := eF.1 4 (by decide)
    have tn := nn_fr eF (by decide)
    have hLT : Lx T := by
      unfold Lx at hL ⊢
      rw [t1, t2, t3, t4, tn]; exact hL
    refine q_next0 _ _ (NX_pre hLT) (fun S3 hN => ?_)
    have hG := GO_nx hLT (by rw [t3]; omega) hN
    have s10 : fi S3 10 = fi T 10 := hN.1.1 10 (by decide)
    have s14 : fi S3 14 = fi T 14 := hN.1.1 14 (by decide)
    have s15 : fi S3 15 = fi T 15 := hN.1.1 15 (by decide)
    have t15 : fi T 15 = fi S 15 := eF.1 15 (by decide)
    have t9 : fi T 9 = fi S 9 := eF.1 9 (by decide)
    refine k 1 S3 (EE_tr (EE_fr (eF.wk (by decide))) (NX_ee hN)) (Or.inr rfl) (fun _ => ⟨⟨hG.1, hG.2.1.trans tn, ?_, hG.2.2.2.1.trans t9, ?_, ?_⟩, ?_, ?_, ?_⟩)
    · have := hG.2.2.1; rw [t4] at this; exact this
    · rw [s14, f14]; exact hy2
    · rw [s15, t15]; exact Or.inl rfl
    · rw [s10, f10, e318]; omega
    · intro g
      rw [s10, f10, e318] at g
      rw [s14, f14]; exact hy3 (by omega)
    · rw [s10, f10, e318]
  have m2 : ((fi S 3).toInt = 318 ∨ (fi S 3).toInt = 319) → ((fi S 14).toInt ≠ 0 → ((1 : Int32) = 0 ∨ (1 : Int32) = 1) ∧ w_X12_next0 (si (si S 10 (fi S 3 - 318)) 14 1) (fun S3 => post 1 S3)) ∧ ((fi S 14).toInt = 0 → ((fi S 3 - 318).toInt ≠ 1 → ((0 : Int32) = 0 ∨ (0 : Int32) = 1) ∧ w_X12_next0 (si (si S 10 (fi S 3 - 318)) 14 0) (fun S3 => post 1 S3)) ∧ ((fi S 3 - 318).toInt = 1 → ((1 : Int32) = 0 ∨ (1 : Int32) = 1) ∧ w_X12_next0 (si (si S 10 (fi S 3 - 318)) 14 1) (fun S3 => post 1 S3))) := by
    intro ht
    have e318 : (fi S 3 - 318).toInt = (fi S 3).toInt - 318 := by simp (disch := omega) only [Int32.toInt_add, Int32.toInt_sub, Int32.toInt_mul, Int32.toInt_neg, Int32.toInt_div, li_0, li_1, li_2, li_3, li_4, li_5, li_6, li_7, li_8, li_9, li_10, li_11, li_12, li_13, li_14, li_15, li_16, li_20, li_21, li_22, li_23, li_24, li_25, li_26, li_27, li_28, li_29, li_30, li_31, li_32, li_35, li_36, li_40, li_41, li_42, li_43, li_45, li_48, li_50, li_51, li_57, li_59, li_60, li_61, li_62, li_63, li_64, li_97, li_99, li_100, li_122, li_200, li_255, li_302, li_303, li_304, li_305, li_306, li_307, li_308, li_309, li_310, li_311, li_312, li_313, li_314, li_315, li_316, li_317, li_318, li_319, li_400, li_700, li_701, li_720, li_767, li_768, li_999, li_1000, li_1023, li_1024, li_1440, li_18720, tdv, bm, tnc]
    rw [e318]
    exact ⟨fun _ => ⟨Or.inr rfl, main ht 1 (Or.inr rfl) (Or.inr rfl) (fun _ => rfl)⟩, fun g => ⟨fun g2 => ⟨Or.inl rfl, main ht 0 (Or.inl rfl) (Or.inl (i_eq (by rw [g]; decide))) (fun g3 => by omega)⟩, fun _ => ⟨Or.inr rfl, main ht 1 (Or.inr rfl) (Or.inr rfl) (fun _ => rfl)⟩⟩⟩
  exact ⟨fun g => m2 (Or.inl g), fun _ => ⟨fun g => m2 (Or.inr g), fun _ => ⟨Or.inl rfl, k 0 _ (EE_bad S 1) (Or.inl rfl) no0⟩⟩⟩
theorem GO_tr {S S' S'' : GS} (h : GOx S S') (g : GOx S' S'') : GOx S S'' := by
  have h3 := h.2.2.1
  have g3 := g.2.2.1
  exact ⟨g.1, g.2.1.trans h.2.1, by omega, g.2.2.2.1.trans h.2.2.2.1, BM_tr h.2.2.2.2 g.2.2.2.2⟩
set_option maxHeartbeats 400000 in
theorem q_persons (S : GS) (post : Int32 → GS → Prop) (hL : Lx S) (k : ∀ (r : Int32) (S' : GS), EE S S' → (r = 0 ∨ r = 1) → (r.toInt ≠ 0 → GOx S S' ∧ (((fi S' 10).toInt = 0 ∧ (fi S' 11).toInt = 1) ∨ ((fi S' 10).toInt = 1 ∧ (fi S' 11).toInt = 0)) ∧ fi S' 14 = 1) → post r S') : w_X12_persons S post := by
  unfold w_X12_persons
  refine q_person S _ hL (fun r1 S2 hE2 _ h2 => ⟨fun g1 => ?_, fun _ => k 0 S2 hE2 (Or.inl rfl) no0⟩)
  obtain ⟨hG2, h10, h14, -⟩ := h2 g1
  have e318 : ((318 : Int32) + fi S2 10).toInt = 318 + (fi S2 10).toInt := by simp (disch := omega) only [Int32.toInt_add, Int32.toInt_sub, Int32.toInt_mul, Int32.toInt_neg, Int32.toInt_div, li_0, li_1, li_2, li_3, li_4, li_5, li_6, li_7, li_8, li_9, li_10, li_11, li_12, li_13, li_14, li_15, li_16, li_20, li_21, li_22, li_23, li_24, li_25, li_26, li_27, li_28, li_29, li_30, li_31, li_32, li_35, li_36, li_40, li_41, li_42, li_43, li_45, li_48, li_50, li_51, li_57, li_59, li_60, li_61, li_62, li_63, li_64, li_97, li_99, li_100, li_122, li_200, li_255, li_302, li_303, li_304, li_305, li_306, li_307, li_308, li_309, li_310, li_311, li_312, li_313, li_314, li_315, li_316, li_317, li_318, li_319, li_400, li_700, li_701, li_720, li_767, li_768, li_999, li_1000, li_1023, li_1024, li_1440, li_18720, tdv, bm, tnc]
  rw [e318]
  clear e318
  refine ⟨fun g2 => ?_, fun _ => ⟨Or.inl rfl, k 0 _ (EE_tr hE2 (EE_bad S2 1)) (Or.inl rfl) no0⟩⟩
  refine q_person S2 _ hG2.1 (fun r3 S4 hE4 _ h4 => ⟨fun g3 => ?_, fun _ => k 0 S4 (EE_tr hE2 hE4) (Or.inl rfl) no0⟩)
  obtain ⟨hG4, i10, i14, i3⟩ := h4 g3
  have eF : Fr [10, 11] [] [] [] S4 (si (si S4 11 (fi S4 10)) 10 (fi S2 10)) := Fr.si (by decide) (Fr.si (by decide) Fr.rf)
  have f10 : fi (si (si S4 11 (fi S4 10)) 10 (fi S2 10)) 10 = fi S2 10 := by
    show (si (si S4 11 (fi S4 10)) 10 (fi S2 10)).1 10 = _
    rw [si_at]
  have f11 : fi (si (si S4 11 (fi S4 10)) 10 (fi S2 10)) 11 = fi S4 10 := by
    show (si (si S4 11 (fi S4 10)) 10 (fi S2 10)).1 11 = _
    rw [si_ne (by decide), si_at]
  generalize si (si S4 11 (fi S4 10)) 10 (fi S2 10) = T at eF f10 f11 ⊢
  have t1 : fi T 1 = fi S4 1 := eF.1 1 (by decide)
  have t2 : fi T 2 = fi S4 2 := eF.1 2 (by decide)
  have t3 : fi T 3 = fi S4 3 := eF.1 3 (by decide)
  have t4 : fi T 4 = fi S4 4 := eF.1 4 (by decide)
  have t9 : fi T 9 = fi S4 9 := eF.1 9 (by decide)
  have t14 : fi T 14 = fi S4 14 := eF.1 14 (by decide)
  have tn := nn_fr eF (by decide)
  have hG := GO_tr hG2 hG4
  have hGT : GOx S T := by
    obtain ⟨a, b, c, d, e⟩ := hG
    refine ⟨?_, tn.trans b, by rw [t4]; exact c, t9.trans d, BM_tr e (BM_fr eF (by decide) (by decide))⟩
    unfold Lx at a ⊢
    rw [t1, t2, t3, t4, tn]; exact a
  refine k 1 T (EE_tr hE2 (EE_tr hE4 (EE_fr (eF.wk (by decide))))) (Or.inr rfl) (fun _ => ⟨hGT, ?_, ?_⟩)
  · rw [f10, f11]; omega
  · rw [t14]
    by_cases g : (fi S4 10).toInt = 1
    · exact i14 g
    · have : (fi S2 10).toInt = 1 := by omega
      have := h14 this
      rcases hG4.2.2.2.2.1 with e | e
      · rw [e]; exact this
      · exact e
/-- a unit's step laid behind some tokens -/
theorem OK_ly {S T T' : GS} {s : Int32} (hL : Lx S) (hG : GOx S T) (hF : Fr [] [] [5, 6] [] T T') (h1 : nn T' = nn T + 1) (h2 : sx T' 13 (2 * (nn T).toNat) = s) (hs : s.toInt < 8) : OKx S T' := by
  obtain ⟨a, b, c, d, e⟩ := hG
  have hSn := hL.2.2.2.2.2.2
  have hS0 := hL.2.2.2.2.2.1
  obtain ⟨p, q, r, t⟩ := GO_ly a hF h1 (by omega)
  refine ⟨p, by rw [t]; omega, q.trans d, BM_tr e r, ?_⟩
  have e1 : (nn T').toNat = (nn S).toNat + 1 := by omega
  rw [e1]
  rw [b] at h2
  exact Seg_one (by rw [h2]; exact Or.inl ⟨hs, rfl⟩)
theorem OK_ln {S T T' : GS} {s : Int32} (hL : Lx S) (ht : (fi S 3).toInt ≠ 0) (hF : Fr [] [] [5, 6] [] S T) (h1 : nn T = nn S + 1) (h2 : sx T 13 (2 * (nn S).toNat) = s) (hs : s.toInt < 8) (hN : NX T T') : OKx S T' := by
  have e1 : fi T 1 = fi S 1 := hF.1 1 (by decide)
  have e2 : fi T 2 = fi S 2 := hF.1 2 (by decide)
  obtain ⟨a1, a2, a3, a4, a5, a6, a7⟩ := hL
  have a8 := a5 ht
  obtain ⟨nF, b1, b2, b3, b4⟩ := hN
  have f1 : fi T' 1 = fi S 1 := (nF.1 1 (by decide)).trans e1
  have fn := nn_fr nF (by decide)
  have f9 : fi T' 9 = fi S 9 := (nF.1 9 (by decide)).trans (hF.1 9 (by decide))
  rw [e2] at b1
  rw [e1] at b3
  refine ⟨⟨by omega, by omega, by rw [f1]; omega, by rw [f1]; omega, b4, by omega, by omega⟩, by omega, f9, BM_tr (BM_fr hF (by decide) (by decide)) (BM_fr nF (by decide) (by decide)), ?_⟩
  have en : (nn T').toNat = (nn S).toNat + 1 := by omega
  rw [en]
  refine Seg_one ?_
  have e5 : sx T' 13 = sx T 13 := by
    unfold sx ar
    rw [nF.2.2.1 5 (by decide)]
  rw [e5, h2]; exact Or.inl ⟨hs, rfl⟩
/-- two operands and a joint -/
theorem OK_bin {S T S4 S6 S8 : GS} {s : Int32} (hL : Lx S) (hT : OKx S T) (e4 : EE T S4) (g4 : GOx T S4) (e6 : EE S4 S6) (h6 : OKx S4 S6) (e8 : EE S6 S8) (hF : Fr [] [] [5, 6] [] S6 S8) (h1 : nn S8 = nn S6 + 1) (h2 : sx S8 13 (2 * (nn S6).toNat) = s) (hs : 8 ≤ s.toInt ∧ s.toInt ≠ 14) : OKx S S8 := by
  obtain ⟨a, b, c, d, e⟩ := hT
  obtain ⟨a2, b2, c2, d2, g2⟩ := g4
  obtain ⟨a3, b3, c3, d3, g3⟩ := h6
  have hS0 := hL.2.2.2.2.2.1
  have hSn := hL.2.2.2.2.2.2
  have hTn := a.2.2.2.2.2.2
  have hT0 := a.2.2.2.2.2.1
  have h40 := a2.2.2.2.2.2.1
  have h60 := a3.2.2.2.2.2.1
  have x4 := e4.2.2.2
  have x6 := e6.2.2.2
  obtain ⟨p, q, r, t⟩ := GO_ly a3 hF h1 (by omega)
  refine ⟨p, by rw [t]; omega, q.trans (c3.trans (d2.trans c)), BM_tr d (BM_tr g2 (BM_tr d3 r)), ?_⟩
  have s1 : Seg (sx S8 13) (nn S).toNat (nn T).toNat 0 1 := EE_sx e8 h60 (by omega) (EE_sx e6 h40 (by omega) (EE_sx e4 hT0 (by omega) e))
  have s2 : Seg (sx S8 13) (nn T).toNat (nn S6).toNat 1 2 := by
    have := Seg_up 1 (EE_sx e8 h60 (by omega) g3)
    rw [b2] at this
    exact this
  have en : (nn S8).toNat = (nn S6).toNat + 1 := by omega
  rw [en]
  exact Seg_cat s1 (Seg_cat s2 (Seg_one (by rw [h2]; exact Or.inr (Or.inr ⟨hs.1, hs.2, by decide, rfl⟩))))
set_option maxHeartbeats 400000 in
theorem q_unit (S : GS) (post : Int32 → GS → Prop) (hL : Lx S) (k : ∀ (r : Int32) (S' : GS), EE S S' → (r = 0 ∨ r = 1) → (r.toInt ≠ 0 → OKx S S') → post r S') : w_X12_unit S post := by
  have hn : 0 ≤ nn S ∧ nn S ≤ 700 := by
    obtain ⟨a1, a2, a3, a4, a5, a6, a7⟩ := hL
    omega
  have b31 : (fi S 3).toInt ≠ 0 → ∀ y : Int32, y.toInt < 8 → w_X12_unit_B31 post S y := by
    intro ht y hy
    unfold w_X12_unit_B31
    refine q_lay _ _ _ _ (by omega) (fun T hE hF h1 h2 => ?_)
    have e1 : fi T 1 = fi S 1 := hF.1 1 (by decide)
    have e2 : fi T 2 = fi S 2 := hF.1 2 (by decide)
    refine q_next0 _ _ (by rw [e1, e2]; exact NX_pre hL) (fun T' hN => ?_)
    exact k 1 _ (EE_tr hE (NX_ee hN)) (Or.inr rfl) (fun _ => OK_ln hL ht hF h1 h2 hy hN)
  have b172 : ∀ (T : GS) (y : Int32), EE S T → GOx S T → y.toInt < 8 → w_X12_unit_B172 post T y := by
    intro T y hE hG hy
    unfold w_X12_unit_B172
    have hb := hG.2.1
    refine q_lay _ _ _ _ (by omega) (fun T' hE' hF h1 h2 => ?_)
    exact k 1 _ (EE_tr hE hE') (Or.inr rfl) (fun _ => OK_ly hL hG hF h1 h2 hy)
  have b162 : ∀ (T : GS) (y : Int32), EE S T → GOx S T → y.toInt < 8 → w_X12_unit_B162 post T y := by
    intro T y hE hG hy
    unfold w_X12_unit_B162
    refine ⟨fun _ => b172 T y hE hG hy, fun _ => ?_⟩
    have eF : Fr [15] [] [] [] T (si T 15 1) := Fr.si (by decide) Fr.rf
    have f15 : fi (si T 15 1) 15 = 1 := si_at _ _ _
    generalize si T 15 1 = U at eF f15 ⊢
    have t1 : fi U 1 = fi T 1 := eF.1 1 (by decide)
    have t2 : fi U 2 = fi T 2 := eF.1 2 (by decide)
    have t3 : fi U 3 = fi T 3 := eF.1 3 (by decide)
    have t4 : fi U 4 = fi T 4 := eF.1 4 (by decide)
    have t9 : fi U 9 = fi T 9 := eF.1 9 (by decide)
    have t14 : fi U 14 = fi T 14 := eF.1 14 (by decide)
    have tn := nn_fr eF (by decide)
    refine b172 U y (EE_tr hE (EE_fr (eF.wk (by decide)))) ?_ hy
    obtain ⟨a, b, c, d, e⟩ := hG
    refine ⟨?_, tn.trans b, by rw [t4]; exact c, t9.trans d, BM_tr e ⟨Or.inl t14, Or.inr f15⟩⟩
    unfold Lx at a ⊢
    rw [t1, t2, t3, t4, tn]; exact a
  have b112 : (fi S 3).toInt ≠ 0 ∨ True → ∀ y : Int32, y.toInt < 8 → (y.toInt ≠ -1 → (fi S 3).toInt ≠ 0) → w_X12_unit_B112 post S y := by
    intro _ y hy ht
    unfold w_X12_unit_B112 w_X12_unit_B143 w_X12_unit_B160
    refine ⟨fun g => ?_, fun _ => ⟨Or.inl rfl, k 0 _ (EE_bad S 1) (Or.inl rfl) no0⟩⟩
    refine q_next0 _ _ (NX_pre hL) (fun T hN => ?_)
    have hG := GO_nx hL (ht g) hN
    have hE := NX_ee hN
    have pp : w_X12_persons T (fun r7 S8 => (r7.toInt ≠ 0 → w_X12_unit_B162 post S8 y) ∧ (r7.toInt = 0 → post 0 S8)) := by
      refine q_persons T _ hG.1 (fun r7 S8 hE8 _ h8 => ⟨fun g7 => b162 S8 y (EE_tr hE hE8) (GO_tr hG (h8 g7).1) hy, fun _ => k 0 _ (EE_tr hE hE8) (Or.inl rfl) no0⟩)
    refine ⟨fun _ => pp, fun _ => ⟨fun _ => pp, fun _ => ⟨fun _ => ?_, fun _ => pp⟩⟩⟩
    exact q_person T _ hG.1 (fun r7 S8 hE8 _ h8 => ⟨fun g7 => b162 S8 y (EE_tr hE hE8) (GO_tr hG (h8 g7).1) hy, fun _ => k 0 _ (EE_tr hE hE8) (Or.inl rfl) no0⟩)
  unfold w_X12_unit w_X12_unit_B17
  have h17 : (fi S 3).toInt ≠ 0 → ((fi S 3).toInt ≠ 311 → w_X12_unit_B31 post S 0) ∧ ((fi S 3).toInt = 311 → w_X12_unit_B31 post S 7) := fun h => ⟨fun _ => b31 h 0 (by decide), fun _ => b31 h 7 (by decide)⟩
  refine ⟨fun g => h17 (by omega), fun _ => ⟨fun _ => ⟨fun _ => ⟨fun _ => ⟨fun _ => ⟨fun _ => ⟨fun _ => ⟨fun _ => ?_, fun g => ?_⟩, fun g => ?_⟩, fun g => ?_⟩, fun g => ?_⟩, fun g => ?_⟩, fun g => ?_⟩, fun g => h17 (by omega)⟩⟩
  · exact b112 (Or.inr trivial) (-1) (by decide) (fun h => absurd (by decide) h)
  · exact b112 (Or.inr trivial) 6 (by decide) (fun _ => by omega)
  · exact b112 (Or.inr trivial) 5 (by decide) (fun _ => by omega)
  · exact b112 (Or.inr trivial) 4 (by decide) (fun _ => by omega)
  · exact b112 (Or.inr trivial) 3 (by decide) (fun _ => by omega)
  · exact b112 (Or.inr trivial) 2 (by decide) (fun _ => by omega)
  · exact b112 (Or.inr trivial) 1 (by decide) (fun _ => by omega)
theorem nn_lx {S : GS} (hL : Lx S) : 0 ≤ nn S ∧ nn S ≤ 715 := by
  obtain ⟨a1, a2, a3, a4, a5, a6, a7⟩ := hL
  omega
set_option maxHeartbeats 400000 in
theorem q_product (S : GS) (post : Int32 → GS → Prop) (hL : Lx S) (k : ∀ (r : Int32) (S' : GS), EE S S' → (r = 0 ∨ r = 1) → (r.toInt ≠ 0 → OKx S S') → post r S') : w_X12_product S post := by
  unfold w_X12_product
  refine q_unit S _ hL (fun r1 S2 hE2 _ h2 => ⟨fun g1 => ?_, fun _ => k 0 S2 hE2 (Or.inl rfl) no0⟩)
  refine lr1 (fun (T : GS) => EE S T ∧ OKx S T) (fun T => (700 - (fi T 4).toInt).toNat) ?_ _ ⟨hE2, h2 g1⟩
  rintro kk T ⟨hE, hO⟩ hk
  unfold w_X12_product_F9 w_X12_product_B41
  refine ⟨fun _ => k 1 T hE (Or.inr rfl) (fun _ => hO), fun g => ?_⟩
  refine q_next0 _ _ (NX_pre hO.1) (fun S4 hN => ?_)
  have g4 := GO_nx hO.1 (by omega) hN
  have e4 := NX_ee hN
  refine q_unit S4 _ g4.1 (fun r5 S6 hE6 _ h6 => ⟨fun g5 => ?_, fun _ => k 0 S6 (EE_tr hE (EE_tr e4 hE6)) (Or.inl rfl) no0⟩)
  have o6 := h6 g5
  refine q_lay _ _ _ _ (nn_lx o6.1) (fun S8 e8 hF h1 h2 => ?_)
  have o8 := OK_bin hL hO e4 g4 hE6 o6 e8 hF h1 h2 (by decide)
  have q4 : fi S8 4 = fi S6 4 := hF.1 4 (by decide)
  have y1 := o6.2.1
  have y2 := hE6.2.2.2
  have y3 := g4.2.2.1
  have y4 := o8.1.2.1
  have y5 := o8.1.2.2.1
  have y6 := o8.1.2.2.2.1
  exact hk _ ⟨EE_tr hE (EE_tr e4 (EE_tr hE6 e8)), o8⟩ (by rw [q4] at *; omega)
set_option maxHeartbeats 400000 in
theorem q_sumUp (S : GS) (post : Int32 → GS → Prop) (hL : Lx S) (k : ∀ (r : Int32) (S' : GS), EE S S' → (r = 0 ∨ r = 1) → (r.toInt ≠ 0 → OKx S S') → post r S') : w_X12_sumUp S post := by
  unfold w_X12_sumUp
  refine q_product S _ hL (fun r1 S2 hE2 _ h2 => ⟨fun g1 => ?_, fun _ => k 0 S2 hE2 (Or.inl rfl) no0⟩)
  refine lr1 (fun (T : GS) => EE S T ∧ OKx S T) (fun T => (700 - (fi T 4).toInt).toNat) ?_ _ ⟨hE2, h2 g1⟩
  rintro kk T ⟨hE, hO⟩ hk
  unfold w_X12_sumUp_F9 w_X12_sumUp_B66 w_X12_sumUp_B27
  have b43 : (fi T 3).toInt ≠ 0 → ∀ y : Int32, 8 ≤ y.toInt ∧ y.toInt ≠ 14 → w_X12_sumUp_B43 post kk (w_X12_sumUp_B66 post) T y := by
    intro ht y hy
    unfold w_X12_sumUp_B43
    refine q_next0 _ _ (NX_pre hO.1) (fun S4 hN => ?_)
    have g4 := GO_nx hO.1 ht hN
    have e4 := NX_ee hN
    refine q_product S4 _ g4.1 (fun r5 S6 hE6 _ h6 => ⟨fun g5 => ?_, fun _ => k 0 S6 (EE_tr hE (EE_tr e4 hE6)) (Or.inl rfl) no0⟩)
    have o6 := h6 g5
    refine q_lay _ _ _ _ (nn_lx o6.1) (fun S8 e8 hF h1 h2 => ?_)
    have o8 := OK_bin hL hO e4 g4 hE6 o6 e8 hF h1 h2 hy
    have q4 : fi S8 4 = fi S6 4 := hF.1 4 (by decide)
    have y1 := o6.2.1
    have y2 := hE6.2.2.2
    have y3 := g4.2.2.1
    have y4 := o8.1.2.1
    have y5 := o8.1.2.2.1
    have y6 := o8.1.2.2.2.1
    exact hk _ ⟨EE_tr hE (EE_tr e4 (EE_tr hE6 e8)), o8⟩ (by rw [q4] at *; omega)
  exact ⟨fun g => ⟨fun _ => b43 (by omega) 9 (by decide), fun _ => b43 (by omega) 8 (by decide)⟩, fun _ => ⟨fun _ => k 1 T hE (Or.inr rfl) (fun _ => hO), fun g => ⟨fun _ => b43 (by omega) 9 (by decide), fun _ => b43 (by omega) 8 (by decide)⟩⟩⟩
/-- what a claim's parser owes, at depth -/
def SGx (d : Int) (sg : GS → (Int32 → GS → Prop) → Prop) : Prop := ∀ (S : GS) (post : Int32 → GS → Prop), Lx S → 0 ≤ (fi S 9).toInt ∧ (fi S 9).toInt ≤ 8 → 8 - (fi S 9).toInt < d → (∀ (r : Int32) (S' : GS), EE S S' → (r = 0 ∨ r = 1) → (r.toInt ≠ 0 → OKx S S') → post r S') → sg S post
set_option maxHeartbeats 400000 in
theorem q_everyR (d : Int) (sg : GS → (Int32 → GS → Prop) → Prop) (hsg : SGx d sg) (S : GS) (post : Int32 → GS → Prop) (hL : Lx S) (hd : 0 ≤ (fi S 9).toInt ∧ (fi S 9).toInt ≤ 8) (hd2 : 8 - (fi S 9).toInt < d) (k : ∀ (r : Int32) (S' : GS), EE S S' → (r = 0 ∨ r = 1) → (r.toInt ≠ 0 → OKx S S') → post r S') : w_X12_every_R sg S post := by
  unfold w_X12_every_R
  refine hsg S _ hL hd hd2 (fun r1 S2 hE2 _ h2 => ⟨fun g1 => ?_, fun _ => k 0 S2 hE2 (Or.inl rfl) no0⟩)
  refine lr1 (fun (T : GS) => EE S T ∧ OKx S T) (fun T => (700 - (fi T 4).toInt).toNat) ?_ _ ⟨hE2, h2 g1⟩
  rintro kk T ⟨hE, hO⟩ hk
  unfold w_X12_every_F9 w_X12_every_B42
  refine ⟨fun _ => k 1 T hE (Or.inr rfl) (fun _ => hO), fun g => ?_⟩
  refine q_next0 _ _ (NX_pre hO.1) (fun S4 hN => ?_)
  have g4 := GO_nx hO.1 (by omega) hN
  have e4 := NX_ee hN
  have d4 : fi S4 9 = fi S 9 := g4.2.2.2.1.trans hO.2.2.1
  refine hsg S4 _ g4.1 (by rw [d4]; exact hd) (by rw [d4]; exact hd2) (fun r5 S6 hE6 _ h6 => ⟨fun g5 => ?_, fun _ => k 0 S6 (EE_tr hE (EE_tr e4 hE6)) (Or.inl rfl) no0⟩)
  have o6 := h6 g5
  refine q_lay _ _ _ _ (nn_lx o6.1) (fun S8 e8 hF h1 h2 => ?_)
  have o8 := OK_bin hL hO e4 g4 hE6 o6 e8 hF h1 h2 (by decide)
  have q4 : fi S8 4 = fi S6 4 := hF.1 4 (by decide)
  have y1 := o6.2.1
  have y2 := hE6.2.2.2
  have y3 := g4.2.2.1
  have y4 := o8.1.2.1
  have y5 := o8.1.2.2.1
  have y6 := o8.1.2.2.2.1
  exact hk _ ⟨EE_tr hE (EE_tr e4 (EE_tr hE6 e8)), o8⟩ (by rw [q4] at *; omega)
set_option maxHeartbeats 400000 in
theorem q_anyR (d : Int) (sg : GS → (Int32 → GS → Prop) → Prop) (hsg : SGx d sg) (S : GS) (post : Int32 → GS → Prop) (hL : Lx S) (hd : 0 ≤ (fi S 9).toInt ∧ (fi S 9).toInt ≤ 8) (hd2 : 8 - (fi S 9).toInt < d) (k : ∀ (r : Int32) (S' : GS), EE S S' → (r = 0 ∨ r = 1) → (r.toInt ≠ 0 → OKx S S') → post r S') : w_X12_any_R sg S post := by
  unfold w_X12_any_R
  refine q_everyR d sg hsg S _ hL hd hd2 (fun r1 S2 hE2 _ h2 => ⟨fun g1 => ?_, fun _ => k 0 S2 hE2 (Or.inl rfl) no0⟩)
  refine lr1 (fun (T : GS) => EE S T ∧ OKx S T) (fun T => (700 - (fi T 4).toInt).toNat) ?_ _ ⟨hE2, h2 g1⟩
  rintro kk T ⟨hE, hO⟩ hk
  unfold w_X12_any_F9 w_X12_any_B42
  refine ⟨fun _ => k 1 T hE (Or.inr rfl) (fun _ => hO), fun g => ?_⟩
  refine q_next0 _ _ (NX_pre hO.1) (fun S4 hN => ?_)
  have g4 := GO_nx hO.1 (by omega) hN
  have e4 := NX_ee hN
  have d4 : fi S4 9 = fi S 9 := g4.2.2.2.1.trans hO.2.2.1
  refine q_everyR d sg hsg S4 _ g4.1 (by rw [d4]; exact hd) (by rw [d4]; exact hd2) (fun r5 S6 hE6 _ h6 => ⟨fun g5 => ?_, fun _ => k 0 S6 (EE_tr hE (EE_tr e4 hE6)) (Or.inl rfl) no0⟩)
  have o6 := h6 g5
  refine q_lay _ _ _ _ (nn_lx o6.1) (fun S8 e8 hF h1 h2 => ?_)
  have o8 := OK_bin hL hO e4 g4 hE6 o6 e8 hF h1 h2 (by decide)
  have q4 : fi S8 4 = fi S6 4 := hF.1 4 (by decide)
  have y1 := o6.2.1
  have y2 := hE6.2.2.2
  have y3 := g4.2.2.1
  have y4 := o8.1.2.1
  have y5 := o8.1.2.2.1
  have y6 := o8.1.2.2.2.1
  exact hk _ ⟨EE_tr hE (EE_tr e4 (EE_tr hE6 e8)), o8⟩ (by rw [q4] at *; omega)
set_option maxHeartbeats 400000 in
theorem q_opens (S : GS) (post : Int32 → GS → Prop) (hL : Lx S) (hd : 0 ≤ (fi S 9).toInt ∧ (fi S 9).toInt ≤ 8) (ht : (fi S 3).toInt ≠ 0) (k : ∀ (r : Int32) (S' : GS), EE S S' → (r = 0 ∨ r = 1) → (r.toInt ≠ 0 → Lx S' ∧ nn S' = nn S ∧ (fi S 4).toInt < (fi S' 4).toInt ∧ (fi S' 9).toInt = (fi S 9).toInt + 1 ∧ (fi S' 9).toInt ≤ 8 ∧ BM S S') → post r S') : w_X12_opens S post := by
  unfold w_X12_opens
  refine ⟨fun g => ?_, fun _ => ⟨Or.inl rfl, k 0 _ (EE_bad S 3) (Or.inl rfl) no0⟩⟩
  have eF : Fr [9] [] [] [] S (si S 9 (fi S 9 + 1)) := Fr.si (by decide) Fr.rf
  have f9 : fi (si S 9 (fi S 9 + 1)) 9 = fi S 9 + 1 := si_at _ _ _
  generalize si S 9 (fi S 9 + 1) = U at eF f9 ⊢
  have t1 : fi U 1 = fi S 1 := eF.1 1 (by decide)
  have t2 : fi U 2 = fi S 2 := eF.1 2 (by decide)
  have t3 : fi U 3 = fi S 3 := eF.1 3 (by decide)
  have t4 : fi U 4 = fi S 4 := eF.1 4 (by decide)
  have tn := nn_fr eF (by decide)
  have hLU : Lx U := by
    unfold Lx at hL ⊢
    rw [t1, t2, t3, t4, tn]; exact hL
  refine q_next0 _ _ (NX_pre hLU) (fun T hN => ?_)
  obtain ⟨a, b, c, d, e⟩ := GO_nx hLU (by rw [t3]; exact ht) hN
  have e9 : (fi T 9).toInt = (fi S 9).toInt + 1 := by rw [d, f9, inc1 (by omega)]
  exact k 1 T (EE_tr (EE_fr (eF.wk (by decide))) (NX_ee hN)) (Or.inr rfl) (fun _ => ⟨a, b.trans tn, by rw [t4] at c; exact c, e9, by omega, BM_tr (BM_fr eF (by decide) (by decide)) e⟩)
set_option maxHeartbeats 400000 in
theorem q_need (S : GS) (t : Int32) (post : Int32 → GS → Prop) (hL : Lx S) (ht : t.toInt ≠ 0) (k : ∀ (r : Int32) (S' : GS), EE S S' → Fr [2, 3, 4, 5, 6, 7] [] [] [] S S' → (r = 0 ∨ r = 1) → (r.toInt ≠ 0 → GOx S S') → post r S') : w_X12_need S t post := by
  unfold w_X12_need
  refine ⟨fun g => ?_, fun _ => ⟨Or.inl rfl, k 0 _ (EE_bad S 1) (Fr.si (by decide) (Fr.si (by decide) Fr.rf)) (Or.inl rfl) no0⟩⟩
  exact q_next0 _ _ (NX_pre hL) (fun T hN => k 1 T (NX_ee hN) (hN.1.wk (by decide)) (Or.inr rfl) (fun _ => GO_nx hL (by omega) hN))
set_option maxHeartbeats 400000 in
theorem q_singleR (d : Int) (sg : GS → (Int32 → GS → Prop) → Prop) (hsg : SGx d sg) : SGx (d + 1) (w_X12_single_R sg) := by
  intro S post hL hd hd2 k
  unfold w_X12_single_R w_X12_single_B77 w_X12_single_B24
  refine ⟨fun _ => ⟨fun _ => ?_, fun g => ?_⟩, fun g => ?_⟩
  · refine q_sumUp S _ hL (fun r1 S2 hE2 _ h2 => ⟨fun g1 => ?_, fun _ => k 0 S2 hE2 (Or.inl rfl) no0⟩)
    have o2 := h2 g1
    have b143 : ∀ y : Int32, (y.toInt ≠ -1 → (fi S2 3).toInt ≠ 0 ∧ 8 ≤ y.toInt ∧ y.toInt ≠ 14) → w_X12_single_B143 sg post S2 y := by
      intro y hy
      unfold w_X12_single_B143
      refine ⟨fun gy => ?_, fun _ => ⟨Or.inl rfl, k 0 _ (EE_tr hE2 (EE_bad S2 1)) (Or.inl rfl) no0⟩⟩
      have hy2 := hy gy
      refine q_next0 _ _ (NX_pre o2.1) (fun S4 hN => ?_)
      have g4 := GO_nx o2.1 hy2.1 hN
      have e4 := NX_ee hN
      refine q_sumUp S4 _ g4.1 (fun r5 S6 hE6 _ h6 => ⟨fun g5 => ?_, fun _ => k 0 S6 (EE_tr hE2 (EE_tr e4 hE6)) (Or.inl rfl) no0⟩)
      have o6 := h6 g5
      refine q_lay _ _ _ _ (nn_lx o6.1) (fun S8 e8 hF h1 h2 => ?_)
      exact k 1 S8 (EE_tr hE2 (EE_tr e4 (EE_tr hE6 e8))) (Or.inr rfl) (fun _ => OK_bin hL o2 e4 g4 hE6 o6 e8 hF h1 h2 hy2.2)
    refine ⟨fun _ => ⟨fun _ => ⟨fun _ => b143 (-1) (fun h => absurd (by decide) h), fun g => b143 13 (fun _ => ⟨by omega, by decide⟩)⟩, fun g => b143 12 (fun _ => ⟨by omega, by decide⟩)⟩, fun g => b143 11 (fun _ => ⟨by omega, by decide⟩)⟩
  · refine q_opens S _ hL hd (by omega) (fun r1 S2 hE2 _ h2 => ⟨fun _ => k 0 S2 hE2 (Or.inl rfl) no0, fun g1 => ?_⟩)
    obtain ⟨a, b, c, e, e8, bm⟩ := h2 g1
    refine q_anyR d sg hsg S2 _ a (by omega) (by omega) (fun r3 S4 hE4 _ h4 => ⟨fun _ => k 0 S4 (EE_tr hE2 hE4) (Or.inl rfl) no0, fun g3 => ?_⟩)
    have o4 := h4 g3
    refine q_need S4 _ _ o4.1 (by decide) (fun r5 S6 hE6 hF6 _ h6 => ⟨fun g5 => ?_, fun _ => k 0 S6 (EE_tr hE2 (EE_tr hE4 hE6)) (Or.inl rfl) no0⟩)
    have o6 := h6 g5
    have eF : Fr [9] [] [] [] S6 (si S6 9 (fi S6 9 - 1)) := Fr.si (by decide) Fr.rf
    have f9 : fi (si S6 9 (fi S6 9 - 1)) 9 = fi S6 9 - 1 := si_at _ _ _
    generalize si S6 9 (fi S6 9 - 1) = U at eF f9 ⊢
    have t1 : fi U 1 = fi S6 1 := eF.1 1 (by decide)
    have t2 : fi U 2 = fi S6 2 := eF.1 2 (by decide)
    have t3 : fi U 3 = fi S6 3 := eF.1 3 (by decide)
    have t4 : fi U 4 = fi S6 4 := eF.1 4 (by decide)
    have tn := nn_fr eF (by decide)
    have hEU : EE S6 U := EE_fr (eF.wk (by decide))
    have d6 : (fi S6 9).toInt = (fi S 9).toInt + 1 := by rw [o6.2.2.2.1, o4.2.2.1]; exact e
    refine k 1 U (EE_tr hE2 (EE_tr hE4 (EE_tr hE6 hEU))) (Or.inr rfl) (fun _ => ⟨?_, ?_, ?_, ?_, ?_⟩)
    · have := o6.1
      unfold Lx at this ⊢
      rw [t1, t2, t3, t4, tn]; exact this
    · have y1 := o4.2.1
      have y2 := o6.2.1
      have y3 := o6.2.2.1
      rw [tn, t4]; omega
    · exact i_eq (by rw [f9, sub1 (by omega)]; omega)
    · exact BM_tr bm (BM_tr o4.2.2.2.1 (BM_tr o6.2.2.2.2 (BM_fr eF (by decide) (by decide))))
    · have y2 := o6.2.1
      have y4 := a.2.2.2.2.2.1
      have y5 := o4.1.2.2.2.2.2.1
      have y6 := o6.1.2.2.2.2.2.1
      rw [tn, y2, ← b]
      exact EE_sx hEU y6 (by omega) (EE_sx hE6 y5 (by omega) o4.2.2.2.2)
  · refine q_opens S _ hL hd (by omega) (fun r1 S2 hE2 _ h2 => ⟨fun _ => k 0 S2 hE2 (Or.inl rfl) no0, fun g1 => ?_⟩)
    obtain ⟨a, b, c, e, e8, bm⟩ := h2 g1
    refine hsg S2 _ a (by omega) (by omega) (fun r3 S4 hE4 _ h4 => ⟨fun g3 => ?_, fun _ => k 0 S4 (EE_tr hE2 hE4) (Or.inl rfl) no0⟩)
    have o4 := h4 g3
    have eF : Fr [9] [] [] [] S4 (si S4 9 (fi S4 9 - 1)) := Fr.si (by decide) Fr.rf
    have f9 : fi (si S4 9 (fi S4 9 - 1)) 9 = fi S4 9 - 1 := si_at _ _ _
    generalize si S4 9 (fi S4 9 - 1) = U at eF f9 ⊢
    have t1 : fi U 1 = fi S4 1 := eF.1 1 (by decide)
    have t2 : fi U 2 = fi S4 2 := eF.1 2 (by decide)
    have t3 : fi U 3 = fi S4 3 := eF.1 3 (by decide)
    have t4 : fi U 4 = fi S4 4 := eF.1 4 (by decide)
    have tn := nn_fr eF (by decide)
    have hEU : EE S4 U := EE_fr (eF.wk (by decide))
    have hLU : Lx U := by
      have := o4.1
      unfold Lx at this ⊢
      rw [t1, t2, t3, t4, tn]; exact this
    have d4 : (fi S4 9).toInt = (fi S 9).toInt + 1 := by rw [o4.2.2.1]; exact e
    refine q_lay _ _ _ _ (nn_lx hLU) (fun T hET hF h1 h2 => ?_)
    have y1 := o4.2.1
    have y7 := hL.2.2.2.2.2.2
    have y4 := a.2.2.2.2.2.1
    have y5 := o4.1.2.2.2.2.2.1
    obtain ⟨p, q, r, t⟩ := GO_ly hLU hF h1 (by rw [tn, t4]; omega)
    refine k 1 T (EE_tr hE2 (EE_tr hE4 (EE_tr hEU hET))) (Or.inr rfl) (fun _ => ⟨p, ?_, ?_, ?_, ?_⟩)
    · rw [t, t4]; omega
    · rw [q]
      exact i_eq (by rw [f9, sub1 (by omega)]; omega)
    · exact BM_tr bm (BM_tr o4.2.2.2.1 (BM_tr (BM_fr eF (by decide) (by decide)) r))
    · have en : (nn T).toNat = (nn S4).toNat + 1 := by omega
      rw [en, ← b]
      refine Seg_cat (EE_sx hET (by omega) (by omega) (EE_sx hEU y5 (by omega) o4.2.2.2.2)) (Seg_one ?_)
      rw [tn] at h2
      rw [h2]
      exact Or.inr (Or.inl ⟨by decide, by decide, rfl⟩)
set_option maxHeartbeats 400000 in
theorem q_fuel : ∀ n : Nat, SGx (n : Int) (lpn w_X12_single_R (fun _ _ => False) n) := by
  intro n
  induction n with
  | zero => intro S post _ hd hd2 _; exact absurd hd2 (by omega)
  | succ n ih =>
    have h := q_singleR (n : Int) _ ih
    have e : ((n + 1 : Nat) : Int) = (n : Int) + 1 := by omega
    rw [e]
    exact h
/-- behind a B -/
def OKy (S S' : GS) : Prop := Lx S' ∧ nn S' - nn S ≤ (fi S' 4).toInt - (fi S 4).toInt ∧ BM S S' ∧ Seg (sx S' 13) (nn S).toNat (nn S').toNat 0 1
set_option maxHeartbeats 400000 in
theorem q_asked (S : GS) (post : Int32 → GS → Prop) (hL : Lx S) (k : ∀ (r : Int32) (S' : GS), EE S S' → (r = 0 ∨ r = 1) → (r.toInt ≠ 0 → OKy S S') → post r S') : w_X12_asked S post := by
  unfold w_X12_asked w_X12_any
  have eF : Fr [9] [] [] [] S (si S 9 0) := Fr.si (by decide) Fr.rf
  have f9 : fi (si S 9 0) 9 = 0 := si_at _ _ _
  generalize si S 9 0 = U at eF f9 ⊢
  have t1 : fi U 1 = fi S 1 := eF.1 1 (by decide)
  have t2 : fi U 2 = fi S 2 := eF.1 2 (by decide)
  have t3 : fi U 3 = fi S 3 := eF.1 3 (by decide)
  have t4 : fi U 4 = fi S 4 := eF.1 4 (by decide)
  have tn := nn_fr eF (by decide)
  have hEU : EE S U := EE_fr (eF.wk (by decide))
  have hLU : Lx U := by
    unfold Lx at hL ⊢
    rw [t1, t2, t3, t4, tn]; exact hL
  refine q_anyR (10 : Nat) _ (q_fuel 10) U _ hLU (by rw [f9]; decide) (by rw [f9]; decide) (fun r S2 hE2 hr h2 => ⟨hr, k r S2 (EE_tr hEU hE2) hr (fun g => ?_)⟩)
  obtain ⟨a, b, c, d, e⟩ := h2 g
  rw [tn, t4] at b
  rw [tn] at e
  exact ⟨a, b, BM_tr (BM_fr eF (by decide) (by decide)) d, e⟩
