/-- one step from height h to h' -/
def SK (s : Int) (h h' : Nat) : Prop := (s < 8 ∧ h' = h + 1) ∨ (s = 14 ∧ 1 ≤ h ∧ h' = h) ∨ (8 ≤ s ∧ s ≠ 14 ∧ 2 ≤ h ∧ h' + 1 = h)
/-- steps lo .. hi go from height h0 to h1 -/
def Seg (f : Nat → Int32) (lo hi h0 h1 : Nat) : Prop := lo ≤ hi ∧ ∃ H : Nat → Nat, H lo = h0 ∧ H hi = h1 ∧ ∀ i, lo ≤ i → i < hi → SK (f (2 * i)).toInt (H i) (H (i + 1))
def sx (S : GS) (t : Nat) : Nat → Int32 := fun j => ar S 5 (1440 * t + j)
def MakeOK (S : GS) (x m : Nat) : Prop := (0 ≤ (ar S 12 m).toInt ∧ (ar S 12 m).toInt ≤ 199) ∧ ((ar S 16 m).toInt ≠ (ar S 15 m).toInt → 0 ≤ (ar S 15 m).toInt ∧ 0 ≤ (ar S 16 m).toInt ∧ (ar S 16 m).toInt ≤ 720 ∧ Seg (sx S (x / 6)) (ar S 15 m).toInt.toNat (ar S 16 m).toInt.toNat 0 1) ∧ ((ar S 12 m).toInt % 100 = 0 → ((ar S 13 m).toInt = 0 ∨ ((ar S 13 m).toInt = 1 ∧ (ar S 19 x).toInt = 1))) ∧ ((ar S 12 m).toInt % 100 = 1 ∨ (ar S 12 m).toInt % 100 = 4 ∨ (ar S 12 m).toInt % 100 = 5 ∨ (ar S 12 m).toInt % 100 = 6 → (((ar S 13 m).toInt = 0 ∧ (ar S 14 m).toInt = 1) ∨ ((ar S 13 m).toInt = 1 ∧ (ar S 14 m).toInt = 0)) ∧ (ar S 19 x).toInt = 1) ∧ ((ar S 12 m).toInt % 100 = 2 → (ar S 20 x).toInt = 1)
def NeedOK (S : GS) (x n : Nat) : Prop := 0 ≤ (ar S 10 n).toInt ∧ 0 ≤ (ar S 11 n).toInt ∧ (ar S 11 n).toInt ≤ 720 ∧ Seg (sx S (x / 6)) (ar S 10 n).toInt.toNat (ar S 11 n).toInt.toNat 0 1
def ActOK (S : GS) (x : Nat) : Prop := (0 ≤ (ar S 8 x).toInt ∧ (ar S 8 x).toInt ≤ 4) ∧ (0 ≤ (ar S 9 x).toInt ∧ (ar S 9 x).toInt ≤ 6) ∧ (∀ k : Nat, (k : Int) < (ar S 8 x).toInt → NeedOK S x (4 * x + k)) ∧ (∀ k : Nat, (k : Int) < (ar S 9 x).toInt → MakeOK S x (6 * x + k))
def TxtOK (S : GS) (t : Nat) : Prop := 0 ≤ (ar S 6 t).toInt ∧ (ar S 6 t).toInt ≤ 720 ∧ Seg (sx S t) 0 (ar S 6 t).toInt.toNat 0 1
/-- what is kept between two calls, the SEARCH aside -/
def KInv (S : GS) : Prop := (0 ≤ (fi S 1).toInt ∧ (fi S 1).toInt ≤ 700) ∧ (∀ t, t < 2 → 0 ≤ (ar S 7 t).toInt ∧ (ar S 7 t).toInt ≤ 6) ∧ (∀ x : Nat, x < 12 → ((x % 6 : Nat) : Int) < (ar S 7 (x / 6)).toInt → ActOK S x) ∧ (0 ≤ (fi S 16).toInt ∧ (fi S 16).toInt ≤ 6) ∧ (∀ k : Nat, (k : Int) < (fi S 16).toInt → TxtOK S (2 + k)) ∧ (0 ≤ (fi S 17).toInt ∧ (fi S 17).toInt ≤ 5) ∧ (∀ k : Nat, (k : Int) < (fi S 17).toInt → TxtOK S (8 + k)) ∧ (∀ r, r < 6 → 0 ≤ (ar S 38 r).toInt ∧ (ar S 38 r).toInt ≤ 12) ∧ (∀ i, i < 72 → 0 ≤ (ar S 37 i).toInt ∧ (ar S 37 i).toInt ≤ 767) ∧ (∀ i, i < 18 → 0 ≤ (ar S 31 i).toInt ∧ (ar S 31 i).toInt ≤ 2) ∧ (0 ≤ (fi S 25).toInt ∧ (fi S 25).toInt ≤ 200)
abbrev FW : GS → GS → Prop := Fr [0, 18, 19, 20, 24] [1, 2] [0, 1, 2, 3, 4, 22, 24, 25] []
abbrev FQ : GS → GS → Prop := Fr [0, 18, 19, 20, 21, 22, 23, 24] [1, 2] [0, 1, 2, 3, 4, 22, 24, 25, 26, 27, 28, 29, 30, 32, 33, 34, 35, 36] [0, 1]
theorem KInv.fr {S S' : GS} (h : KInv S) (f : FQ S S') : KInv S' := by
  unfold KInv ActOK TxtOK NeedOK MakeOK sx fi ar at *
  rw [f.1 1 (by decide), f.1 16 (by decide), f.1 17 (by decide), f.1 25 (by decide), f.2.2.1 5 (by decide), f.2.2.1 6 (by decide), f.2.2.1 7 (by decide), f.2.2.1 8 (by decide), f.2.2.1 9 (by decide), f.2.2.1 10 (by decide), f.2.2.1 11 (by decide), f.2.2.1 12 (by decide), f.2.2.1 13 (by decide), f.2.2.1 14 (by decide), f.2.2.1 15 (by decide), f.2.2.1 16 (by decide), f.2.2.1 19 (by decide), f.2.2.1 20 (by decide), f.2.2.1 31 (by decide), f.2.2.1 37 (by decide), f.2.2.1 38 (by decide)]
  exact h
theorem KInv.fw {S S' : GS} (h : KInv S) (f : FW S S') : KInv S' := h.fr (f.wk (by decide))
/-- behind what reckons -/
def WW (S S' : GS) : Prop := FW S S' ∧ (BR S → BR S')
theorem WW.rf {S : GS} : WW S S := ⟨Fr.rf, id⟩
theorem WW.tr {S S' S'' : GS} (h : WW S S') (g : WW S' S'') : WW S S'' := ⟨h.1.tr g.1, fun b => g.2 (h.2 b)⟩
theorem TK.ww {S S' : GS} {p : Int} (h : TK S S' p) : WW S S' := ⟨h.1.wk (by decide), h.2.1⟩
theorem BR.fr {I L A M : List Nat} {S S' : GS} (h : Fr I L A M S S') (h3 : 1 ∉ A ∧ 31 ∉ A ∧ 3 ∉ A) (h4 : 4 ∉ A) (b : BR S) : BR S' := by
  unfold BR ar at *
  rw [h.2.2.1 3 h3.2.2, h.2.2.1 4 h4, h.2.2.1 1 h3.1, h.2.2.1 31 h3.2.1]
  exact b
def byR (S : GS) : Prop := (0 ≤ (fi S 18).toInt ∧ (fi S 18).toInt ≤ 3) ∧ (0 ≤ (fi S 19).toInt ∧ (fi S 19).toInt ≤ 3) ∧ (0 ≤ (fi S 20).toInt ∧ (fi S 20).toInt ≤ 3)
set_option maxHeartbeats 100000 in
theorem q_comesTo (S : GS) (t lo hi : Int32) (post : Int32 → GS → Prop) (ht : 0 ≤ t.toInt ∧ t.toInt ≤ 13) (hl : 0 ≤ lo.toInt) (hh : 0 ≤ hi.toInt ∧ hi.toInt ≤ 720) (hs : Seg (sx S t.toInt.toNat) lo.toInt.toNat hi.toInt.toNat 0 1) (hby : byR S) (k : ∀ r S', Fr [] [] [22] [] S S' → post r S') : w_X12_comesTo S t lo hi post := by
  unfold w_X12_comesTo
  obtain ⟨hlh, H, hH0, hH1, hH⟩ := hs
  refine lr5 (fun (S' : GS) (t' hi' top i : Int32) => t' = t ∧ hi' = hi ∧ Fr [] [] [22] [] S S' ∧ lo.toInt ≤ i.toInt ∧ i.toInt ≤ hi.toInt ∧ top.toInt = ((H i.toInt.toNat : Nat) : Int) ∧ top.toInt ≤ i.toInt - lo.toInt) (fun _ _ _ _ i => (hi.toInt - i.toInt).toNat) ?_ _ _ _ _ _ ⟨rfl, rfl, Fr.rf, by omega, by omega, by rw [hH0]; decide, by rw [li_0]; omega⟩
  rintro kk S' t' hi' top i ⟨rfl, rfl, hF, h1, h2, h3, h4⟩ hk
  clear hH0 hH1
  unfold w_X12_comesTo_F6 w_X12_comesTo_B145 w_X12_comesTo_B139
  refine ⟨fun _ => k _ _ hF, fun g => ?_⟩
  have hsk := hH i.toInt.toNat (by omega) (by omega)
  obtain ⟨hA, hAe⟩ : ∃ b, H i.toInt.toNat = b := ⟨_, rfl⟩
  obtain ⟨hB, hBe⟩ : ∃ b, H (i.toInt.toNat + 1) = b := ⟨_, rfl⟩
  rw [hAe] at h3 hsk
  rw [hBe] at hsk
  clear hAe hH hlh
  have e3 := inc1 (x := i) (by omega)
  have e4 : (i + 1).toInt.toNat = i.toInt.toNat + 1 := by omega
  have hx : ar S' 5 ((1440 : Int32) * t' + (2 : Int32) * i).toNatClampNeg = sx S t'.toInt.toNat (2 * i.toInt.toNat) := by
    have e9 : (1440 * t'.toInt + 2 * i.toInt).toNat = 1440 * t'.toInt.toNat + 2 * i.toInt.toNat := by omega
    show S'.2.2.1 5 _ = S.2.2.1 5 (1440 * t'.toInt.toNat + 2 * i.toInt.toNat)
    rw [hF.2.2.1 5 (by decide), tnc, step1 (by omega) (by omega), e9]
  rw [hx, step1 (by omega) (by omega), step2 (by omega) (by omega)]
  generalize (sx S t'.toInt.toNat (2 * i.toInt.toNat)) = s at hsk ⊢
  clear hx
  refine ⟨by omega, by omega, fun g8 => ⟨fun g14 => ?_, fun g14 => ?_⟩, fun g8 => ?_⟩
  · have hd : 2 ≤ hA ∧ hB + 1 = hA := by
      rcases hsk with h | h | h <;> omega
    have e7 : (top + -1).toInt = ((H (i + 1).toInt.toNat : Nat) : Int) := by rw [e4, dec1 (by omega), hBe]; omega
    clear hBe
    rw [dec2 (by omega), dec1 (by omega)]
    refine ⟨by omega, by omega, q_both _ _ _ _ _ (fun r => ⟨by omega, hk _ _ _ _ _ ⟨rfl, rfl, Fr.su (by decide) hF, by omega, by omega, e7, by rw [dec1 (by omega)]; omega⟩ (by omega)⟩)⟩
  · have hd : 1 ≤ hA ∧ hB = hA := by
      rcases hsk with h | h | h <;> omega
    have e7 : top.toInt = ((H (i + 1).toInt.toNat : Nat) : Int) := by rw [e4, hBe]; omega
    clear hBe
    rw [sub1 (by omega)]
    refine ⟨by omega, by omega, hk _ _ _ _ _ ⟨rfl, rfl, Fr.su (by decide) hF, by omega, by omega, e7, by omega⟩ (by omega)⟩
  · have hd : hB = hA + 1 := by
      rcases hsk with h | h | h <;> omega
    have e7 : (top + 1).toInt = ((H (i + 1).toInt.toNat : Nat) : Int) := by rw [e4, inc1 (by omega), hBe]; omega
    clear hBe
    have hb := hby
    unfold byR at hb
    refine q_fact _ _ _ _ ?_ ?_ ?_ (fun r => ⟨by omega, hk _ _ _ _ _ ⟨rfl, rfl, Fr.su (by decide) hF, by omega, by omega, e7, by rw [inc1 (by omega)]; omega⟩ (by omega)⟩)
    · show 0 ≤ (S'.1 18).toInt ∧ (S'.1 18).toInt ≤ 3
      rw [hF.1 18 (by decide)]; exact hb.1
    · show 0 ≤ (S'.1 19).toInt ∧ (S'.1 19).toInt ≤ 3
      rw [hF.1 19 (by decide)]; exact hb.2.1
    · show 0 ≤ (S'.1 20).toInt ∧ (S'.1 20).toInt ≤ 3
      rw [hF.1 20 (by decide)]; exact hb.2.2
/-- a, b, t of a CODE of ACT x -/
def BY (S : GS) (x : Nat) : Prop := (0 ≤ (fi S 18).toInt ∧ (fi S 18).toInt ≤ 2 ∧ (fi S 18).toInt ≠ (fi S 19).toInt) ∧ (0 ≤ (fi S 19).toInt ∧ (fi S 19).toInt ≤ 3) ∧ (0 ≤ (fi S 20).toInt ∧ (fi S 20).toInt ≤ 3) ∧ ((ar S 19 x).toInt = 1 → (fi S 19).toInt ≠ 3) ∧ ((ar S 20 x).toInt = 1 → (fi S 20).toInt ≠ 3)
theorem BY.r {S : GS} {x : Nat} (h : BY S x) : byR S := ⟨⟨h.1.1, by have := h.1.2; omega⟩, h.2.1, h.2.2.1⟩
theorem BY.fr {S S' : GS} {x : Nat} (h : BY S x) (f : Fr [0] [] [0, 1, 2, 3, 4, 22, 24, 25] [] S S') : BY S' x := by
  unfold BY fi ar at *
  rw [f.1 18 (by decide), f.1 19 (by decide), f.1 20 (by decide), f.2.2.1 19 (by decide), f.2.2.1 20 (by decide)]
  exact h
theorem q_isCode (S : GS) (c laws : Int32) (post : Int32 → GS → Prop) (hc : 0 ≤ c.toInt ∧ c.toInt ≤ 767) (k : ∀ (r : Int32) (S' : GS), (r = 0 ∨ r = 1) → Fr [18, 19, 20] [] [] [] S S' → (r.toInt ≠ 0 → (c.toInt / 64 ≤ 11 ∧ c.toInt / 64 % 6 < (ar S 7 (c.toInt / 64 / 6).toNat).toInt) ∧ BY S' (c.toInt / 64).toNat) → post r S') : w_X12_isCode S c laws post := by
  unfold w_X12_isCode w_X12_isCode_B118 w_X12_isCode_B119 w_X12_isCode_B83 w_X12_isCode_B105 w_X12_isCode_B118 w_X12_isCode_B119
  have e1 : ((c / 16) - (c / 16) / 4 * 4).toInt = c.toInt / 16 % 4 := by
    simp (disch := omega) only [Int32.toInt_add, Int32.toInt_sub, Int32.toInt_mul, Int32.toInt_neg, Int32.toInt_div, li_0, li_1, li_2, li_3, li_4, li_5, li_6, li_7, li_8, li_9, li_10, li_11, li_12, li_13, li_14, li_15, li_16, li_20, li_21, li_22, li_23, li_24, li_25, li_26, li_27, li_28, li_29, li_30, li_31, li_32, li_35, li_36, li_40, li_41, li_42, li_43, li_45, li_48, li_50, li_51, li_57, li_59, li_60, li_61, li_62, li_63, li_64, li_97, li_99, li_100, li_122, li_200, li_255, li_302, li_303, li_304, li_305, li_306, li_307, li_308, li_309, li_310, li_311, li_312, li_313, li_314, li_315, li_316, li_317, li_318, li_319, li_400, li_700, li_701, li_720, li_767, li_768, li_999, li_1000, li_1023, li_1024, li_1440, li_18720, tdv, bm, tnc]
    omega
  have e2 : ((c / 4) - (c / 4) / 4 * 4).toInt = c.toInt / 4 % 4 := by
    simp (disch := omega) only [Int32.toInt_add, Int32.toInt_sub, Int32.toInt_mul, Int32.toInt_neg, Int32.toInt_div, li_0, li_1, li_2, li_3, li_4, li_5, li_6, li_7, li_8, li_9, li_10, li_11, li_12, li_13, li_14, li_15, li_16, li_20, li_21, li_22, li_23, li_24, li_25, li_26, li_27, li_28, li_29, li_30, li_31, li_32, li_35, li_36, li_40, li_41, li_42, li_43, li_45, li_48, li_50, li_51, li_57, li_59, li_60, li_61, li_62, li_63, li_64, li_97, li_99, li_100, li_122, li_200, li_255, li_302, li_303, li_304, li_305, li_306, li_307, li_308, li_309, li_310, li_311, li_312, li_313, li_314, li_315, li_316, li_317, li_318, li_319, li_400, li_700, li_701, li_720, li_767, li_768, li_999, li_1000, li_1023, li_1024, li_1440, li_18720, tdv, bm, tnc]
    omega
  have e3 : (c - c / 4 * 4).toInt = c.toInt % 4 := by
    simp (disch := omega) only [Int32.toInt_add, Int32.toInt_sub, Int32.toInt_mul, Int32.toInt_neg, Int32.toInt_div, li_0, li_1, li_2, li_3, li_4, li_5, li_6, li_7, li_8, li_9, li_10, li_11, li_12, li_13, li_14, li_15, li_16, li_20, li_21, li_22, li_23, li_24, li_25, li_26, li_27, li_28, li_29, li_30, li_31, li_32, li_35, li_36, li_40, li_41, li_42, li_43, li_45, li_48, li_50, li_51, li_57, li_59, li_60, li_61, li_62, li_63, li_64, li_97, li_99, li_100, li_122, li_200, li_255, li_302, li_303, li_304, li_305, li_306, li_307, li_308, li_309, li_310, li_311, li_312, li_313, li_314, li_315, li_316, li_317, li_318, li_319, li_400, li_700, li_701, li_720, li_767, li_768, li_999, li_1000, li_1023, li_1024, li_1440, li_18720, tdv, bm, tnc]
    omega
  have e4 : (c / 64).toInt = c.toInt / 64 := by simp (disch := omega) only [Int32.toInt_add, Int32.toInt_sub, Int32.toInt_mul, Int32.toInt_neg, Int32.toInt_div, li_0, li_1, li_2, li_3, li_4, li_5, li_6, li_7, li_8, li_9, li_10, li_11, li_12, li_13, li_14, li_15, li_16, li_20, li_21, li_22, li_23, li_24, li_25, li_26, li_27, li_28, li_29, li_30, li_31, li_32, li_35, li_36, li_40, li_41, li_42, li_43, li_45, li_48, li_50, li_51, li_57, li_59, li_60, li_61, li_62, li_63, li_64, li_97, li_99, li_100, li_122, li_200, li_255, li_302, li_303, li_304, li_305, li_306, li_307, li_308, li_309, li_310, li_311, li_312, li_313, li_314, li_315, li_316, li_317, li_318, li_319, li_400, li_700, li_701, li_720, li_767, li_768, li_999, li_1000, li_1023, li_1024, li_1440, li_18720, tdv, bm, tnc]
  have hF : Fr [18, 19, 20] [] [] [] S (si (si (si S 18 ((c / 16) - (c / 16) / 4 * 4)) 19 ((c / 4) - (c / 4) / 4 * 4)) 20 (c - c / 4 * 4)) := Fr.si (by decide) (Fr.si (by decide) (Fr.si (by decide) Fr.rf))
  generalize hS : si (si (si S 18 ((c / 16) - (c / 16) / 4 * 4)) 19 ((c / 4) - (c / 4) / 4 * 4)) 20 (c - c / 4 * 4) = S' at hF ⊢
  have f1 : (fi S' 18).toInt = c.toInt / 16 % 4 := by
    show (S'.1 18).toInt = _
    rw [← hS, si_ne (by decide), si_ne (by decide), si_at, e1]
  have f2 : (fi S' 19).toInt = c.toInt / 4 % 4 := by
    show (S'.1 19).toInt = _
    rw [← hS, si_ne (by decide), si_at, e2]
  have f3 : (fi S' 20).toInt = c.toInt % 4 := by
    show (S'.1 20).toInt = _
    rw [← hS, si_at, e3]
  have f7 : ar S' 7 = ar S 7 := hF.2.2.1 7 (by decide)
  have no : post 0 S' := k 0 S' (Or.inl rfl) hF (fun h => absurd li_0 h)
  refine q_isAct _ _ _ (fun r hr hb => ⟨fun _ => ⟨Or.inl rfl, no⟩, fun h1 => ⟨fun _ => ⟨Or.inl rfl, no⟩, fun _ => ⟨fun _ => ⟨Or.inl rfl, no⟩, fun h2 => ⟨fun _ => ⟨Or.inl rfl, no⟩, fun h3 => ?_⟩⟩⟩⟩)
  rw [e4, f7] at hb
  have hx : c.toInt / 64 ≤ 11 ∧ c.toInt / 64 % 6 < (ar S 7 (c.toInt / 64 / 6).toNat).toInt := by omega
  have hn : (c / 64).toNatClampNeg = (c.toInt / 64).toNat := by rw [tnc, e4]
  have yes : (fi S' 19).toInt = 3 → (ar S' 19 (c.toInt / 64).toNat).toInt ≠ 1 → ((fi S' 20).toInt = 3 → (ar S' 20 (c.toInt / 64).toNat).toInt ≠ 1) → post 1 S' := fun g1 g2 g3 => k 1 S' (Or.inr rfl) hF (fun _ => ⟨hx, ⟨by omega, by omega⟩, ⟨by omega, by omega⟩, ⟨by omega, by omega⟩, fun g => absurd g g2, fun g q => g3 q g⟩)
  have yes2 : (fi S' 19).toInt ≠ 3 → ((fi S' 20).toInt = 3 → (ar S' 20 (c.toInt / 64).toNat).toInt ≠ 1) → post 1 S' := fun g1 g3 => k 1 S' (Or.inr rfl) hF (fun _ => ⟨hx, ⟨by omega, by omega⟩, ⟨by omega, by omega⟩, ⟨by omega, by omega⟩, fun _ => g1, fun g q => g3 q g⟩)
  rw [e4, hn]
  refine ⟨fun g => ⟨by omega, fun _ => ⟨Or.inl rfl, no⟩, fun _ => ⟨fun g4 => ⟨by omega, fun _ => ⟨Or.inl rfl, no⟩, fun g5 => ⟨Or.inr rfl, yes2 g (fun q => absurd q g4)⟩⟩, fun g4 => ⟨by omega, fun _ => ⟨Or.inl rfl, no⟩, fun g5 => ⟨Or.inr rfl, yes2 g (fun _ q => g5 (by rw [q]; decide))⟩⟩⟩⟩, fun g => ⟨by omega, fun _ => ⟨Or.inl rfl, no⟩, fun g6 => ⟨fun g4 => ⟨by omega, fun _ => ⟨Or.inl rfl, no⟩, fun g5 => ⟨Or.inr rfl, yes g (fun q => g6 (by rw [q]; decide)) (fun q => absurd q g4)⟩⟩, fun g4 => ⟨by omega, fun _ => ⟨Or.inl rfl, no⟩, fun g5 => ⟨Or.inr rfl, yes g (fun q => g6 (by rw [q]; decide)) (fun _ q => g5 (by rw [q]; decide))⟩⟩⟩⟩⟩
theorem kd100 {v : Int32} (h : 0 ≤ v.toInt ∧ v.toInt ≤ 199) : (v - v / 100 * 100).toInt = v.toInt % 100 := by
  simp (disch := omega) only [Int32.toInt_add, Int32.toInt_sub, Int32.toInt_mul, Int32.toInt_neg, Int32.toInt_div, li_0, li_1, li_2, li_3, li_4, li_5, li_6, li_7, li_8, li_9, li_10, li_11, li_12, li_13, li_14, li_15, li_16, li_20, li_21, li_22, li_23, li_24, li_25, li_26, li_27, li_28, li_29, li_30, li_31, li_32, li_35, li_36, li_40, li_41, li_42, li_43, li_45, li_48, li_50, li_51, li_57, li_59, li_60, li_61, li_62, li_63, li_64, li_97, li_99, li_100, li_122, li_200, li_255, li_302, li_303, li_304, li_305, li_306, li_307, li_308, li_309, li_310, li_311, li_312, li_313, li_314, li_315, li_316, li_317, li_318, li_319, li_400, li_700, li_701, li_720, li_767, li_768, li_999, li_1000, li_1023, li_1024, li_1440, li_18720, tdv, bm, tnc]
  omega
theorem q_ties (S : GS) (x : Nat) (m : Int32) (post : GS → Prop) (hm : 0 ≤ m.toInt ∧ m.toInt < 108) (hM : MakeOK S x m.toInt.toNat) (hB : BY S x) (k : ∀ S', Fr [] [] [2, 3, 4] [] S S' → (BR S → BR S') → post S') : w_X12_ties S m post := by
  unfold w_X12_ties w_X12_ties_B48 w_X12_ties_B58 w_X12_ties_B78 w_X12_ties_B101 w_X12_ties_B119
  obtain ⟨hk, -, -, hp, ht⟩ := hM
  rw [← tnc] at hk hp ht
  rw [kd100 hk]
  unfold BY at hB
  refine ⟨hm, hm, ?_⟩
  refine q_stood _ _ _ (fun p hp1 => ⟨hm, ?_⟩)
  refine q_stood _ _ _ (fun q hq1 => ?_)
  have hpq : ((ar S 12 m.toNatClampNeg).toInt % 100 = 1 ∨ (ar S 12 m.toNatClampNeg).toInt % 100 = 4 ∨ (ar S 12 m.toNatClampNeg).toInt % 100 = 5 ∨ (ar S 12 m.toNatClampNeg).toInt % 100 = 6) → (0 ≤ p.toInt ∧ p.toInt ≤ 2) ∧ (0 ≤ q.toInt ∧ q.toInt ≤ 2) := by
    intro h
    have h2 := hp h
    have h3 := hB.2.2.2.1 h2.2
    rcases hp1 with g | g | g <;> rcases hq1 with g' | g' | g' <;> (first | omega | (rw [g.2, g'.2.2]; omega) | (rw [g.2.2, g'.2]; omega))
  have e1 : (0 ≤ p.toInt ∧ p.toInt ≤ 2) ∧ (0 ≤ q.toInt ∧ q.toInt ≤ 2) → (3 * p + q).toInt = 3 * p.toInt + q.toInt := fun h => by simp (disch := omega) only [Int32.toInt_add, Int32.toInt_sub, Int32.toInt_mul, Int32.toInt_neg, Int32.toInt_div, li_0, li_1, li_2, li_3, li_4, li_5, li_6, li_7, li_8, li_9, li_10, li_11, li_12, li_13, li_14, li_15, li_16, li_20, li_21, li_22, li_23, li_24, li_25, li_26, li_27, li_28, li_29, li_30, li_31, li_32, li_35, li_36, li_40, li_41, li_42, li_43, li_45, li_48, li_50, li_51, li_57, li_59, li_60, li_61, li_62, li_63, li_64, li_97, li_99, li_100, li_122, li_200, li_255, li_302, li_303, li_304, li_305, li_306, li_307, li_308, li_309, li_310, li_311, li_312, li_313, li_314, li_315, li_316, li_317, li_318, li_319, li_400, li_700, li_701, li_720, li_767, li_768, li_999, li_1000, li_1023, li_1024, li_1440, li_18720, tdv, bm, tnc]
  have e2 : (0 ≤ p.toInt ∧ p.toInt ≤ 2) ∧ (0 ≤ q.toInt ∧ q.toInt ≤ 2) → (3 * q + p).toInt = 3 * q.toInt + p.toInt := fun h => by simp (disch := omega) only [Int32.toInt_add, Int32.toInt_sub, Int32.toInt_mul, Int32.toInt_neg, Int32.toInt_div, li_0, li_1, li_2, li_3, li_4, li_5, li_6, li_7, li_8, li_9, li_10, li_11, li_12, li_13, li_14, li_15, li_16, li_20, li_21, li_22, li_23, li_24, li_25, li_26, li_27, li_28, li_29, li_30, li_31, li_32, li_35, li_36, li_40, li_41, li_42, li_43, li_45, li_48, li_50, li_51, li_57, li_59, li_60, li_61, li_62, li_63, li_64, li_97, li_99, li_100, li_122, li_200, li_255, li_302, li_303, li_304, li_305, li_306, li_307, li_308, li_309, li_310, li_311, li_312, li_313, li_314, li_315, li_316, li_317, li_318, li_319, li_400, li_700, li_701, li_720, li_767, li_768, li_999, li_1000, li_1023, li_1024, li_1440, li_18720, tdv, bm, tnc]
  have tail : ∀ T, Fr [] [] [2, 3, 4] [] S T → (BR S → BR T) → (((ar S 12 m.toNatClampNeg).toInt % 100 ≠ 6 → post T) ∧ ((ar S 12 m.toNatClampNeg).toInt % 100 = 6 → (0 ≤ (3 * p + q).toInt ∧ (3 * p + q).toInt < 9) ∧ post (su T 4 (3 * p + q).toNatClampNeg 1))) := by
    intro T hF hb
    refine ⟨fun _ => k _ hF hb, fun h => ?_⟩
    have h2 := hpq (Or.inr (Or.inr (Or.inr h)))
    have h3 := e1 h2
    exact ⟨by omega, k _ (Fr.su (by decide) hF) (fun b => BR.s4 (Or.inr rfl) (hb b))⟩
  have wed : ∀ (T : GS) (y : Int32), (y = 0 ∨ y = 1) → Fr [] [] [2, 3, 4] [] S T → (BR S → BR T) → ((ar S 12 m.toNatClampNeg).toInt % 100 = 4 ∨ (ar S 12 m.toNatClampNeg).toInt % 100 = 5) → (0 ≤ (3 * p + q).toInt ∧ (3 * p + q).toInt < 9) ∧ (y = 0 ∨ y = 1) ∧ (0 ≤ (3 * p + q).toInt ∧ (3 * p + q).toInt < 9) ∧ (0 ≤ (3 * q + p).toInt ∧ (3 * q + p).toInt < 9) ∧ (upd (ar T 3) (3 * p + q).toNatClampNeg y (3 * p + q).toNatClampNeg = 0 ∨ upd (ar T 3) (3 * p + q).toNatClampNeg y (3 * p + q).toNatClampNeg = 1) ∧ (((ar S 12 m.toNatClampNeg).toInt % 100 ≠ 6 → post (su (su T 3 (3 * p + q).toNatClampNeg y) 3 (3 * q + p).toNatClampNeg (upd (ar T 3) (3 * p + q).toNatClampNeg y (3 * p + q).toNatClampNeg))) ∧ ((ar S 12 m.toNatClampNeg).toInt % 100 = 6 → (0 ≤ (3 * p + q).toInt ∧ (3 * p + q).toInt < 9) ∧ post (su (su (su T 3 (3 * p + q).toNatClampNeg y) 3 (3 * q + p).toNatClampNeg (upd (ar T 3) (3 * p + q).toNatClampNeg y (3 * p + q).toNatClampNeg)) 4 (3 * p + q).toNatClampNeg 1))) := by
    intro T y hy hF hb hk45
    rw [upd_at]
    have h2 := hpq (by omega)
    have h3 := e1 h2
    have h4 := e2 h2
    exact ⟨by omega, hy, by omega, by omega, hy, tail _ (Fr.su (by decide) (Fr.su (by decide) hF)) (fun b => BR.s3 hy (BR.s3 hy (hb b)))⟩
  have main : ∀ T, Fr [] [] [2, 3, 4] [] S T → (BR S → BR T) → _ := fun T hF hb => And.intro (fun h : (ar S 12 m.toNatClampNeg).toInt % 100 = 4 => And.intro (fun _ : (ar S 12 m.toNatClampNeg).toInt % 100 ≠ 4 => wed T 0 (Or.inl rfl) hF hb (Or.inl h)) (fun _ : (ar S 12 m.toNatClampNeg).toInt % 100 = 4 => wed T 1 (Or.inr rfl) hF hb (Or.inl h))) (fun _ : (ar S 12 m.toNatClampNeg).toInt % 100 ≠ 4 => And.intro (fun _ : (ar S 12 m.toNatClampNeg).toInt % 100 ≠ 5 => tail T hF hb) (fun h : (ar S 12 m.toNatClampNeg).toInt % 100 = 5 => And.intro (fun _ : (ar S 12 m.toNatClampNeg).toInt % 100 ≠ 4 => wed T 0 (Or.inl rfl) hF hb (Or.inr h)) (fun _ : (ar S 12 m.toNatClampNeg).toInt % 100 = 4 => wed T 1 (Or.inr rfl) hF hb (Or.inr h))))
  refine ⟨fun _ => main S Fr.rf id, fun h => ⟨?_, main _ (Fr.su (by decide) Fr.rf) (fun b => BR.sn (by decide) b)⟩⟩
  have := hB.2.2.2.2 (ht h)
  omega
