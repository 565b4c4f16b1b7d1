/-- what a text's call may change -/
abbrev FT : GS → GS → Prop := Fr [1, 2, 3, 4, 5, 6, 7, 8, 9, 10, 11, 12, 13, 14, 15, 16, 17] [] [5, 6, 7, 8, 9, 10, 11, 12, 13, 14, 15, 16, 17, 18, 19, 20, 23] []
/-- kept all but the tape and the parser's own -/
def KX (S S' : GS) : Prop := FT S S' ∧ (0 ≤ (fi S' 1).toInt ∧ (fi S' 1).toInt ≤ 700) ∧ fi S' 16 = fi S 16 ∧ fi S' 17 = fi S 17 ∧ ar S' 7 = ar S 7 ∧ ar S' 23 = ar S 23 ∧ (∀ i : Nat, i < 18720 → ar S' 5 i = ar S 5 i) ∧ (∀ i, i ≠ 13 → ar S' 6 i = ar S 6 i) ∧ (∀ j, j ∈ [8, 9, 17, 18, 19, 20] → ∀ y, y < 12 → ar S' j y = ar S j y) ∧ (∀ j, j ∈ [10, 11] → ∀ i, i < 48 → ar S' j i = ar S j i) ∧ (∀ j, j ∈ [12, 13, 14, 15, 16] → ∀ i, i < 72 → ar S' j i = ar S j i)
theorem TxtOK_kx {S S' : GS} {t : Nat} (ht : t < 13) (h5 : ∀ i : Nat, 1440 * t ≤ i → i < 1440 * t + 1440 → ar S' 5 i = ar S 5 i) (h6 : ar S' 6 t = ar S 6 t) (h : TxtOK S t) : TxtOK S' t := by
  unfold TxtOK at h ⊢
  rw [h6]
  refine ⟨h.1, h.2.1, Seg_cg (fun i a b => ?_) h.2.2⟩
  show ar S' 5 (1440 * t + 2 * i) = ar S 5 (1440 * t + 2 * i)
  have := h.2.1
  exact h5 _ (by omega) (by omega)
theorem ActOK_kx {S S' : GS} {x : Nat} (h5 : ∀ i : Nat, 1440 * (x / 6) ≤ i → i < 1440 * (x / 6) + 1440 → ar S' 5 i = ar S 5 i) (h8 : ∀ j, j ∈ [8, 9, 17, 18, 19, 20] → ar S' j x = ar S j x) (h10 : ∀ j, j ∈ [10, 11] → ∀ i, 4 * x ≤ i → i < 4 * x + 4 → ar S' j i = ar S j i) (h12 : ∀ j, j ∈ [12, 13, 14, 15, 16] → ∀ i, 6 * x ≤ i → i < 6 * x + 6 → ar S' j i = ar S j i) (h : ActOK S x) : ActOK S' x := by
  obtain ⟨p, q, r, s⟩ := h
  unfold ActOK
  rw [h8 8 (by decide), h8 9 (by decide)]
  refine ⟨p, q, fun k hk => ?_, fun k hk => ?_⟩
  · obtain ⟨r1, r2, r3, r4⟩ := r k hk
    unfold NeedOK
    rw [h10 10 (by decide) _ (by omega) (by omega), h10 11 (by decide) _ (by omega) (by omega)]
    refine ⟨r1, r2, r3, Seg_cg (fun i a b => ?_) r4⟩
    show ar S' 5 (1440 * (x / 6) + 2 * i) = ar S 5 (1440 * (x / 6) + 2 * i)
    exact h5 _ (by omega) (by omega)
  · obtain ⟨s1, s2, s3, s4, s5⟩ := s k hk
    unfold MakeOK
    rw [h12 12 (by decide) _ (by omega) (by omega), h12 13 (by decide) _ (by omega) (by omega), h12 14 (by decide) _ (by omega) (by omega), h12 15 (by decide) _ (by omega) (by omega), h12 16 (by decide) _ (by omega) (by omega), h8 19 (by decide), h8 20 (by decide)]
    refine ⟨s1, fun g => ?_, s3, s4, s5⟩
    obtain ⟨b1, b2, b3, b4⟩ := s2 g
    refine ⟨b1, b2, b3, Seg_cg (fun i a b => ?_) b4⟩
    show ar S' 5 (1440 * (x / 6) + 2 * i) = ar S 5 (1440 * (x / 6) + 2 * i)
    exact h5 _ (by omega) (by omega)
theorem KInv_kx {S S' : GS} (h : KInv S) (hX : KX S S') : KInv S' := by
  obtain ⟨f, x1, x16, x17, x7, x23, x5, x6, x8, x10, x12⟩ := hX
  obtain ⟨a, b, c, d, e, g, i, j, k, l, m⟩ := h
  have e38 : ar S' 38 = ar S 38 := f.2.2.1 38 (by decide)
  have e37 : ar S' 37 = ar S 37 := f.2.2.1 37 (by decide)
  have e31 : ar S' 31 = ar S 31 := f.2.2.1 31 (by decide)
  have e25 : fi S' 25 = fi S 25 := f.1 25 (by decide)
  unfold KInv
  rw [x16, x17, x7, e38, e37, e31, e25]
  refine ⟨x1, b, fun y hy hy2 => ?_, d, fun q hq => ?_, g, fun q hq => ?_, j, k, l, m⟩
  · exact ActOK_kx (fun i _ hi => x5 i (by omega)) (fun j hj => x8 j hj y hy) (fun j hj i _ hi => x10 j hj i (by omega)) (fun j hj i _ hi => x12 j hj i (by omega)) (c y hy hy2)
  · exact TxtOK_kx (by omega) (fun i _ hi => x5 i (by omega)) (x6 _ (by omega)) (e q hq)
  · exact TxtOK_kx (by omega) (fun i _ hi => x5 i (by omega)) (x6 _ (by omega)) (i q hq)
set_option maxHeartbeats 1000000 in
theorem q_begins (S : GS) (post : GS → Prop) (h1 : 0 ≤ (fi S 1).toInt ∧ (fi S 1).toInt ≤ 700) (k : ∀ S', Lx S' → nn S' = 0 → (fi S' 12).toInt = 0 → fi S' 1 = fi S 1 → Fr [2, 3, 4, 5, 6, 12] [] [6] [] S S' → (∀ i, i ≠ 13 → ar S' 6 i = ar S 6 i) → post S') : w_X12_begins S post := by
  unfold w_X12_begins
  have eF : Fr [2, 6, 12] [] [6] [] S (su (si (si (si S 6 0) 2 0) 12 0) 6 13 0) := Fr.su (by decide) (Fr.si (by decide) (Fr.si (by decide) (Fr.si (by decide) Fr.rf)))
  have f2 : (fi (su (si (si (si S 6 0) 2 0) 12 0) 6 13 0) 2).toInt = 0 := by
    show ((su (si (si (si S 6 0) 2 0) 12 0) 6 13 0).1 2).toInt = 0
    rw [su_1, si_ne (by decide), si_at]; decide
  have f12 : (fi (su (si (si (si S 6 0) 2 0) 12 0) 6 13 0) 12).toInt = 0 := by
    show ((su (si (si (si S 6 0) 2 0) 12 0) 6 13 0).1 12).toInt = 0
    rw [su_1, si_at]; decide
  have f6 : ar (su (si (si (si S 6 0) 2 0) 12 0) 6 13 0) 6 = upd (ar S 6) 13 0 := by
    show (su (si (si (si S 6 0) 2 0) 12 0) 6 13 0).2.2.1 6 = _
    rw [su_at]; rfl
  generalize su (si (si (si S 6 0) 2 0) 12 0) 6 13 0 = U at eF f2 f12 f6 ⊢
  have u1 : fi U 1 = fi S 1 := eF.1 1 (by decide)
  refine q_next0 _ _ (by rw [u1]; omega) (fun T hN => ?_)
  obtain ⟨nF, b1, b2, b3, b4⟩ := hN
  have t1 : fi T 1 = fi S 1 := (nF.1 1 (by decide)).trans u1
  have t12 : fi T 12 = fi U 12 := nF.1 12 (by decide)
  have tn : nn T = 0 := by
    rw [nn_fr nF (by decide)]
    show (ar U 6 13).toInt = 0
    rw [f6, upd_at]; decide
  rw [u1] at b3
  refine k T ⟨by omega, by omega, by rw [t1]; omega, by rw [t1]; omega, b4, by omega, by omega⟩ tn (by rw [t12]; exact f12) t1 ((eF.wk (by decide) : Fr [2, 3, 4, 5, 6, 12] [] [6] [] S U).tr (nF.wk (by decide))) (fun i hi => ?_)
  have : ar T 6 = ar U 6 := nF.2.2.1 6 (by decide)
  rw [this, f6, upd_ne hi]
set_option maxHeartbeats 1000000 in
theorem q_ends (S : GS) (post : GS → Prop) (k : ∀ S', Fr [1, 8, 13] [] [] [] S S' → (fi S' 1).toInt = 0 → post S') : w_X12_ends S post := by
  unfold w_X12_ends w_X12_ends_B29
  have fin : ∀ v : Int32, post (si (si (si S 1 0) 8 (fi S 6)) 13 v) := by
    intro v
    refine k _ (Fr.si (by decide) (Fr.si (by decide) (Fr.si (by decide) Fr.rf))) ?_
    show ((si (si (si S 1 0) 8 (fi S 6)) 13 v).1 1).toInt = 0
    rw [si_ne (by decide), si_ne (by decide), si_at]; decide
  exact ⟨fun _ => fin _, fun _ => fin _⟩
set_option maxHeartbeats 1000000 in
theorem q_keeps (S : GS) (t : Nat) (x : Int32) (post : GS → Prop) (hx : x.toInt = (t : Int)) (ht : t ≤ 12) (hn : 0 ≤ nn S ∧ nn S ≤ 715) (k : ∀ S', Fr [] [] [5, 6] [] S S' → ar S' 6 t = ar S 6 13 → (∀ i, i ≠ t → ar S' 6 i = ar S 6 i) → (∀ i : Nat, (i : Int) < 2 * nn S → ar S' 5 (1440 * t + i) = ar S 5 (18720 + i)) → (∀ i : Nat, (i < 1440 * t ∨ 1440 * t + 1440 ≤ i) → ar S' 5 i = ar S 5 i) → post S') : w_X12_keeps S x post := by
  unfold w_X12_keeps
  refine ⟨by omega, ?_⟩
  have exn : x.toNatClampNeg = t := by rw [tnc]; omega
  rw [exn]
  have eF : Fr [] [] [6] [] S (su S 6 t (ar S 6 13)) := Fr.su (by decide) Fr.rf
  have f6 : ar (su S 6 t (ar S 6 13)) 6 = upd (ar S 6) t (ar S 6 13) := su_at _ _ _ _
  generalize su S 6 t (ar S 6 13) = U at eF f6 ⊢
  have u5 : ar U 5 = ar S 5 := eF.2.2.1 5 (by decide)
  have u13 : ar U 6 13 = ar S 6 13 := by rw [f6, upd_ne (by omega)]
  have hn2 : 0 ≤ (ar S 6 13).toInt ∧ (ar S 6 13).toInt ≤ 715 := hn
  refine lr3 (fun (T : GS) (x' i : Int32) => x' = x ∧ Fr [] [] [5] [] U T ∧ 0 ≤ i.toInt ∧ i.toInt ≤ 2 * nn S ∧ (∀ q : Nat, (q : Int) < i.toInt → ar T 5 (1440 * t + q) = ar S 5 (18720 + q)) ∧ (∀ q : Nat, (q < 1440 * t ∨ 1440 * t + 1440 ≤ q) → ar T 5 q = ar S 5 q)) (fun _ _ i => (2 * nn S - i.toInt).toNat) ?_ _ _ _ ⟨rfl, Fr.rf, by decide, by rw [li_0]; omega, fun q hq => by rw [li_0] at hq; omega, fun q _ => by rw [u5]⟩
  rintro kk T x' i ⟨rfl, hF, i0, i1, hQ, hR⟩ hk
  unfold w_X12_keeps_F15 w_X12_keeps_B56
  have t6 : ar T 6 = ar U 6 := hF.2.2.1 6 (by decide)
  have e2 : ((2 : Int32) * ar T 6 13).toInt = 2 * nn S := by
    rw [t6, u13]
    show _ = 2 * (ar S 6 13).toInt
    simp (disch := omega) only [Int32.toInt_add, Int32.toInt_sub, Int32.toInt_mul, Int32.toInt_neg, Int32.toInt_div, li_0, li_1, li_2, li_3, li_4, li_5, li_6, li_7, li_8, li_9, li_10, li_11, li_12, li_13, li_14, li_15, li_16, li_20, li_21, li_22, li_23, li_24, li_25, li_26, li_27, li_28, li_29, li_30, li_31, li_32, li_35, li_36, li_40, li_41, li_42, li_43, li_45, li_48, li_50, li_51, li_57, li_59, li_60, li_61, li_62, li_63, li_64, li_97, li_99, li_100, li_122, li_200, li_255, li_302, li_303, li_304, li_305, li_306, li_307, li_308, li_309, li_310, li_311, li_312, li_313, li_314, li_315, li_316, li_317, li_318, li_319, li_400, li_700, li_701, li_720, li_767, li_768, li_999, li_1000, li_1023, li_1024, li_1440, li_18720, tdv, bm, tnc]
  rw [e2]
  clear e2
  refine ⟨fun g => k T ((eF.wk (by decide) : Fr [] [] [5, 6] [] S U).tr (hF.wk (by decide))) (by rw [t6, f6, upd_at]) (fun q hq => by rw [t6, f6, upd_ne hq]) (fun q hq => hQ q (by omega)) hR, fun g => ?_⟩
  have n1 : ((18720 : Int32) + i).toNatClampNeg = 18720 + i.toInt.toNat := by rw [tnc, ad_18720 (by omega)]; omega
  have n2 : ((1440 : Int32) * x' + i).toNatClampNeg = 1440 * t + i.toInt.toNat := by rw [tnc, ma_1440 (by omega) (by omega)]; omega
  rw [n1, n2, ad_18720 (by omega), ma_1440 (by omega) (by omega)]
  have a5 : ar (su T 5 (1440 * t + i.toInt.toNat) (ar T 5 (18720 + i.toInt.toNat))) 5 = upd (ar T 5) (1440 * t + i.toInt.toNat) (ar T 5 (18720 + i.toInt.toNat)) := su_at _ _ _ _
  refine ⟨by omega, by omega, hk _ _ _ ⟨rfl, Fr.su (by decide) hF, by rw [inc1 (by omega)]; omega, by rw [inc1 (by omega)]; omega, fun q hq => ?_, fun q hq => ?_⟩ (by rw [inc1 (by omega)]; omega)⟩
  · rw [inc1 (by omega)] at hq
    rw [a5]
    by_cases e : q = i.toInt.toNat
    · rw [e, upd_at, hR _ (by omega)]
    · rw [upd_ne (by omega)]; exact hQ q (by omega)
  · rw [a5, upd_ne (by omega)]; exact hR q hq
set_option maxHeartbeats 1000000 in
theorem q_keepsAct (S : GS) (d s : Nat) (x y : Int32) (post : GS → Prop) (hx : x.toInt = (d : Int)) (hy : y.toInt = (s : Int)) (hd : d < 12) (hs : 12 ≤ s ∧ s < 18) (hb : (ar S 19 s = 0 ∨ ar S 19 s = 1) ∧ (ar S 20 s = 0 ∨ ar S 20 s = 1)) (k : ∀ S', Fr [] [] [8, 9, 10, 11, 12, 13, 14, 15, 16, 19, 20] [] S S' → (∀ j, j ∈ [8, 9, 19, 20] → ar S' j = upd (ar S j) d (ar S j s)) → (∀ j, j ∈ [10, 11] → (∀ q, q < 4 → ar S' j (4 * d + q) = ar S j (4 * s + q)) ∧ (∀ i, (i < 4 * d ∨ 4 * d + 4 ≤ i) → ar S' j i = ar S j i)) → (∀ j, j ∈ [12, 13, 14, 15, 16] → (∀ q, q < 6 → ar S' j (6 * d + q) = ar S j (6 * s + q)) ∧ (∀ i, (i < 6 * d ∨ 6 * d + 6 ≤ i) → ar S' j i = ar S j i)) → post S') : w_X12_keepsAct S x y post := by
  unfold w_X12_keepsAct
  have exn : x.toNatClampNeg = d := by rw [tnc]; omega
  have eyn : y.toNatClampNeg = s := by rw [tnc]; omega
  rw [exn, eyn]
  refine ⟨by omega, by omega, by omega, by omega, by omega, by omega, hb.1, by omega, by omega, hb.2, ?_⟩
  have eF : Fr [] [] [8, 9, 19, 20] [] S (su (su (su (su S 8 d (ar S 8 s)) 9 d (ar S 9 s)) 19 d (ar S 19 s)) 20 d (ar S 20 s)) := Fr.su (by decide) (Fr.su (by decide) (Fr.su (by decide) (Fr.su (by decide) Fr.rf)))
  have f8 : ar (su (su (su (su S 8 d (ar S 8 s)) 9 d (ar S 9 s)) 19 d (ar S 19 s)) 20 d (ar S 20 s)) 8 = upd (ar S 8) d (ar S 8 s) := (su_ne (by decide)).trans ((su_ne (by decide)).trans ((su_ne (by decide)).trans (su_at _ _ _ _)))
  have f9 : ar (su (su (su (su S 8 d (ar S 8 s)) 9 d (ar S 9 s)) 19 d (ar S 19 s)) 20 d (ar S 20 s)) 9 = upd (ar S 9) d (ar S 9 s) := (su_ne (by decide)).trans ((su_ne (by decide)).trans ((su_at _ _ _ _).trans (by rw [su_ne (by decide)])))
  have f19 : ar (su (su (su (su S 8 d (ar S 8 s)) 9 d (ar S 9 s)) 19 d (ar S 19 s)) 20 d (ar S 20 s)) 19 = upd (ar S 19) d (ar S 19 s) := (su_ne (by decide)).trans ((su_at _ _ _ _).trans (by rw [su_ne (by decide), su_ne (by decide)]))
  have f20 : ar (su (su (su (su S 8 d (ar S 8 s)) 9 d (ar S 9 s)) 19 d (ar S 19 s)) 20 d (ar S 20 s)) 20 = upd (ar S 20) d (ar S 20 s) := (su_at _ _ _ _).trans (by rw [su_ne (by decide), su_ne (by decide), su_ne (by decide)])
  generalize su (su (su (su S 8 d (ar S 8 s)) 9 d (ar S 9 s)) 19 d (ar S 19 s)) 20 d (ar S 20 s) = U at eF f8 f9 f19 f20 ⊢
  have hu : ∀ j, j ∉ [8, 9, 19, 20] → ar U j = ar S j := fun j hj => eF.2.2.1 j hj
  have b101 : ∀ V : GS, Fr [] [] [10, 11] [] U V → (∀ j, j ∈ [10, 11] → (∀ q, q < 4 → ar V j (4 * d + q) = ar S j (4 * s + q)) ∧ (∀ i, (i < 4 * d ∨ 4 * d + 4 ≤ i) → ar V j i = ar S j i)) → w_X12_keepsAct_B101 post V x y := by
    intro V hV h10
    unfold w_X12_keepsAct_B101
    refine lr4 (fun (T : GS) (x' y' q : Int32) => x' = x ∧ y' = y ∧ Fr [] [] [12, 13, 14, 15, 16] [] V T ∧ (0 ≤ q.toInt ∧ q.toInt ≤ 6) ∧ (∀ j, j ∈ [12, 13, 14, 15, 16] → (∀ i : Nat, (i : Int) < q.toInt → ar T j (6 * d + i) = ar S j (6 * s + i)) ∧ (∀ i, (i < 6 * d ∨ 6 * d + 6 ≤ i) → ar T j i = ar S j i))) (fun _ _ _ q => (6 - q.toInt).toNat) ?_ _ _ _ _ ⟨rfl, rfl, Fr.rf, by decide, fun j hj => ⟨fun i hi => by rw [li_0] at hi; omega, fun i _ => ?_⟩⟩
    · rintro kk T x' y' q ⟨rfl, rfl, hT, hq, hJ⟩ hk
      unfold w_X12_keepsAct_F103 w_X12_keepsAct_B225
      refine ⟨fun g => ?_, fun g => ?_⟩
      · have e10 : ∀ j, j ∉ [12, 13, 14, 15, 16] → ar T j = ar V j := fun j hj => hT.2.2.1 j hj
        have v8 : ∀ j, j ∈ [8, 9, 19, 20] → ar T j = ar U j := fun j hj => (hT.2.2.1 j (by revert hj; revert j; decide)).trans (hV.2.2.1 j (by revert hj; revert j; decide))
        refine k T (((eF.wk (by decide) : Fr [] [] [8, 9, 10, 11, 12, 13, 14, 15, 16, 19, 20] [] S U).tr (hV.wk (by decide))).tr (hT.wk (by decide))) (fun j hj => ?_) (fun j hj => ?_) (fun j hj => ⟨fun i hi => (hJ j hj).1 i (by omega), (hJ j hj).2⟩)
        · rw [v8 j hj]
          have : j = 8 ∨ j = 9 ∨ j = 19 ∨ j = 20 := by simpa using hj
          rcases this with rfl | rfl | rfl | rfl
          · exact f8
          · exact f9
          · exact f19
          · exact f20
        · rw [e10 j (by revert hj; revert j; decide)]; exact h10 j hj
      · have n1 : ((6 : Int32) * y' + q).toNatClampNeg = 6 * s + q.toInt.toNat := by rw [tnc, ma_6 (by omega) (by omega)]; omega
        have n2 : ((6 : Int32) * x' + q).toNatClampNeg = 6 * d + q.toInt.toNat := by rw [tnc, ma_6 (by omega) (by omega)]; omega
        rw [n1, n2, ma_6 (p := y') (by omega) (by omega), ma_6 (p := x') (by omega) (by omega)]
        clear n1 n2
        refine ⟨by omega, by omega, by omega, by omega, by omega, by omega, by omega, by omega, by omega, by omega, hk _ _ _ _ ⟨rfl, rfl, Fr.su (by decide) (Fr.su (by decide) (Fr.su (by decide) (Fr.su (by decide) (Fr.su (by decide) hT)))), ⟨by rw [inc1 (by omega)]; omega, by rw [inc1 (by omega)]; omega⟩, fun j hj => ?_⟩ (by rw [inc1 (by omega)]; omega)⟩
        have key : ∀ F : Nat → Int32, F = upd (ar T j) (6 * d + q.toInt.toNat) (ar T j (6 * s + q.toInt.toNat)) → (∀ i : Nat, (i : Int) < (q + 1).toInt → F (6 * d + i) = ar S j (6 * s + i)) ∧ (∀ i, (i < 6 * d ∨ 6 * d + 6 ≤ i) → F i = ar S j i) := by
          intro F hFe
          rw [hFe]
          refine ⟨fun i hi => ?_, fun i hi => ?_⟩
          · rw [inc1 (by omega)] at hi
            by_cases e : i = q.toInt.toNat
            · rw [e, upd_at]; exact (hJ j hj).2 _ (by omega)
            · rw [upd_ne (by omega)]; exact (hJ j hj).1 i (by omega)
          · rw [upd_ne (by omega)]; exact (hJ j hj).2 i hi
        have hj2 : j = 12 ∨ j = 13 ∨ j = 14 ∨ j = 15 ∨ j = 16 := by simpa using hj
        refine key _ ?_
        rcases hj2 with rfl | rfl | rfl | rfl | rfl
        · show (su (su (su (su (su T 12 _ _) 13 _ _) 14 _ _) 15 _ _) 16 _ _).2.2.1 12 = _
          rw [su_ne (by decide), su_ne (by decide), su_ne (by decide), su_ne (by decide), su_at]
        · show (su (su (su (su (su T 12 _ _) 13 _ _) 14 _ _) 15 _ _) 16 _ _).2.2.1 13 = _
          rw [su_ne (by decide), su_ne (by decide), su_ne (by decide), su_at, su_ne (by decide)]
        · show (su (su (su (su (su T 12 _ _) 13 _ _) 14 _ _) 15 _ _) 16 _ _).2.2.1 14 = _
          rw [su_ne (by decide), su_ne (by decide), su_at, su_ne (by decide), su_ne (by decide)]
        · show (su (su (su (su (su T 12 _ _) 13 _ _) 14 _ _) 15 _ _) 16 _ _).2.2.1 15 = _
          rw [su_ne (by decide), su_at, su_ne (by decide), su_ne (by decide), su_ne (by decide)]
        · show (su (su (su (su (su T 12 _ _) 13 _ _) 14 _ _) 15 _ _) 16 _ _).2.2.1 16 = _
          rw [su_at, su_ne (by decide), su_ne (by decide), su_ne (by decide), su_ne (by decide)]
    · have : ar V j = ar S j := (hV.2.2.1 j (by revert hj; revert j; decide)).trans (hu j (by revert hj; revert j; decide))
      rw [this]
  refine lr4 (fun (T : GS) (x' y' q : Int32) => x' = x ∧ y' = y ∧ Fr [] [] [10, 11] [] U T ∧ (0 ≤ q.toInt ∧ q.toInt ≤ 4) ∧ (∀ j, j ∈ [10, 11] → (∀ i : Nat, (i : Int) < q.toInt → ar T j (4 * d + i) = ar S j (4 * s + i)) ∧ (∀ i, (i < 4 * d ∨ 4 * d + 4 ≤ i) → ar T j i = ar S j i))) (fun _ _ _ q => (4 - q.toInt).toNat) ?_ _ _ _ _ ⟨rfl, rfl, Fr.rf, by decide, fun j hj => ⟨fun i hi => by rw [li_0] at hi; omega, fun i _ => ?_⟩⟩
  · rintro kk T x' y' q ⟨rfl, rfl, hT, hq, hJ⟩ hk
    unfold w_X12_keepsAct_F50
    refine ⟨fun g => b101 T hT (fun j hj => ⟨fun i hi => (hJ j hj).1 i (by omega), (hJ j hj).2⟩), fun g => ?_⟩
    have n1 : ((4 : Int32) * y' + q).toNatClampNeg = 4 * s + q.toInt.toNat := by rw [tnc, ma_4 (by omega) (by omega)]; omega
    have n2 : ((4 : Int32) * x' + q).toNatClampNeg = 4 * d + q.toInt.toNat := by rw [tnc, ma_4 (by omega) (by omega)]; omega
    rw [n1, n2, ma_4 (p := y') (by omega) (by omega), ma_4 (p := x') (by omega) (by omega)]
    clear n1 n2
    refine ⟨by omega, by omega, by omega, by omega, hk _ _ _ _ ⟨rfl, rfl, Fr.su (by decide) (Fr.su (by decide) hT), ⟨by rw [inc1 (by omega)]; omega, by rw [inc1 (by omega)]; omega⟩, fun j hj => ?_⟩ (by rw [inc1 (by omega)]; omega)⟩
    have key : ∀ F : Nat → Int32, F = upd (ar T j) (4 * d + q.toInt.toNat) (ar T j (4 * s + q.toInt.toNat)) → (∀ i : Nat, (i : Int) < (q + 1).toInt → F (4 * d + i) = ar S j (4 * s + i)) ∧ (∀ i, (i < 4 * d ∨ 4 * d + 4 ≤ i) → F i = ar S j i) := by
      intro F hFe
      rw [hFe]
      refine ⟨fun i hi => ?_, fun i hi => ?_⟩
      · rw [inc1 (by omega)] at hi
        by_cases e : i = q.toInt.toNat
        · rw [e, upd_at]; exact (hJ j hj).2 _ (by omega)
        · rw [upd_ne (by omega)]; exact (hJ j hj).1 i (by omega)
      · rw [upd_ne (by omega)]; exact (hJ j hj).2 i hi
    have hj2 : j = 10 ∨ j = 11 := by simpa using hj
    refine key _ ?_
    rcases hj2 with rfl | rfl
    · show (su (su T 10 _ _) 11 _ _).2.2.1 10 = _
      rw [su_ne (by decide), su_at]
    · show (su (su T 10 _ _) 11 _ _).2.2.1 11 = _
      rw [su_at, su_ne (by decide)]
  · rw [hu j (by revert hj; revert j; decide)]
