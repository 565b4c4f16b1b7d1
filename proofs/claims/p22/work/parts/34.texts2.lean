theorem KX_fr {S T : GS} (h : Fr [1, 2, 3, 4, 5, 6, 7, 8, 9, 10, 11, 12, 13, 14, 15] [] [] [] S T) (h1 : (fi T 1).toInt = 0) : KX S T := by
  have e : ∀ j, ar T j = ar S j := fun j => h.2.2.1 j (by simp)
  exact ⟨h.wk (by decide), by omega, h.1 16 (by decide), h.1 17 (by decide), e 7, e 23, fun i _ => by rw [e 5], fun i _ => by rw [e 6], fun j _ y _ => by rw [e j], fun j _ y _ => by rw [e j], fun j _ y _ => by rw [e j]⟩
theorem KX_go {S U T E : GS} (hSU : Fr [2, 3, 4, 5, 6, 12] [] [6] [] S U) (h6 : ∀ i, i ≠ 13 → ar U 6 i = ar S 6 i) (hUT : KPx U T) (n0 : nn U = 0) (hTE : Fr [1, 8, 13] [] [] [] T E) (h1 : (fi E 1).toInt = 0) : KX S E := by
  obtain ⟨f, -, k5, k6, k8, k10, k12⟩ := hUT
  have e : ∀ j, ar E j = ar T j := fun j => hTE.2.2.1 j (by simp)
  have u : ∀ j, j ≠ 6 → ar U j = ar S j := fun j hj => hSU.2.2.1 j (by simp [hj])
  refine ⟨((hSU.wk (by decide) : FT S U).tr (f.wk (by decide))).tr (hTE.wk (by decide)), by omega, ?_, ?_, ?_, ?_, ?_, ?_, ?_, ?_, ?_⟩
  · exact (hTE.1 16 (by decide)).trans ((f.1 16 (by decide)).trans (hSU.1 16 (by decide)))
  · exact (hTE.1 17 (by decide)).trans ((f.1 17 (by decide)).trans (hSU.1 17 (by decide)))
  · exact (e 7).trans ((f.2.2.1 7 (by decide)).trans (u 7 (by decide)))
  · exact (e 23).trans ((f.2.2.1 23 (by decide)).trans (u 23 (by decide)))
  · intro i hi
    rw [e 5, k5 i (by rw [n0]; omega), u 5 (by decide)]
  · intro i hi
    rw [e 6, k6 i hi, h6 i hi]
  · intro j hj y hy
    rw [e j, k8 j hj y hy, u j (by revert hj; revert j; decide)]
  · intro j hj y hy
    rw [e j, k10 j hj y hy, u j (by revert hj; revert j; decide)]
  · intro j hj y hy
    rw [e j, k12 j hj y hy, u j (by revert hj; revert j; decide)]
theorem EE_kx {S S' : GS} (h : EE S S') : KPx S S' := ⟨h.1.wk (by decide), (EE_kp h).2⟩
theorem KPx_tr {S S' S'' : GS} (h : KPx S S') (g : KPx S' S'') : KPx S S'' := ⟨h.1.tr g.1, KQ_tr h.2 g.2⟩
set_option maxHeartbeats 1000000 in
theorem q_reads (S : GS) (post : Int32 → GS → Prop) (hK : KInv S) (k : ∀ (r : Int32) (S' : GS), KX S S' → (fi S' 1).toInt = 0 → (r = 0 ∨ r = 1) → (r.toInt ≠ 0 → (0 ≤ nn S' ∧ nn S' ≤ 715) ∧ Seg (sx S' 13) 0 (nn S').toNat 0 1) → post r S') : w_X12_reads S post := by
  unfold w_X12_reads w_X12_reads_B30 w_X12_reads_B26 w_X12_reads_B31
  refine q_begins _ _ hK.1 (fun U hL n0 f0 _ hF h6 => ?_)
  have fin : ∀ (T : GS) (y : Int32), KPx U T → (y = 0 ∨ y = 1) → (y.toInt ≠ 0 → (0 ≤ nn T ∧ nn T ≤ 715) ∧ Seg (sx T 13) 0 (nn T).toNat 0 1) → w_X12_ends T (fun S6 => (y = 0 ∨ y = 1) ∧ post y S6) := by
    intro T y hT hy hs
    refine q_ends _ _ (fun E hE h1 => ⟨hy, k y E (KX_go hF h6 hT n0 hE h1) h1 hy (fun g => ?_)⟩)
    have en := nn_fr hE (by decide)
    have e5 : sx E 13 = sx T 13 := by
      unfold sx ar
      rw [hE.2.2.1 5 (by decide)]
    rw [en, e5]; exact hs g
  refine q_asked U _ hL (fun r T hE hr h => ⟨fun _ => fin T 0 (EE_kx hE) (Or.inl rfl) no0, fun g => ⟨fun _ => ?_, fun _ => ?_⟩⟩)
  · obtain ⟨a, b, c, d⟩ := h g
    rw [n0] at d
    exact fin T 1 (EE_kx hE) (Or.inr rfl) (fun _ => ⟨nn_lx a, d⟩)
  · refine ⟨fun _ => fin _ 0 (KPx_tr (EE_kx hE) (EE_kx (EE_bad T 1))) (Or.inl rfl) no0, fun h => absurd li_0 h⟩
set_option maxHeartbeats 1000000 in
theorem q_never (S : GS) (post : Int32 → GS → Prop) (hK : KInv S) (k : ∀ r S', FT S S' → KInv S' → (fi S' 1).toInt = 0 → post r S') : w_X12_never S post := by
  unfold w_X12_never
  have h16 := hK.2.2.2.1
  have hF6 : Fr [6] [] [] [] S (si S 6 0) := Fr.si (by decide) Fr.rf
  have hKU : KInv (si S 6 0) := hK
  generalize si S 6 0 = U at hF6 hKU ⊢
  have u16 : fi U 16 = fi S 16 := hF6.1 16 (by decide)
  refine ⟨fun g => ?_, fun g => ?_⟩
  · refine q_reads U _ hKU (fun r T hX h1 hr hs => ⟨fun g2 => ?_, fun _ => k _ T ((hF6.wk (by decide) : FT S U).tr hX.1) (KInv_kx hKU hX) h1⟩)
    obtain ⟨hn, hsg⟩ := hs g2
    have hKT := KInv_kx hKU hX
    have t16 : fi T 16 = fi S 16 := hX.2.2.1.trans u16
    refine q_keeps T (2 + (fi S 16).toInt.toNat) _ _ (by rw [t16, ad_2 (by omega)]; omega) (by omega) hn (fun W hW w6 w6n w5 w5n => ?_)
    have hF : FT S W := ((hF6.wk (by decide) : FT S U).tr hX.1).tr (hW.wk (by decide))
    have w16 : fi W 16 = fi S 16 := (hW.1 16 (by decide)).trans t16
    have w1 : fi W 1 = fi T 1 := hW.1 1 (by decide)
    have hG : FT S (si W 16 (fi W 16 + 1)) := Fr.si (by decide) hF
    have g16 : (fi (si W 16 (fi W 16 + 1)) 16).toInt = (fi S 16).toInt + 1 := by
      show ((si W 16 (fi W 16 + 1)).1 16).toInt = _
      rw [si_at, inc1 (by rw [w16]; omega), w16]
    have g1 : fi (si W 16 (fi W 16 + 1)) 1 = fi T 1 := by
      show (si W 16 (fi W 16 + 1)).1 1 = _
      rw [si_ne (by decide)]; exact w1
    have g17 : fi (si W 16 (fi W 16 + 1)) 17 = fi T 17 := by
      show (si W 16 (fi W 16 + 1)).1 17 = _
      rw [si_ne (by decide)]; exact hW.1 17 (by decide)
    have g25 : fi (si W 16 (fi W 16 + 1)) 25 = fi T 25 := by
      show (si W 16 (fi W 16 + 1)).1 25 = _
      rw [si_ne (by decide)]; exact hW.1 25 (by decide)
    have ga : ∀ j, ar (si W 16 (fi W 16 + 1)) j = ar W j := fun j => rfl
    generalize si W 16 (fi W 16 + 1) = V at hG g16 g1 g17 g25 ga ⊢
    refine k _ V hG ?_ (by rw [g1]; exact h1)
    have wa : ∀ j, j ∉ [5, 6] → ar V j = ar T j := fun j hj => (ga j).trans (hW.2.2.1 j hj)
    obtain ⟨a, b, c, d, e, f, i, j, l, m, q⟩ := hKT
    unfold KInv
    rw [g1, g17, g25, wa 7 (by decide), wa 38 (by decide), wa 37 (by decide), wa 31 (by decide)]
    refine ⟨a, b, fun x hx hx2 => ?_, by omega, fun x hx => ?_, f, fun x hx => ?_, j, l, m, q⟩
    · exact ActOK_kx (fun i _ hi => by rw [ga 5]; exact w5n i (Or.inl (by omega))) (fun j hj => by rw [wa j (by revert hj; revert j; decide)]) (fun j hj i _ _ => by rw [wa j (by revert hj; revert j; decide)]) (fun j hj i _ _ => by rw [wa j (by revert hj; revert j; decide)]) (c x hx hx2)
    · by_cases ex : x = (fi S 16).toInt.toNat
      · unfold TxtOK
        rw [ex, ga 6, w6]
        refine ⟨hn.1, by show nn T ≤ 720; omega, ?_⟩
        show Seg (sx V (2 + (fi S 16).toInt.toNat)) 0 (nn T).toNat 0 1
        refine Seg_cg (fun i _ hi => ?_) hsg
        show ar V 5 (1440 * (2 + (fi S 16).toInt.toNat) + 2 * i) = ar T 5 (1440 * 13 + 2 * i)
        rw [ga 5]
        exact w5 _ (by omega)
      · rw [g16] at hx
        refine TxtOK_kx (by omega) (fun i i1 i2 => by rw [ga 5]; exact w5n i (by omega)) (by rw [ga 6]; exact w6n _ (by omega)) (e x (by rw [t16]; omega))
    · exact TxtOK_kx (by omega) (fun i i1 i2 => by rw [ga 5]; exact w5n i (by omega)) (by rw [ga 6]; exact w6n _ (by omega)) (i x hx)
  · refine q_ends _ _ (fun E hE h1 => ?_)
    have hX : KX U E := KX_fr (hE.wk (by decide)) h1
    exact k _ E ((hF6.wk (by decide) : FT S U).tr hX.1) (KInv_kx hKU hX) h1
set_option maxHeartbeats 1000000 in
theorem q_cure (S : GS) (x : Int32) (post : Int32 → GS → Prop) (hK : KInv S) (k : ∀ r S', FT S S' → KInv S' → (fi S' 1).toInt = 0 → post r S') : w_X12_cure S x post := by
  unfold w_X12_cure w_X12_cure_B23
  have h17 := hK.2.2.2.2.2.1
  have hF6 : Fr [6] [] [] [] S (si S 6 0) := Fr.si (by decide) Fr.rf
  have hKU : KInv (si S 6 0) := hK
  generalize si S 6 0 = U at hF6 hKU ⊢
  have u17 : fi U 17 = fi S 17 := hF6.1 17 (by decide)
  have no : w_X12_ends U (fun S2 => post (-1) S2) := by
    refine q_ends _ _ (fun E hE h1 => ?_)
    have hX : KX U E := KX_fr (hE.wk (by decide)) h1
    exact k _ E ((hF6.wk (by decide) : FT S U).tr hX.1) (KInv_kx hKU hX) h1
  refine ⟨fun _ => no, fun g => q_isIn _ _ _ _ _ (fun r0 _ _ => ⟨fun _ => ?_, fun _ => no⟩)⟩
  refine q_reads U _ hKU (fun r T hX h1 hr hs => ⟨fun g2 => ?_, fun _ => k _ T ((hF6.wk (by decide) : FT S U).tr hX.1) (KInv_kx hKU hX) h1⟩)
  obtain ⟨hn, hsg⟩ := hs g2
  have hKT := KInv_kx hKU hX
  have t17 : fi T 17 = fi S 17 := hX.2.2.2.1.trans u17
  refine q_keeps T (8 + (fi S 17).toInt.toNat) _ _ (by rw [t17, ad_8 (by omega)]; omega) (by omega) hn (fun W hW w6 w6n w5 w5n => ?_)
  have hF : FT S W := ((hF6.wk (by decide) : FT S U).tr hX.1).tr (hW.wk (by decide))
  have w17 : fi W 17 = fi S 17 := (hW.1 17 (by decide)).trans t17
  have w1 : fi W 1 = fi T 1 := hW.1 1 (by decide)
  refine ⟨by rw [w17]; omega, ?_⟩
  have hG : FT S (si (su W 23 (fi W 17).toNatClampNeg x) 17 (fi W 17 + 1)) := Fr.si (by decide) (Fr.su (by decide) hF)
  have g17 : (fi (si (su W 23 (fi W 17).toNatClampNeg x) 17 (fi W 17 + 1)) 17).toInt = (fi S 17).toInt + 1 := by
    show ((si (su W 23 (fi W 17).toNatClampNeg x) 17 (fi W 17 + 1)).1 17).toInt = _
    rw [si_at, inc1 (by rw [w17]; omega), w17]
  have g1 : fi (si (su W 23 (fi W 17).toNatClampNeg x) 17 (fi W 17 + 1)) 1 = fi T 1 := by
    show (si (su W 23 (fi W 17).toNatClampNeg x) 17 (fi W 17 + 1)).1 1 = _
    rw [si_ne (by decide)]; exact w1
  have g16 : fi (si (su W 23 (fi W 17).toNatClampNeg x) 17 (fi W 17 + 1)) 16 = fi T 16 := by
    show (si (su W 23 (fi W 17).toNatClampNeg x) 17 (fi W 17 + 1)).1 16 = _
    rw [si_ne (by decide)]; exact hW.1 16 (by decide)
  have g25 : fi (si (su W 23 (fi W 17).toNatClampNeg x) 17 (fi W 17 + 1)) 25 = fi T 25 := by
    show (si (su W 23 (fi W 17).toNatClampNeg x) 17 (fi W 17 + 1)).1 25 = _
    rw [si_ne (by decide)]; exact hW.1 25 (by decide)
  have ga : ∀ j, j ≠ 23 → ar (si (su W 23 (fi W 17).toNatClampNeg x) 17 (fi W 17 + 1)) j = ar W j := fun j hj => su_ne hj
  generalize si (su W 23 (fi W 17).toNatClampNeg x) 17 (fi W 17 + 1) = V at hG g16 g1 g17 g25 ga ⊢
  refine k _ V hG ?_ (by rw [g1]; exact h1)
  have wa : ∀ j, j ∉ [5, 6, 23] → ar V j = ar T j := fun j hj => (ga j (by intro e; subst e; exact hj (by decide))).trans (hW.2.2.1 j (by intro e; apply hj; clear hj; revert e; revert j; decide))
  obtain ⟨a, b, c, d, e, f, i, j, l, m, q⟩ := hKT
  unfold KInv
  rw [g1, g16, g25, wa 7 (by decide), wa 38 (by decide), wa 37 (by decide), wa 31 (by decide)]
  refine ⟨a, b, fun x hx hx2 => ?_, d, fun x hx => ?_, by omega, fun x hx => ?_, j, l, m, q⟩
  · exact ActOK_kx (fun i _ hi => by rw [ga 5 (by decide)]; exact w5n i (Or.inl (by omega))) (fun j hj => by rw [wa j (by revert hj; revert j; decide)]) (fun j hj i _ _ => by rw [wa j (by revert hj; revert j; decide)]) (fun j hj i _ _ => by rw [wa j (by revert hj; revert j; decide)]) (c x hx hx2)
  · exact TxtOK_kx (by omega) (fun i i1 i2 => by rw [ga 5 (by decide)]; exact w5n i (by omega)) (by rw [ga 6 (by decide)]; exact w6n _ (by omega)) (e x hx)
  · by_cases ex : x = (fi S 17).toInt.toNat
    · unfold TxtOK
      rw [ex, ga 6 (by decide), w6]
      refine ⟨hn.1, by show nn T ≤ 720; omega, ?_⟩
      show Seg (sx V (8 + (fi S 17).toInt.toNat)) 0 (nn T).toNat 0 1
      refine Seg_cg (fun i _ hi => ?_) hsg
      show ar V 5 (1440 * (8 + (fi S 17).toInt.toNat) + 2 * i) = ar T 5 (1440 * 13 + 2 * i)
      rw [ga 5 (by decide)]
      exact w5 _ (by omega)
    · rw [g17] at hx
      refine TxtOK_kx (by omega) (fun i i1 i2 => by rw [ga 5 (by decide)]; exact w5n i (by omega)) (by rw [ga 6 (by decide)]; exact w6n _ (by omega)) (i x (by rw [t17]; omega))
set_option maxHeartbeats 1000000 in
theorem q_statute (S : GS) (l : Int32) (post : Int32 → GS → Prop) (hK : KInv S) (k : ∀ r S', FT S S' → KInv S' → (fi S' 1).toInt = 0 → post r S') : w_X12_statute S l post := by
  unfold w_X12_statute
  have hF6 : Fr [6] [] [] [] S (si S 6 0) := Fr.si (by decide) Fr.rf
  have hKU0 : KInv (si S 6 0) := hK
  generalize si S 6 0 = U0 at hF6 hKU0 ⊢
  have hFU0 : FT S U0 := hF6.wk (by decide)
  refine q_isIn _ _ _ _ _ (fun r1 _ hb1 => ?_)
  rw [li_0, li_1] at hb1
  refine ⟨fun g1 => ?_, fun _ => q_ends _ _ (fun E hE h1 => ?_)⟩
  rotate_left
  · have hX : KX U0 E := KX_fr (hE.wk (by decide)) h1
    exact k _ E (hFU0.tr hX.1) (KInv_kx hKU0 hX) h1
  refine q_begins _ _ hKU0.1 (fun U hL n0 f0 _ hFU h6 => ?_)
  have hUU : KPx U U := ⟨Fr.rf, (KP_rf 12 48 72 U).2⟩
  refine lr3 (fun (T : GS) (l' y : Int32) => l' = l ∧ (y = 0 ∨ y = 1) ∧ KPx U T ∧ (y.toInt ≠ 0 → Lx T ∧ ∃ f : Nat, (fi T 12).toInt = (f : Int) ∧ f ≤ 6 ∧ ∀ q : Nat, 12 ≤ q → q < 12 + f → DA T q ∧ NA T q)) (fun T _ y => if y.toInt = 0 then 0 else (701 - (fi T 4).toInt).toNat) ?_ _ _ _ ⟨rfl, Or.inr rfl, hUU, fun _ => ⟨hL, 0, f0, by decide, fun q h1 h2 => by omega⟩⟩
  rintro kk T l' y ⟨rfl, hy, hT, hI⟩ hk
  unfold w_X12_statute_F26
  have b45 : w_X12_statute_B45 post T l' y := by
    unfold w_X12_statute_B45
    refine q_ends _ _ (fun E hE h1 => ?_)
    have hX : KX U0 E := KX_go hFU h6 hT n0 hE h1
    have hKE := KInv_kx hKU0 hX
    refine ⟨fun gy => ?_, fun _ => k _ E (hFU0.tr hX.1) hKE h1⟩
    obtain ⟨hLT, f, hf, hf6, hD⟩ := hI gy
    clear hI hk
    have ea : ∀ j, ar E j = ar T j := fun j => hE.2.2.1 j (by simp)
    have en : nn E = nn T := nn_fr hE (by decide)
    have hn := nn_lx hLT
    rw [← en] at hn
    have ef : (fi E 12).toInt = (f : Int) := by
      have : fi E 12 = fi T 12 := hE.1 12 (by decide)
      rw [this]; exact hf
    obtain ⟨lN, hlN⟩ : ∃ lN : Nat, l'.toInt = (lN : Int) := ⟨l'.toInt.toNat, by omega⟩
    have hl1 : lN ≤ 1 := by omega
    refine q_keeps E lN l' _ hlN (by omega) hn (fun K hFK w6 w6n w5 w5n => ⟨by omega, ?_⟩)
    have eln : l'.toNatClampNeg = lN := by rw [tnc]; omega
    rw [eln]
    have hF7 : Fr [] [] [7] [] K (su K 7 lN (fi K 12)) := Fr.su (by decide) Fr.rf
    have a7 : ar (su K 7 lN (fi K 12)) 7 = upd (ar K 7) lN (fi K 12) := su_at _ _ _ _
    generalize su K 7 lN (fi K 12) = K0 at hF7 a7 ⊢
    have k12 : fi K 12 = fi E 12 := hFK.1 12 (by decide)
    have kf : (fi K0 12).toInt = (f : Int) := by
      have : fi K0 12 = fi K 12 := hF7.1 12 (by decide)
      rw [this, k12]; exact ef
    have k7 : ar K 7 = ar E 7 := hFK.2.2.1 7 (by decide)
    have k0a : ∀ j, j ∉ [5, 6, 7] → ar K0 j = ar E j := fun j hj => (hF7.2.2.1 j (by intro e; apply hj; clear hj; revert e; revert j; decide)).trans (hFK.2.2.1 j (by intro e; apply hj; clear hj; revert e; revert j; decide))
    have k05 : ar K0 5 = ar K 5 := hF7.2.2.1 5 (by decide)
    have k06 : ar K0 6 = ar K 6 := hF7.2.2.1 6 (by decide)
    refine lr3 (fun (V : GS) (l2 q : Int32) => l2 = l' ∧ Fr [] [] [8, 9, 10, 11, 12, 13, 14, 15, 16, 19, 20] [] K0 V ∧ (0 ≤ q.toInt ∧ q.toInt ≤ (f : Int)) ∧ (∀ j, j ∈ [8, 9, 19, 20] → ∀ i, (i < 6 * lN ∨ 6 * lN + 6 ≤ i) → ar V j i = ar E j i) ∧ (∀ j, j ∈ [10, 11] → ∀ i, (i < 24 * lN ∨ 24 * lN + 24 ≤ i) → ar V j i = ar E j i) ∧ (∀ j, j ∈ [12, 13, 14, 15, 16] → ∀ i, (i < 36 * lN ∨ 36 * lN + 36 ≤ i) → ar V j i = ar E j i) ∧ (∀ i : Nat, (i : Int) < q.toInt → ActOK V (6 * lN + i))) (fun _ _ q => ((f : Int) - q.toInt).toNat) ?_ _ _ _ ⟨rfl, Fr.rf, ⟨by decide, by rw [li_0]; omega⟩, fun j hj i _ => by rw [k0a j (by revert hj; revert j; decide)], fun j hj i _ => by rw [k0a j (by revert hj; revert j; decide)], fun j hj i _ => by rw [k0a j (by revert hj; revert j; decide)], fun i hi => by rw [li_0] at hi; omega⟩
    rintro kk2 V l2 q ⟨rfl, hV, hq, h8, h10, h12, hA⟩ hk2
    unfold w_X12_statute_F72 w_X12_statute_B100
    have vf : (fi V 12).toInt = (f : Int) := by
      have : fi V 12 = fi K0 12 := hV.1 12 (by decide)
      rw [this]; exact kf
    have v5 : ar V 5 = ar K 5 := (hV.2.2.1 5 (by decide)).trans k05
    have v6 : ar V 6 = ar K 6 := (hV.2.2.1 6 (by decide)).trans k06
    have v7 : ar V 7 = upd (ar E 7) lN (fi K 12) := (hV.2.2.1 7 (by decide)).trans (a7.trans (by rw [k7]))
    refine ⟨fun g => ?_, fun g => ?_⟩
    · -- the end
      have hFV : FT S V := ((((hFU0.tr hX.1).tr (hFK.wk (by decide))).tr (hF7.wk (by decide))).tr (hV.wk (by decide)))
      have v1 : (fi V 1).toInt = 0 := by
        have : fi V 1 = fi E 1 := (hV.1 1 (by decide)).trans ((hF7.1 1 (by decide)).trans (hFK.1 1 (by decide)))
        rw [this]; exact h1
      refine k _ V hFV ?_ v1
      have v16 : fi V 16 = fi E 16 := (hV.1 16 (by decide)).trans ((hF7.1 16 (by decide)).trans (hFK.1 16 (by decide)))
      have v17 : fi V 17 = fi E 17 := (hV.1 17 (by decide)).trans ((hF7.1 17 (by decide)).trans (hFK.1 17 (by decide)))
      have v25 : fi V 25 = fi E 25 := (hV.1 25 (by decide)).trans ((hF7.1 25 (by decide)).trans (hFK.1 25 (by decide)))
      have va : ∀ j, j ∈ [31, 37, 38] → ar V j = ar E j := fun j hj => (hV.2.2.1 j (by revert hj; revert j; decide)).trans (k0a j (by revert hj; revert j; decide))
      obtain ⟨a, b, c, d, e, ff, i, j, kq, m, n⟩ := hKE
      unfold KInv
      rw [v16, v17, v25, va 38 (by decide), va 37 (by decide), va 31 (by decide)]
      refine ⟨by omega, fun t ht => ?_, fun x hx hx2 => ?_, d, fun x hx => ?_, ff, fun x hx => ?_, j, kq, m, n⟩
      · rw [v7]
        by_cases et : t = lN
        · rw [et, upd_at, k12]; omega
        · rw [upd_ne et]; exact b t ht
      · rw [v7] at hx2
        by_cases et : x / 6 = lN
        · rw [et, upd_at, k12, ef] at hx2
          have e6 : x = 6 * lN + x % 6 := by omega
          rw [e6]
          exact hA _ (by omega)
        · rw [upd_ne et] at hx2
          exact ActOK_kx (fun i i1 i2 => by rw [v5]; exact w5n i (by omega)) (fun j hj => by
            have hj2 : j ∈ [8, 9, 19, 20] ∨ j ∈ [17, 18] := by revert hj; revert j; decide
            rcases hj2 with q1 | q1
            · exact h8 j q1 x (by omega)
            · have : ar V j = ar E j := (hV.2.2.1 j (by revert q1; revert j; decide)).trans (k0a j (by revert q1; revert j; decide))
              rw [this]) (fun j hj i i1 i2 => h10 j hj i (by omega)) (fun j hj i i1 i2 => h12 j hj i (by omega)) (c x hx hx2)
      · exact TxtOK_kx (by omega) (fun i i1 i2 => by rw [v5]; exact w5n i (by omega)) (by rw [v6]; exact w6n _ (by omega)) (e x hx)
      · exact TxtOK_kx (by omega) (fun i i1 i2 => by rw [v5]; exact w5n i (by omega)) (by rw [v6]; exact w6n _ (by omega)) (i x hx)
    · -- one ACT more
      rw [vf] at g
      have hq5 : q.toInt.toNat ≤ 5 := by omega
      have hDq := (hD (12 + q.toInt.toNat) (by omega) (by omega)).1
      have s19 : ar V 19 (12 + q.toInt.toNat) = ar T 19 (12 + q.toInt.toNat) := by rw [h8 19 (by decide) _ (by omega), ea 19]
      have s20 : ar V 20 (12 + q.toInt.toNat) = ar T 20 (12 + q.toInt.toNat) := by rw [h8 20 (by decide) _ (by omega), ea 20]
      refine q_keepsAct V (6 * lN + q.toInt.toNat) (12 + q.toInt.toNat) _ _ _ (by rw [ma_6 (by omega) (by omega)]; omega) (by rw [ad_12 (by omega)]; omega) (by omega) (by omega) (by rw [s19, s20]; exact hDq.2) (fun W hW g8 g10 g12 => ?_)
      have W8 : ∀ j, j ∈ [8, 9, 19, 20] → ∀ i, i ≠ 6 * lN + q.toInt.toNat → ar W j i = ar V j i := fun j hj i hi => by rw [g8 j hj, upd_ne hi]
      have W8s : ∀ j, j ∈ [8, 9, 19, 20] → ar W j (6 * lN + q.toInt.toNat) = ar T j (12 + q.toInt.toNat) := fun j hj => by rw [g8 j hj, upd_at, h8 j hj _ (by omega), ea j]
      have W10s : ∀ j, j ∈ [10, 11] → ∀ p, p < 4 → ar W j (4 * (6 * lN + q.toInt.toNat) + p) = ar T j (4 * (12 + q.toInt.toNat) + p) := fun j hj p hp => by rw [(g10 j hj).1 p hp, h10 j hj _ (by omega), ea j]
      have W12s : ∀ j, j ∈ [12, 13, 14, 15, 16] → ∀ p, p < 6 → ar W j (6 * (6 * lN + q.toInt.toNat) + p) = ar T j (6 * (12 + q.toInt.toNat) + p) := fun j hj p hp => by rw [(g12 j hj).1 p hp, h12 j hj _ (by omega), ea j]
      have W5 : ar W 5 = ar K 5 := (hW.2.2.1 5 (by decide)).trans v5
      have sg : ∀ a b : Nat, (b : Int) ≤ nn T → Seg (sx T 13) a b 0 1 → Seg (sx W lN) a b 0 1 := by
        intro a b hb h
        refine Seg_cg (fun i _ hi => ?_) h
        show ar W 5 (1440 * lN + 2 * i) = ar T 5 (1440 * 13 + 2 * i)
        rw [W5, w5 _ (by rw [en]; omega), ea 5]
      have el : (6 * lN + q.toInt.toNat) / 6 = lN := by omega
      refine hk2 _ _ _ ⟨rfl, hV.tr hW, ⟨by rw [inc1 (by omega)]; omega, by rw [inc1 (by omega)]; omega⟩, fun j hj i hi => ?_, fun j hj i hi => ?_, fun j hj i hi => ?_, fun i hi => ?_⟩ (by rw [inc1 (by omega)]; omega)
      · rw [W8 j hj i (by omega)]; exact h8 j hj i hi
      · rw [(g10 j hj).2 i (by omega)]; exact h10 j hj i hi
      · rw [(g12 j hj).2 i (by omega)]; exact h12 j hj i hi
      · rw [inc1 (by omega)] at hi
        by_cases ei : i = q.toInt.toNat
        · rw [ei]
          obtain ⟨⟨p1, p2, p3, p4⟩, p5, p6⟩ := hDq
          unfold ActOK
          rw [W8s 8 (by decide), W8s 9 (by decide)]
          refine ⟨p1, p2, fun z hz => ?_, fun z hz => ?_⟩
          · obtain ⟨⟨n1, n2, n3, n4⟩, n5⟩ := p3 z hz
            unfold NeedOK
            rw [W10s 10 (by decide) z (by omega), W10s 11 (by decide) z (by omega), el]
            exact ⟨n1, n2, n3, sg _ _ (by omega) n4⟩
          · obtain ⟨⟨m1, m2, m3, m4, m5⟩, m6⟩ := p4 z hz
            unfold MakeOK
            rw [W12s 12 (by decide) z (by omega), W12s 13 (by decide) z (by omega), W12s 14 (by decide) z (by omega), W12s 15 (by decide) z (by omega), W12s 16 (by decide) z (by omega), W8s 19 (by decide), W8s 20 (by decide), el]
            refine ⟨m1, fun gg => ?_, m3, m4, m5⟩
            obtain ⟨b1, b2, b3, b4⟩ := m2 gg
            have := m6 gg
            exact ⟨b1, b2, b3, sg _ _ (by omega) b4⟩
        · refine ActOK_kx (fun u u1 u2 => ?_) (fun j hj => ?_) (fun j hj u u1 u2 => (g10 j hj).2 u (by omega)) (fun j hj u u1 u2 => (g12 j hj).2 u (by omega)) (hA i (by omega))
          · have : ar W 5 = ar V 5 := hW.2.2.1 5 (by decide)
            rw [this]
          · have hj2 : j ∈ [8, 9, 19, 20] ∨ j ∈ [17, 18] := by revert hj; revert j; decide
            rcases hj2 with q1 | q1
            · exact W8 j q1 _ (by omega)
            · have : ar W j = ar V j := hW.2.2.1 j (by revert q1; revert j; decide)
              rw [this]
  refine ⟨fun _ => b45, fun gy => ⟨fun _ => b45, fun gt => ?_⟩⟩
  obtain ⟨hLT, f, hf, hf6, hD⟩ := hI gy
  refine q_anAct T f _ hLT hf hf6 hD (fun r T2 hK2 hr h2 => hk _ _ _ ⟨rfl, hr, KPx_tr hT hK2, fun g => ?_⟩ ?_)
  · obtain ⟨a, b, c, d, e⟩ := h2 g
    exact ⟨a, f + 1, c, d, e⟩
  · rw [if_neg gy]
    by_cases g : r.toInt = 0
    · rw [if_pos g]
      obtain ⟨a1, a2, a3, a4, -⟩ := hLT
      omega
    · rw [if_neg g]
      obtain ⟨a, b, c, d, e⟩ := h2 g
      obtain ⟨a1, a2, a3, a4, -⟩ := a
      omega
