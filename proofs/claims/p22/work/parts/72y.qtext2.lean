theorem MIx_nv {T V : GS} {nv : List OL} {cu : List CuT} {ac : Nat → Option AcT} {l : OL} (h : MIx T nv cu ac) (hn : nv.length < 6) (e16 : (fi V 16).toInt = (nv.length : Int) + 1) (e17 : fi V 17 = fi T 17) (a5 : ∀ i : Nat, (i < 1440 * (2 + nv.length) ∨ 1440 * (2 + nv.length) + 1440 ≤ i) → ar V 5 i = ar T 5 i) (a6 : ∀ i, i ≠ 2 + nv.length → ar V 6 i = ar T 6 i) (aj : ∀ j, j ∉ [5, 6] → ar V j = ar T j) (hx : TXx V (2 + nv.length) l) : MIx V (nv ++ [l]) cu ac := by
  obtain ⟨⟨a1, a2, a3⟩, ⟨b1, b2, b3⟩, c⟩ := h
  refine ⟨⟨by rw [e16, List.length_append]; simp only [List.length_cons, List.length_nil]; omega, by rw [List.length_append]; simp only [List.length_cons, List.length_nil]; omega, fun k y hy => ?_⟩, ⟨by rw [e17]; exact b1, b2, fun k w hw => ?_⟩, fun x hx => ?_⟩
  · rcases gt_app hy with ⟨g1, g2⟩ | ⟨g1, g2⟩
    · exact TXx_kx (fun i i1 i2 => a5 i (by omega)) (a6 _ (by omega)) (a3 k y g2)
    · rw [g1, g2]; exact hx
  · have hk := gt_lt hw
    rw [aj 23 (by decide)]
    exact ⟨(b3 k w hw).1, TXx_kx (fun i i1 i2 => a5 i (by omega)) (a6 _ (by omega)) (b3 k w hw).2⟩
  · rw [aj 7 (by decide)]
    rcases c x hx with g | ⟨a, g1, g2, g3⟩
    · exact Or.inl g
    · exact Or.inr ⟨a, g1, g2, MAx_kx (fun i _ hi => a5 i (Or.inl (by omega))) (fun j hj => by rw [aj j (by revert hj; revert j; decide)]) (fun j hj i _ _ => by rw [aj j (by revert hj; revert j; decide)]) (fun j hj i _ _ => by rw [aj j (by revert hj; revert j; decide)]) g3⟩
theorem MIx_cu {T V : GS} {nv : List OL} {cu : List CuT} {ac : Nat → Option AcT} {w : CuT} (h : MIx T nv cu ac) (hn : cu.length < 5) (e17 : (fi V 17).toInt = (cu.length : Int) + 1) (e16 : fi V 16 = fi T 16) (a5 : ∀ i : Nat, (i < 1440 * (8 + cu.length) ∨ 1440 * (8 + cu.length) + 1440 ≤ i) → ar V 5 i = ar T 5 i) (a6 : ∀ i, i ≠ 8 + cu.length → ar V 6 i = ar T 6 i) (a23 : ar V 23 = upd (ar T 23) cu.length w.1) (aj : ∀ j, j ∉ [5, 6, 23] → ar V j = ar T j) (hx : TXx V (8 + cu.length) w.2) : MIx V nv (cu ++ [w]) ac := by
  obtain ⟨⟨a1, a2, a3⟩, ⟨b1, b2, b3⟩, c⟩ := h
  refine ⟨⟨by rw [e16]; exact a1, a2, fun k y hy => ?_⟩, ⟨by rw [e17, List.length_append]; simp only [List.length_cons, List.length_nil]; omega, by rw [List.length_append]; simp only [List.length_cons, List.length_nil]; omega, fun k y hy => ?_⟩, fun x hx => ?_⟩
  · have hk := gt_lt hy
    exact TXx_kx (fun i i1 i2 => a5 i (by omega)) (a6 _ (by omega)) (a3 k y hy)
  · rw [a23]
    rcases gt_app hy with ⟨g1, g2⟩ | ⟨g1, g2⟩
    · rw [upd_ne (by omega)]
      exact ⟨(b3 k y g2).1, TXx_kx (fun i i1 i2 => a5 i (by omega)) (a6 _ (by omega)) (b3 k y g2).2⟩
    · rw [g1, g2, upd_at]; exact ⟨rfl, hx⟩
  · rw [aj 7 (by decide)]
    rcases c x hx with g | ⟨a, g1, g2, g3⟩
    · exact Or.inl g
    · exact Or.inr ⟨a, g1, g2, MAx_kx (fun i _ hi => a5 i (Or.inl (by omega))) (fun j hj => by rw [aj j (by revert hj; revert j; decide)]) (fun j hj i _ _ => by rw [aj j (by revert hj; revert j; decide)]) (fun j hj i _ _ => by rw [aj j (by revert hj; revert j; decide)]) g3⟩
set_option maxHeartbeats 2000000 in
theorem q_neverE (S : GS) (post : Int32 → GS → Prop) (Z : TS) (Y : YT) (nv : List OL) (cu : List CuT) (ac : Nat → Option AcT) (hS : STm Z Y) (hY : 0 < Y.2.2.2) (hT : TPa Y.2.1 Y.2.2.1 S) (hB : BF S) (hMI : MIx S nv cu ac) (hK : KInv S) (k : ∀ S', FT S S' → KInv S' → (fi S' 1).toInt = 0 → BF S' → MIx S' (nvO Z nv).2.1 cu ac → (fi S' 8).toInt = (nvO Z nv).2.2.1 → fi S' 13 = (nvO Z nv).2.2.2 → post (nvO Z nv).1 S') : w_X12_never S post := by
  have out : ∀ (V : GS) (o : Int32 × List OL × Int × Int32), nvO Z nv = o → FT S V → KInv V → (fi V 1).toInt = 0 → BF V → MIx V o.2.1 cu ac → (fi V 8).toInt = o.2.2.1 → fi V 13 = o.2.2.2 → post o.1 V := by
    intro V o ho h1 h2 h3 h4 h5 h6 h7
    subst ho
    exact k V h1 h2 h3 h4 h5 h6 h7
  have hnl := hMI.1.1
  unfold w_X12_never
  have h16 := hK.2.2.2.1
  have hF6 : Fr [6] [] [] [] S (si S 6 0) := Fr.si (by decide) Fr.rf
  have hKU : KInv (si S 6 0) := hK
  have u6 : fi (si S 6 0) 6 = 0 := si_at _ _ _
  have hBU : BF (si S 6 0) := BF_fr hB hF6 (by decide)
  have hTU : TPa Y.2.1 Y.2.2.1 (si S 6 0) := hT.fr hF6 (by decide) (by decide)
  have hMU : MIx (si S 6 0) nv cu ac := MIx_fr hMI hF6 (by decide) (by decide)
  generalize si S 6 0 = U at hF6 hKU u6 hBU hTU hMU ⊢
  have u16 : fi U 16 = fi S 16 := hF6.1 16 (by decide)
  refine ⟨fun g => ?_, fun g => ?_⟩
  · refine q_readsE U _ Z Y hS hY hTU hBU hKU (fun r T hX h1 hBT hr hs hs0 => ⟨fun g2 => ?_, fun g2 => ?_⟩)
    rotate_left
    · obtain ⟨z1, z2, z3⟩ := hs0 g2
      exact out T _ (nvO_b (by omega) z1) ((hF6.wk (by decide) : FT S U).tr hX.1) (KInv_kx hKU hX) h1 hBT (MIx_kx hMU hX) z2 z3
    obtain ⟨hn, hsg, z1, z2, z3, z4, z5⟩ := hs g2
    have hMT := MIx_kx hMU hX
    have hKT := KInv_kx hKU hX
    have t16 : fi T 16 = fi S 16 := hX.2.2.1.trans u16
    refine q_keeps T (2 + (fi S 16).toInt.toNat) _ _ (by rw [t16, ad_2 (by omega)]; omega) (by omega) hn (fun W hW w6 w6n w5 w5n => ?_)
    have hF : FT S W := ((hF6.wk (by decide) : FT S U).tr hX.1).tr (hW.wk (by decide))
    have w16 : fi W 16 = fi S 16 := (hW.1 16 (by decide)).trans t16
    have w1 : fi W 1 = fi T 1 := hW.1 1 (by decide)
    have hG : FT S (si W 16 (fi W 16 + 1)) := Fr.si (by decide) hF
    have g16 : (fi (si W 16 (fi W 16 + 1)) 16).toInt = (fi S 16).toInt + 1 := by
      show ((si W 16 (fi W 16 + 1)).1 16).toInt = _
      rw [si_at, inc1 (by rw [w16]; omega), w16]
    have g1 : fi (si W 16 (fi W 16 + 1)) 1 = fi T 1 := by
      show (si W 16 (fi W 16 + 1)).1 1 = _
      rw [si_ne (by decide)]; exact w1
    have g17 : fi (si W 16 (fi W 16 + 1)) 17 = fi T 17 := by
      show (si W 16 (fi W 16 + 1)).1 17 = _
      rw [si_ne (by decide)]; exact hW.1 17 (by decide)
    have g25 : fi (si W 16 (fi W 16 + 1)) 25 = fi T 25 := by
      show (si W 16 (fi W 16 + 1)).1 25 = _
      rw [si_ne (by decide)]; exact hW.1 25 (by decide)
    have ga : ∀ j, ar (si W 16 (fi W 16 + 1)) j = ar W j := fun j => rfl
    have g8 : fi (si W 16 (fi W 16 + 1)) 8 = 0 := ((si_ne (by decide)).trans (hW.1 8 (by decide))).trans z2
    have g13 : fi (si W 16 (fi W 16 + 1)) 13 = -1 := ((si_ne (by decide)).trans (hW.1 13 (by decide))).trans z3
    have gB : BF (si W 16 (fi W 16 + 1)) := BF_fr (I := [16]) (L := []) (A := [5, 6]) (N := []) hBT ((Fr.si (by decide) (hW.wk (by decide)) : Fr [16] [] [5, 6] [] T (si W 16 (fi W 16 + 1)))) (by decide)
    have er : fi W 16 + 1 - 1 = nI nv.length := by
      refine i_eq ?_
      rw [sub1 (by rw [inc1 (by rw [w16]; omega), w16]; omega), inc1 (by rw [w16]; omega), w16, nI_toInt (by omega)]
      omega
    rw [er]
    generalize si W 16 (fi W 16 + 1) = V at hG g16 g1 g17 g25 ga g8 g13 gB ⊢
    have efn : (fi S 16).toInt.toNat = nv.length := by omega
    refine out V _ (nvO_g (by omega) z1) hG ?_ (by rw [g1]; exact h1) gB ?_ (by rw [g8]; exact li_0) g13
    rotate_left
    · rw [efn] at w6 w6n w5 w5n
      refine MIx_nv hMT (by omega) (by rw [g16]; omega) g17 (fun i hi => by rw [ga 5]; exact w5n i hi) (fun i hi => by rw [ga 6]; exact w6n i hi) (fun j hj => (ga j).trans (hW.2.2.1 j hj)) ⟨?_, ?_, ?_⟩
      · rw [ga 6, w6]; exact z4
      · have := hn.2
        omega
      · refine RTx_cg z5 (fun i hi => ?_)
        show ar V 5 (1440 * (2 + nv.length) + i) = ar T 5 (1440 * 13 + i)
        rw [ga 5]
        exact w5 _ (by omega)
    have wa : ∀ j, j ∉ [5, 6] → ar V j = ar T j := fun j hj => (ga j).trans (hW.2.2.1 j hj)
    obtain ⟨a, b, c, d, e, f, i, j, l, m, q⟩ := hKT
    unfold KInv
    rw [g1, g17, g25, wa 7 (by decide), wa 38 (by decide), wa 37 (by decide), wa 31 (by decide)]
    refine ⟨a, b, fun x hx hx2 => ?_, by omega, fun x hx => ?_, f, fun x hx => ?_, j, l, m, q⟩
    · exact ActOK_kx (fun i _ hi => by rw [ga 5]; exact w5n i (Or.inl (by omega))) (fun j hj => by rw [wa j (by revert hj; revert j; decide)]) (fun j hj i _ _ => by rw [wa j (by revert hj; revert j; decide)]) (fun j hj i _ _ => by rw [wa j (by revert hj; revert j; decide)]) (c x hx hx2)
    · by_cases ex : x = (fi S 16).toInt.toNat
      · unfold TxtOK
        rw [ex, ga 6, w6]
        refine ⟨hn.1, by show nn T ≤ 720; omega, ?_⟩
        show Seg (sx V (2 + (fi S 16).toInt.toNat)) 0 (nn T).toNat 0 1
        refine Seg_cg (fun i _ hi => ?_) hsg
        show ar V 5 (1440 * (2 + (fi S 16).toInt.toNat) + 2 * i) = ar T 5 (1440 * 13 + 2 * i)
        rw [ga 5]
        exact w5 _ (by omega)
      · rw [g16] at hx
        refine TxtOK_kx (by omega) (fun i i1 i2 => by rw [ga 5]; exact w5n i (by omega)) (by rw [ga 6]; exact w6n _ (by omega)) (e x (by rw [t16]; omega))
    · exact TxtOK_kx (by omega) (fun i i1 i2 => by rw [ga 5]; exact w5n i (by omega)) (by rw [ga 6]; exact w6n _ (by omega)) (i x hx)
  · refine q_endsE _ _ (fun E hE h1 e8 e13 _ => ?_)
    have hX : KX U E := KX_fr (hE.wk (by decide)) h1
    exact out E _ (nvO_f (by omega)) ((hF6.wk (by decide) : FT S U).tr hX.1) (KInv_kx hKU hX) h1 (BF_fr hBU hE (by decide)) (MIx_kx hMU hX) (by rw [e8, u6]; exact li_0) (e13 (by rw [u6]; exact li_0))
set_option maxHeartbeats 2000000 in
theorem q_cureE (S : GS) (x : Int32) (post : Int32 → GS → Prop) (Z : TS) (Y : YT) (nv : List OL) (cu : List CuT) (ac : Nat → Option AcT) (hS : STm Z Y) (hY : 0 < Y.2.2.2) (hT : TPa Y.2.1 Y.2.2.1 S) (hB : BF S) (hMI : MIx S nv cu ac) (hK : KInv S) (k : ∀ S', FT S S' → KInv S' → (fi S' 1).toInt = 0 → BF S' → MIx S' nv (cuO Z x cu).2.1 ac → (fi S' 8).toInt = (cuO Z x cu).2.2.1 → fi S' 13 = (cuO Z x cu).2.2.2 → post (cuO Z x cu).1 S') : w_X12_cure S x post := by
  have out : ∀ (V : GS) (o : Int32 × List CuT × Int × Int32), cuO Z x cu = o → FT S V → KInv V → (fi V 1).toInt = 0 → BF V → MIx V nv o.2.1 ac → (fi V 8).toInt = o.2.2.1 → fi V 13 = o.2.2.2 → post o.1 V := by
    intro V o ho h1 h2 h3 h4 h5 h6 h7
    subst ho
    exact k V h1 h2 h3 h4 h5 h6 h7
  have hnl := hMI.2.1.1
  unfold w_X12_cure w_X12_cure_B23
  have h17 := hK.2.2.2.2.2.1
  have hF6 : Fr [6] [] [] [] S (si S 6 0) := Fr.si (by decide) Fr.rf
  have hKU : KInv (si S 6 0) := hK
  have u6 : fi (si S 6 0) 6 = 0 := si_at _ _ _
  have hBU : BF (si S 6 0) := BF_fr hB hF6 (by decide)
  have hTU : TPa Y.2.1 Y.2.2.1 (si S 6 0) := hT.fr hF6 (by decide) (by decide)
  have hMU : MIx (si S 6 0) nv cu ac := MIx_fr hMI hF6 (by decide) (by decide)
  generalize si S 6 0 = U at hF6 hKU u6 hBU hTU hMU ⊢
  have u17 : fi U 17 = fi S 17 := hF6.1 17 (by decide)
  have no : (5 ≤ cu.length ∨ ¬ (0 ≤ x.toInt ∧ x.toInt ≤ 11)) → w_X12_ends U (fun S2 => post (-1) S2) := by
    intro hh
    refine q_endsE _ _ (fun E hE h1 e8 e13 _ => ?_)
    have hX : KX U E := KX_fr (hE.wk (by decide)) h1
    exact out E _ (cuO_f hh) ((hF6.wk (by decide) : FT S U).tr hX.1) (KInv_kx hKU hX) h1 (BF_fr hBU hE (by decide)) (MIx_kx hMU hX) (by rw [e8, u6]; exact li_0) (e13 (by rw [u6]; exact li_0))
  have e11 : (11 : Int32).toInt = 11 := by decide
  refine ⟨fun g => no (Or.inl (by omega)), fun g => q_isIn _ _ _ _ _ (fun r0 _ hb0 => ⟨fun g0 => ?_, fun g0 => no (Or.inr (by rw [li_0, e11] at hb0; omega))⟩)⟩
  have hnf : ¬ (5 ≤ cu.length ∨ ¬ (0 ≤ x.toInt ∧ x.toInt ≤ 11)) := by
    rw [li_0, e11] at hb0
    omega
  refine q_readsE U _ Z Y hS hY hTU hBU hKU (fun r T hX h1 hBT hr hs hs0 => ⟨fun g2 => ?_, fun g2 => ?_⟩)
  rotate_left
  · obtain ⟨z1, z2, z3⟩ := hs0 g2
    exact out T _ (cuO_b hnf z1) ((hF6.wk (by decide) : FT S U).tr hX.1) (KInv_kx hKU hX) h1 hBT (MIx_kx hMU hX) z2 z3
  obtain ⟨hn, hsg, z1, z2, z3, z4, z5⟩ := hs g2
  have hMT := MIx_kx hMU hX
  have hKT := KInv_kx hKU hX
  have t17 : fi T 17 = fi S 17 := hX.2.2.2.1.trans u17
  refine q_keeps T (8 + (fi S 17).toInt.toNat) _ _ (by rw [t17, ad_8 (by omega)]; omega) (by omega) hn (fun W hW w6 w6n w5 w5n => ?_)
  have hF : FT S W := ((hF6.wk (by decide) : FT S U).tr hX.1).tr (hW.wk (by decide))
  have w17 : fi W 17 = fi S 17 := (hW.1 17 (by decide)).trans t17
  have w1 : fi W 1 = fi T 1 := hW.1 1 (by decide)
  refine ⟨by rw [w17]; omega, ?_⟩
  have hG : FT S (si (su W 23 (fi W 17).toNatClampNeg x) 17 (fi W 17 + 1)) := Fr.si (by decide) (Fr.su (by decide) hF)
  have g17 : (fi (si (su W 23 (fi W 17).toNatClampNeg x) 17 (fi W 17 + 1)) 17).toInt = (fi S 17).toInt + 1 := by
    show ((si (su W 23 (fi W 17).toNatClampNeg x) 17 (fi W 17 + 1)).1 17).toInt = _
    rw [si_at, inc1 (by rw [w17]; omega), w17]
  have g1 : fi (si (su W 23 (fi W 17).toNatClampNeg x) 17 (fi W 17 + 1)) 1 = fi T 1 := by
    show (si (su W 23 (fi W 17).toNatClampNeg x) 17 (fi W 17 + 1)).1 1 = _
    rw [si_ne (by decide)]; exact w1
  have g16 : fi (si (su W 23 (fi W 17).toNatClampNeg x) 17 (fi W 17 + 1)) 16 = fi T 16 := by
    show (si (su W 23 (fi W 17).toNatClampNeg x) 17 (fi W 17 + 1)).1 16 = _
    rw [si_ne (by decide)]; exact hW.1 16 (by decide)
  have g25 : fi (si (su W 23 (fi W 17).toNatClampNeg x) 17 (fi W 17 + 1)) 25 = fi T 25 := by
    show (si (su W 23 (fi W 17).toNatClampNeg x) 17 (fi W 17 + 1)).1 25 = _
    rw [si_ne (by decide)]; exact hW.1 25 (by decide)
  have ga : ∀ j, j ≠ 23 → ar (si (su W 23 (fi W 17).toNatClampNeg x) 17 (fi W 17 + 1)) j = ar W j := fun j hj => su_ne hj
  have g8 : fi (si (su W 23 (fi W 17).toNatClampNeg x) 17 (fi W 17 + 1)) 8 = 0 := ((si_ne (by decide)).trans (hW.1 8 (by decide))).trans z2
  have g13 : fi (si (su W 23 (fi W 17).toNatClampNeg x) 17 (fi W 17 + 1)) 13 = -1 := ((si_ne (by decide)).trans (hW.1 13 (by decide))).trans z3
  have gB : BF (si (su W 23 (fi W 17).toNatClampNeg x) 17 (fi W 17 + 1)) := BF_fr (I := [17]) (L := []) (A := [5, 6, 23]) (N := []) hBT ((Fr.si (by decide) (Fr.su (by decide) (hW.wk (by decide))) : Fr [17] [] [5, 6, 23] [] T (si (su W 23 (fi W 17).toNatClampNeg x) 17 (fi W 17 + 1)))) (by decide)
  have efn : (fi S 17).toInt.toNat = cu.length := by omega
  have e17n : (fi W 17).toNatClampNeg = cu.length := by rw [tnc, w17]; exact efn
  have g23 : ar (si (su W 23 (fi W 17).toNatClampNeg x) 17 (fi W 17 + 1)) 23 = upd (ar T 23) cu.length x := by
    show (si (su W 23 (fi W 17).toNatClampNeg x) 17 (fi W 17 + 1)).2.2.1 23 = _
    rw [si_2, su_at, e17n]
    have : ar W 23 = ar T 23 := hW.2.2.1 23 (by decide)
    exact congrArg (fun f => upd f cu.length x) this
  have er : fi W 17 + 1 - 1 = nI cu.length := by
    refine i_eq ?_
    rw [sub1 (by rw [inc1 (by rw [w17]; omega), w17]; omega), inc1 (by rw [w17]; omega), w17, nI_toInt (by omega)]
    omega
  rw [er]
  generalize si (su W 23 (fi W 17).toNatClampNeg x) 17 (fi W 17 + 1) = V at hG g16 g1 g17 g25 ga g8 g13 gB g23 ⊢
  refine out V _ (cuO_g hnf z1) hG ?_ (by rw [g1]; exact h1) gB ?_ (by rw [g8]; exact li_0) g13
  rotate_left
  · rw [efn] at w6 w6n w5 w5n
    refine MIx_cu hMT (by omega) (by rw [g17]; omega) g16 (fun i hi => by rw [ga 5 (by decide)]; exact w5n i hi) (fun i hi => by rw [ga 6 (by decide)]; exact w6n i hi) g23 (fun j hj => (ga j (by intro e; subst e; exact hj (by decide))).trans (hW.2.2.1 j (by intro e; apply hj; clear hj; revert e; revert j; decide))) ⟨?_, ?_, ?_⟩
    · rw [ga 6 (by decide), w6]; exact z4
    · have := hn.2
      show (ypCond Z 0).2.2.1.length ≤ 720
      omega
    · refine RTx_cg z5 (fun i hi => ?_)
      show ar V 5 (1440 * (8 + cu.length) + i) = ar T 5 (1440 * 13 + i)
      rw [ga 5 (by decide)]
      have hi2 : i < 2 * (0 + (ypCond Z 0).2.2.1.length) := hi
      exact w5 _ (by omega)
  have wa : ∀ j, j ∉ [5, 6, 23] → ar V j = ar T j := fun j hj => (ga j (by intro e; subst e; exact hj (by decide))).trans (hW.2.2.1 j (by intro e; apply hj; clear hj; revert e; revert j; decide))
  obtain ⟨a, b, c, d, e, f, i, j, l, m, q⟩ := hKT
  unfold KInv
  rw [g1, g16, g25, wa 7 (by decide), wa 38 (by decide), wa 37 (by decide), wa 31 (by decide)]
  refine ⟨a, b, fun x hx hx2 => ?_, d, fun x hx => ?_, by omega, fun x hx => ?_, j, l, m, q⟩
  · exact ActOK_kx (fun i _ hi => by rw [ga 5 (by decide)]; exact w5n i (Or.inl (by omega))) (fun j hj => by rw [wa j (by revert hj; revert j; decide)]) (fun j hj i _ _ => by rw [wa j (by revert hj; revert j; decide)]) (fun j hj i _ _ => by rw [wa j (by revert hj; revert j; decide)]) (c x hx hx2)
  · exact TxtOK_kx (by omega) (fun i i1 i2 => by rw [ga 5 (by decide)]; exact w5n i (by omega)) (by rw [ga 6 (by decide)]; exact w6n _ (by omega)) (e x hx)
  · by_cases ex : x = (fi S 17).toInt.toNat
    · unfold TxtOK
      rw [ex, ga 6 (by decide), w6]
      refine ⟨hn.1, by show nn T ≤ 720; omega, ?_⟩
      show Seg (sx V (8 + (fi S 17).toInt.toNat)) 0 (nn T).toNat 0 1
      refine Seg_cg (fun i _ hi => ?_) hsg
      show ar V 5 (1440 * (8 + (fi S 17).toInt.toNat) + 2 * i) = ar T 5 (1440 * 13 + 2 * i)
      rw [ga 5 (by decide)]
      exact w5 _ (by omega)
    · rw [g17] at hx
      refine TxtOK_kx (by omega) (fun i i1 i2 => by rw [ga 5 (by decide)]; exact w5n i (by omega)) (by rw [ga 6 (by decide)]; exact w6n _ (by omega)) (i x (by rw [t17]; omega))
set_option maxHeartbeats 4000000 in
theorem q_statuteE (S : GS) (l : Int32) (post : Int32 → GS → Prop) (Z : TS) (Y : YT) (nv : List OL) (cu : List CuT) (ac : Nat → Option AcT) (hS : STm Z Y) (hY : 0 < Y.2.2.2) (hT : TPa Y.2.1 Y.2.2.1 S) (hB : BF S) (hMI : MIx S nv cu ac) (hK : KInv S) (k : ∀ S', FT S S' → KInv S' → (fi S' 1).toInt = 0 → BF S' → MIx S' nv cu (stO Z l ac).2.1 → (fi S' 8).toInt = (stO Z l ac).2.2.1 → fi S' 13 = (stO Z l ac).2.2.2 → post (stO Z l ac).1 S') : w_X12_statute S l post := by
  have out : ∀ (V : GS) (o : Int32 × (Nat → Option AcT) × Int × Int32), stO Z l ac = o → FT S V → KInv V → (fi V 1).toInt = 0 → BF V → MIx V nv cu o.2.1 → (fi V 8).toInt = o.2.2.1 → fi V 13 = o.2.2.2 → post o.1 V := by
    intro V o ho h1 h2 h3 h4 h5 h6 h7
    subst ho
    exact k V h1 h2 h3 h4 h5 h6 h7
  unfold w_X12_statute
  have hF6 : Fr [6] [] [] [] S (si S 6 0) := Fr.si (by decide) Fr.rf
  have hKU0 : KInv (si S 6 0) := hK
  have u6 : fi (si S 6 0) 6 = 0 := si_at _ _ _
  have hBU : BF (si S 6 0) := BF_fr hB hF6 (by decide)
  have hTU : TPa Y.2.1 Y.2.2.1 (si S 6 0) := hT.fr hF6 (by decide) (by decide)
  have hMU : MIx (si S 6 0) nv cu ac := MIx_fr hMI hF6 (by decide) (by decide)
  generalize si S 6 0 = U0 at hF6 hKU0 u6 hBU hTU hMU ⊢
  have hFU0 : FT S U0 := hF6.wk (by decide)
  refine q_isIn _ _ _ _ _ (fun r1 _ hb1 => ?_)
  rw [li_0, li_1] at hb1
  refine ⟨fun g1 => ?_, fun g1 => q_endsE _ _ (fun E hE h1 e8 e13 _ => ?_)⟩
  rotate_left
  · have hX : KX U0 E := KX_fr (hE.wk (by decide)) h1
    exact out E _ (stO_f (by omega)) (hFU0.tr hX.1) (KInv_kx hKU0 hX) h1 (BF_fr hBU hE (by decide)) (MIx_kx hMU hX) (by rw [e8, u6]; exact li_0) (e13 (by rw [u6]; exact li_0))
  have hl01 : 0 ≤ l.toInt ∧ l.toInt ≤ 1 := by omega
  refine q_beginsE _ _ Z Y hS hY hTU hBU hKU0.1 (fun U hL n0 f0 _ hFU h6 hzU u66 => ?_)
  have hUU : KPx U U := ⟨Fr.rf, (KP_rf 12 48 72 U).2⟩
  refine lr3 (fun (T : GS) (l' y : Int32) => l' = l ∧ (y = 0 ∨ y = 1) ∧ KPx U T ∧ (y.toInt ≠ 0 → Lx T ∧ ∃ f : Nat, (fi T 12).toInt = (f : Int) ∧ f ≤ 6 ∧ ∀ q : Nat, 12 ≤ q → q < 12 + f → DA T q ∧ NA T q) ∧ (y.toInt ≠ 0 → ∃ (j n : Nat) (rd : List AcT), MZ Z Y j T ∧ fi T 6 = 0 ∧ FAx T Z Y rd ∧ (fi T 12).toInt = (rd.length : Int) ∧ n + rd.length = 8 ∧ ypSt Z 8 0 [] = ypSt Z n j rd) ∧ (y.toInt = 0 → MB Z T (ypNo (ypSt Z 8 0 []).1 (ypSt Z 8 0 []).2.1))) (fun T _ y => if y.toInt = 0 then 0 else (701 - (fi T 4).toInt).toNat) ?_ _ _ _ ⟨rfl, Or.inr rfl, hUU, fun _ => ⟨hL, 0, f0, by decide, fun q h1 h2 => by omega⟩, fun _ => ⟨0, 8, [], hzU, u66, fun k a ha => by simp at ha, f0, rfl, rfl⟩, fun q => absurd q (by decide)⟩
  rintro kk T l' y ⟨rfl, hy, hT, hI, hJ, hJ0⟩ hk
  unfold w_X12_statute_F26
  have b45 : (y.toInt ≠ 0 → (fi T 3).toInt = 0) → w_X12_statute_B45 post T l' y := by
    intro hend
    unfold w_X12_statute_B45
    refine q_endsE _ _ (fun E hE h1 e8 e13 e130 => ?_)
    have hX : KX U0 E := KX_go hFU h6 hT n0 hE h1
    have hKE := KInv_kx hKU0 hX
    have hME := MIx_kx hMU hX
    refine ⟨fun gy => ?_, fun gy => ?_⟩
    rotate_left
    · obtain ⟨z1, z2, z3, z4⟩ := hJ0 gy
      exact out E _ (stO_b hl01 z1) (hFU0.tr hX.1) hKE h1 (BF_fr (S := T) z4 hE (by decide)) hME (by rw [e8]; exact z2) (by rw [e130 (by rw [z2]; omega)]; exact z3)
    obtain ⟨hLT, f, hf, hf6, hD⟩ := hI gy
    obtain ⟨j, n, rd, hzT, t6, hFA, hfr, hn8, hRES⟩ := hJ gy
    clear hI hJ hJ0 hk
    have hrf : rd.length = f := by omega
    obtain ⟨n', rfl⟩ : ∃ n', n = n' + 1 := ⟨n - 1, by omega⟩
    have hR0 := hRES.trans (ypSt_0 ((MZ_0 hzT).mp (hend gy)))
    have ho := stO_g (ac := ac) hl01 (by rw [hR0])
    rw [hR0] at ho
    have ea : ∀ j, ar E j = ar T j := fun j => hE.2.2.1 j (by simp)
    have en : nn E = nn T := nn_fr hE (by decide)
    have hn := nn_lx hLT
    rw [← en] at hn
    have ef : (fi E 12).toInt = (f : Int) := by
      have : fi E 12 = fi T 12 := hE.1 12 (by decide)
      rw [this]; exact hf
    obtain ⟨lN, hlN⟩ : ∃ lN : Nat, l'.toInt = (lN : Int) := ⟨l'.toInt.toNat, by omega⟩
    have hl1 : lN ≤ 1 := by omega
    refine q_keeps E lN l' _ hlN (by omega) hn (fun K hFK w6 w6n w5 w5n => ⟨by omega, ?_⟩)
    have eln : l'.toNatClampNeg = lN := by rw [tnc]; omega
    rw [eln]
    have hF7 : Fr [] [] [7] [] K (su K 7 lN (fi K 12)) := Fr.su (by decide) Fr.rf
    have a7 : ar (su K 7 lN (fi K 12)) 7 = upd (ar K 7) lN (fi K 12) := su_at _ _ _ _
    generalize su K 7 lN (fi K 12) = K0 at hF7 a7 ⊢
    have k12 : fi K 12 = fi E 12 := hFK.1 12 (by decide)
    have kf : (fi K0 12).toInt = (f : Int) := by
      have : fi K0 12 = fi K 12 := hF7.1 12 (by decide)
      rw [this, k12]; exact ef
    have k7 : ar K 7 = ar E 7 := hFK.2.2.1 7 (by decide)
    have k0a : ∀ j, j ∉ [5, 6, 7] → ar K0 j = ar E j := fun j hj => (hF7.2.2.1 j (by intro e; apply hj; clear hj; revert e; revert j; decide)).trans (hFK.2.2.1 j (by intro e; apply hj; clear hj; revert e; revert j; decide))
    have k05 : ar K0 5 = ar K 5 := hF7.2.2.1 5 (by decide)
    have k06 : ar K0 6 = ar K 6 := hF7.2.2.1 6 (by decide)
    refine lr3 (fun (V : GS) (l2 q : Int32) => l2 = l' ∧ Fr [] [] [8, 9, 10, 11, 12, 13, 14, 15, 16, 19, 20] [] K0 V ∧ (0 ≤ q.toInt ∧ q.toInt ≤ (f : Int)) ∧ (∀ j, j ∈ [8, 9, 19, 20] → ∀ i, (i < 6 * lN ∨ 6 * lN + 6 ≤ i) → ar V j i = ar E j i) ∧ (∀ j, j ∈ [10, 11] → ∀ i, (i < 24 * lN ∨ 24 * lN + 24 ≤ i) → ar V j i = ar E j i) ∧ (∀ j, j ∈ [12, 13, 14, 15, 16] → ∀ i, (i < 36 * lN ∨ 36 * lN + 36 ≤ i) → ar V j i = ar E j i) ∧ (∀ i : Nat, (i : Int) < q.toInt → ActOK V (6 * lN + i) ∧ ∀ a, rd[i]? = some a → MAx V (6 * lN + i) a)) (fun _ _ q => ((f : Int) - q.toInt).toNat) ?_ _ _ _ ⟨rfl, Fr.rf, ⟨by decide, by rw [li_0]; omega⟩, fun j hj i _ => by rw [k0a j (by revert hj; revert j; decide)], fun j hj i _ => by rw [k0a j (by revert hj; revert j; decide)], fun j hj i _ => by rw [k0a j (by revert hj; revert j; decide)], fun i hi => by rw [li_0] at hi; omega⟩
    rintro kk2 V l2 q ⟨rfl, hV, hq, h8, h10, h12, hA⟩ hk2
    unfold w_X12_statute_F72 w_X12_statute_B100
    have vf : (fi V 12).toInt = (f : Int) := by
      have : fi V 12 = fi K0 12 := hV.1 12 (by decide)
      rw [this]; exact kf
    have v5 : ar V 5 = ar K 5 := (hV.2.2.1 5 (by decide)).trans k05
    have v6 : ar V 6 = ar K 6 := (hV.2.2.1 6 (by decide)).trans k06
    have v7 : ar V 7 = upd (ar E 7) lN (fi K 12) := (hV.2.2.1 7 (by decide)).trans (a7.trans (by rw [k7]))
    refine ⟨fun g => ?_, fun g => ?_⟩
    · -- the end
      have hFV : FT S V := ((((hFU0.tr hX.1).tr (hFK.wk (by decide))).tr (hF7.wk (by decide))).tr (hV.wk (by decide)))
      have v1 : (fi V 1).toInt = 0 := by
        have : fi V 1 = fi E 1 := (hV.1 1 (by decide)).trans ((hF7.1 1 (by decide)).trans (hFK.1 1 (by decide)))
        rw [this]; exact h1
      have v12 : (fi V 12) = nI rd.length := i_eq (by rw [vf, nI_toInt (by omega)]; omega)
      have v8 : fi V 8 = fi E 8 := (hV.1 8 (by decide)).trans ((hF7.1 8 (by decide)).trans (hFK.1 8 (by decide)))
      have v13 : fi V 13 = fi E 13 := (hV.1 13 (by decide)).trans ((hF7.1 13 (by decide)).trans (hFK.1 13 (by decide)))
      have vB : BF V := BF_fr (BF_fr (BF_fr (BF_fr (S := T) ⟨hzT.2.2.2.2.2.2.2.1, hzT.2.2.2.2.2.2.2.2⟩ hE (by decide)) hFK (by decide)) hF7 (by decide)) hV (by decide)
      have l'n : l2.toInt.toNat = lN := by omega
      rw [v12]
      refine out V _ ho hFV ?_ v1 vB ?_ (by rw [v8, e8, t6]; exact li_0) (by rw [v13]; exact e13 (by rw [t6]; exact li_0))
      rotate_left
      · have v16 : fi V 16 = fi E 16 := (hV.1 16 (by decide)).trans ((hF7.1 16 (by decide)).trans (hFK.1 16 (by decide)))
        have v17 : fi V 17 = fi E 17 := (hV.1 17 (by decide)).trans ((hF7.1 17 (by decide)).trans (hFK.1 17 (by decide)))
        have v23 : ar V 23 = ar E 23 := (hV.2.2.1 23 (by decide)).trans (k0a 23 (by decide))
        obtain ⟨⟨a1, a2, a3⟩, ⟨b1, b2, b3⟩, c⟩ := hME
        refine ⟨⟨by rw [v16]; exact a1, a2, fun k y hy => ?_⟩, ⟨by rw [v17]; exact b1, b2, fun k w hw => ?_⟩, fun x hx => ?_⟩
        · exact TXx_kx (fun i i1 i2 => by rw [v5]; exact w5n i (by omega)) (by rw [v6]; exact w6n _ (by omega)) (a3 k y hy)
        · rw [v23]
          exact ⟨(b3 k w hw).1, TXx_kx (fun i i1 i2 => by rw [v5]; exact w5n i (by omega)) (by rw [v6]; exact w6n _ (by omega)) (b3 k w hw).2⟩
        · show (acE l2.toInt.toNat rd ac x = none ∧ _) ∨ ∃ a, acE l2.toInt.toNat rd ac x = some a ∧ _
          rw [l'n, v7]
          unfold acE
          by_cases et : x / 6 = lN
          · rw [if_pos et, et, upd_at, k12, ef]
            by_cases er : x % 6 < rd.length
            · right
              have hget := List.getElem?_eq_getElem er
              refine ⟨_, hget, by omega, ?_⟩
              have e6 : x = 6 * lN + x % 6 := by omega
              have hh := (hA (x % 6) (by omega)).2 _ hget
              rw [← e6] at hh
              exact hh
            · left
              exact ⟨List.getElem?_eq_none (by omega), by omega⟩
          · rw [if_neg et, upd_ne et]
            rcases c x hx with g' | ⟨a, g1', g2', g3'⟩
            · exact Or.inl g'
            · refine Or.inr ⟨a, g1', g2', MAx_kx (fun i i1 i2 => by rw [v5]; exact w5n i (by omega)) (fun j hj => ?_) (fun j hj i i1 i2 => h10 j hj i (by omega)) (fun j hj i i1 i2 => h12 j hj i (by omega)) g3'⟩
              have hj2 : j ∈ [8, 9, 19, 20] ∨ j ∈ [17, 18] := by revert hj; revert j; decide
              rcases hj2 with q1 | q1
              · exact h8 j q1 x (by omega)
              · have : ar V j = ar E j := (hV.2.2.1 j (by revert q1; revert j; decide)).trans (k0a j (by revert q1; revert j; decide))
                rw [this]
      have v16 : fi V 16 = fi E 16 := (hV.1 16 (by decide)).trans ((hF7.1 16 (by decide)).trans (hFK.1 16 (by decide)))
      have v17 : fi V 17 = fi E 17 := (hV.1 17 (by decide)).trans ((hF7.1 17 (by decide)).trans (hFK.1 17 (by decide)))
      have v25 : fi V 25 = fi E 25 := (hV.1 25 (by decide)).trans ((hF7.1 25 (by decide)).trans (hFK.1 25 (by decide)))
      have va : ∀ j, j ∈ [31, 37, 38] → ar V j = ar E j := fun j hj => (hV.2.2.1 j (by revert hj; revert j; decide)).trans (k0a j (by revert hj; revert j; decide))
      obtain ⟨a, b, c, d, e, ff, i, j, kq, m, n⟩ := hKE
      unfold KInv
      rw [v16, v17, v25, va 38 (by decide), va 37 (by decide), va 31 (by decide)]
      refine ⟨by omega, fun t ht => ?_, fun x hx hx2 => ?_, d, fun x hx => ?_, ff, fun x hx => ?_, j, kq, m, n⟩
      · rw [v7]
        by_cases et : t = lN
        · rw [et, upd_at, k12]; omega
        · rw [upd_ne et]; exact b t ht
      · rw [v7] at hx2
        by_cases et : x / 6 = lN
        · rw [et, upd_at, k12, ef] at hx2
          have e6 : x = 6 * lN + x % 6 := by omega
          rw [e6]
          exact (hA _ (by omega)).1
        · rw [upd_ne et] at hx2
          exact ActOK_kx (fun i i1 i2 => by rw [v5]; exact w5n i (by omega)) (fun j hj => by
            have hj2 : j ∈ [8, 9, 19, 20] ∨ j ∈ [17, 18] := by revert hj; revert j; decide
            rcases hj2 with q1 | q1
            · exact h8 j q1 x (by omega)
            · have : ar V j = ar E j := (hV.2.2.1 j (by revert q1; revert j; decide)).trans (k0a j (by revert q1; revert j; decide))
              rw [this]) (fun j hj i i1 i2 => h10 j hj i (by omega)) (fun j hj i i1 i2 => h12 j hj i (by omega)) (c x hx hx2)
      · exact TxtOK_kx (by omega) (fun i i1 i2 => by rw [v5]; exact w5n i (by omega)) (by rw [v6]; exact w6n _ (by omega)) (e x hx)
      · exact TxtOK_kx (by omega) (fun i i1 i2 => by rw [v5]; exact w5n i (by omega)) (by rw [v6]; exact w6n _ (by omega)) (i x hx)
    · -- one ACT more
      rw [vf] at g
      have hq5 : q.toInt.toNat ≤ 5 := by omega
      have hDq := (hD (12 + q.toInt.toNat) (by omega) (by omega)).1
      have s19 : ar V 19 (12 + q.toInt.toNat) = ar T 19 (12 + q.toInt.toNat) := by rw [h8 19 (by decide) _ (by omega), ea 19]
      have s20 : ar V 20 (12 + q.toInt.toNat) = ar T 20 (12 + q.toInt.toNat) := by rw [h8 20 (by decide) _ (by omega), ea 20]
      refine q_keepsAct V (6 * lN + q.toInt.toNat) (12 + q.toInt.toNat) _ _ _ (by rw [ma_6 (by omega) (by omega)]; omega) (by rw [ad_12 (by omega)]; omega) (by omega) (by omega) (by rw [s19, s20]; exact hDq.2) (fun W hW g8 g10 g12 => ?_)
      have W8 : ∀ j, j ∈ [8, 9, 19, 20] → ∀ i, i ≠ 6 * lN + q.toInt.toNat → ar W j i = ar V j i := fun j hj i hi => by rw [g8 j hj, upd_ne hi]
      have W8s : ∀ j, j ∈ [8, 9, 19, 20] → ar W j (6 * lN + q.toInt.toNat) = ar T j (12 + q.toInt.toNat) := fun j hj => by rw [g8 j hj, upd_at, h8 j hj _ (by omega), ea j]
      have W10s : ∀ j, j ∈ [10, 11] → ∀ p, p < 4 → ar W j (4 * (6 * lN + q.toInt.toNat) + p) = ar T j (4 * (12 + q.toInt.toNat) + p) := fun j hj p hp => by rw [(g10 j hj).1 p hp, h10 j hj _ (by omega), ea j]
      have W12s : ∀ j, j ∈ [12, 13, 14, 15, 16] → ∀ p, p < 6 → ar W j (6 * (6 * lN + q.toInt.toNat) + p) = ar T j (6 * (12 + q.toInt.toNat) + p) := fun j hj p hp => by rw [(g12 j hj).1 p hp, h12 j hj _ (by omega), ea j]
      have W5 : ar W 5 = ar K 5 := (hW.2.2.1 5 (by decide)).trans v5
      have sg : ∀ a b : Nat, (b : Int) ≤ nn T → Seg (sx T 13) a b 0 1 → Seg (sx W lN) a b 0 1 := by
        intro a b hb h
        refine Seg_cg (fun i _ hi => ?_) h
        show ar W 5 (1440 * lN + 2 * i) = ar T 5 (1440 * 13 + 2 * i)
        rw [W5, w5 _ (by rw [en]; omega), ea 5]
      have el : (6 * lN + q.toInt.toNat) / 6 = lN := by omega
      refine hk2 _ _ _ ⟨rfl, hV.tr hW, ⟨by rw [inc1 (by omega)]; omega, by rw [inc1 (by omega)]; omega⟩, fun j hj i hi => ?_, fun j hj i hi => ?_, fun j hj i hi => ?_, fun i hi => ?_⟩ (by rw [inc1 (by omega)]; omega)
      · rw [W8 j hj i (by omega)]; exact h8 j hj i hi
      · rw [(g10 j hj).2 i (by omega)]; exact h10 j hj i hi
      · rw [(g12 j hj).2 i (by omega)]; exact h12 j hj i hi
      · rw [inc1 (by omega)] at hi
        by_cases ei : i = q.toInt.toNat
        · rw [ei]
          refine ⟨?_, fun a ha => ?_⟩
          rotate_left
          · obtain ⟨-, f19, f20, ⟨f4, f6⟩, ⟨m8, mn⟩, m9, mm⟩ := hFA _ a ha
            have hsx : ∀ i : Nat, (i : Int) < 2 * nn T → sx W lN i = sx T 13 i := by
              intro i hi
              show ar W 5 (1440 * lN + i) = ar T 5 (18720 + i)
              rw [W5, w5 _ (by rw [en]; omega), ea 5]
            refine ⟨⟨by rw [W8s 19 (by decide)]; exact f19, by rw [W8s 20 (by decide)]; exact f20, f4, f6⟩, ⟨by rw [W8s 8 (by decide)]; exact m8, fun z y hy => ?_⟩, by rw [W8s 9 (by decide)]; exact m9, fun z y hy => ?_⟩
            · have hz := gt_lt hy
              obtain ⟨y1, y2⟩ := mn z y hy
              rw [el]
              have y3 := W10s 11 (by decide) z (by omega)
              exact ⟨NDx_cg y1 (W10s 10 (by decide) z (by omega)) y3 (fun i hi => hsx i (by omega)), by rw [y3]; omega⟩
            · have hz := gt_lt hy
              obtain ⟨y1, y2⟩ := mm z y hy
              rw [el]
              have y3 := W12s 16 (by decide) z (by omega)
              exact ⟨MKx_cg y1 (W12s 12 (by decide) z (by omega)) (W12s 13 (by decide) z (by omega)) (W12s 14 (by decide) z (by omega)) (W12s 15 (by decide) z (by omega)) y3 (fun i hi => hsx i (by omega)), by rw [y3]; omega⟩
          obtain ⟨⟨p1, p2, p3, p4⟩, p5, p6⟩ := hDq
          unfold ActOK
          rw [W8s 8 (by decide), W8s 9 (by decide)]
          refine ⟨p1, p2, fun z hz => ?_, fun z hz => ?_⟩
          · obtain ⟨⟨n1, n2, n3, n4⟩, n5⟩ := p3 z hz
            unfold NeedOK
            rw [W10s 10 (by decide) z (by omega), W10s 11 (by decide) z (by omega), el]
            exact ⟨n1, n2, n3, sg _ _ (by omega) n4⟩
          · obtain ⟨⟨m1, m2, m3, m4, m5⟩, m6⟩ := p4 z hz
            unfold MakeOK
            rw [W12s 12 (by decide) z (by omega), W12s 13 (by decide) z (by omega), W12s 14 (by decide) z (by omega), W12s 15 (by decide) z (by omega), W12s 16 (by decide) z (by omega), W8s 19 (by decide), W8s 20 (by decide), el]
            refine ⟨m1, fun gg => ?_, m3, m4, m5⟩
            obtain ⟨b1, b2, b3, b4⟩ := m2 gg
            have := m6 gg
            exact ⟨b1, b2, b3, sg _ _ (by omega) b4⟩
        · have k5w : ∀ u : Nat, 1440 * ((6 * lN + i) / 6) ≤ u → u < 1440 * ((6 * lN + i) / 6) + 1440 → ar W 5 u = ar V 5 u := by
            intro u _ _
            have : ar W 5 = ar V 5 := hW.2.2.1 5 (by decide)
            rw [this]
          have k8w : ∀ j, j ∈ [8, 9, 17, 18, 19, 20] → ar W j (6 * lN + i) = ar V j (6 * lN + i) := by
            intro j hj
            have hj2 : j ∈ [8, 9, 19, 20] ∨ j ∈ [17, 18] := by revert hj; revert j; decide
            rcases hj2 with q1 | q1
            · exact W8 j q1 _ (by omega)
            · have : ar W j = ar V j := hW.2.2.1 j (by revert q1; revert j; decide)
              rw [this]
          exact ⟨ActOK_kx k5w k8w (fun j hj u u1 u2 => (g10 j hj).2 u (by omega)) (fun j hj u u1 u2 => (g12 j hj).2 u (by omega)) (hA i (by omega)).1, fun a ha => MAx_kx k5w k8w (fun j hj u u1 u2 => (g10 j hj).2 u (by omega)) (fun j hj u u1 u2 => (g12 j hj).2 u (by omega)) ((hA i (by omega)).2 a ha)⟩
  refine ⟨fun g => b45 (fun q => absurd g q), fun gy => ⟨fun g => b45 (fun _ => g), fun gt => ?_⟩⟩
  obtain ⟨hLT, f, hf, hf6, hD⟩ := hI gy
  obtain ⟨j, n, rd, hzT, t6, hFA, hfr, hn8, hRES⟩ := hJ gy
  obtain ⟨n', rfl⟩ : ∃ n', n = n' + 1 := ⟨n - 1, by omega⟩
  have gk0 : (Z.1 j).toInt ≠ 0 := fun q => gt ((MZ_0 hzT).mpr q)
  refine q_anActE T f _ hLT hf hf6 hD Z Y j rd hzT (by omega) hFA (ypA4 Z (rd.map (fun a => a.1)) j) rfl (fun r T2 hK2 hr h2 hP2 => hk _ _ _ ⟨rfl, hr, KPx_tr hT hK2, fun g => ?_, fun g => ?_, fun g => ?_⟩ ?_)
  rotate_left
  · rcases hP2 with ⟨-, g4, gc, gz, g6, gF⟩ | ⟨q, -⟩
    · have e4 : ypA4 Z (rd.map (fun a => a.1)) j = ypAc Z (rd.map (fun a => a.1)) j := if_pos g4
      rw [e4] at gc gz gF
      obtain ⟨a, b, c, d, e⟩ := h2 g
      refine ⟨_, n', _, gz, g6.trans t6, gF, ?_, ?_, hRES.trans (ypSt_g g4 gc)⟩
      · rw [c, List.length_append]
        simp only [List.length_cons, List.length_nil]
        omega
      · rw [List.length_append]
        simp only [List.length_cons, List.length_nil]
        omega
    · rw [q] at g; exact absurd li_0 g
  · rcases hP2 with ⟨q, -⟩ | ⟨-, gB⟩
    · rw [q] at g; exact absurd g (by decide)
    · by_cases g4 : (Z.1 j).toInt = 4
      · have e4 : ypA4 Z (rd.map (fun a => a.1)) j = ypAc Z (rd.map (fun a => a.1)) j := if_pos g4
        rw [e4] at gB
        have er := hRES.trans (ypSt_b g4 gB.1)
        exact MB_c gB (by rw [er]) (by rw [er])
      · have e4 : ypA4 Z (rd.map (fun a => a.1)) j = (1, j, false, false, [], []) := if_neg g4
        rw [e4] at gB
        have er := hRES.trans (ypSt_1 gk0 g4)
        exact MB_c gB (by rw [er]) (by rw [er])
  rotate_left
  · obtain ⟨a, b, c, d, e⟩ := h2 g
    exact ⟨a, f + 1, c, d, e⟩
  · rw [if_neg gy]
    by_cases g : r.toInt = 0
    · rw [if_pos g]
      obtain ⟨a1, a2, a3, a4, -⟩ := hLT
      omega
    · rw [if_neg g]
      obtain ⟨a, b, c, d, e⟩ := h2 g
      obtain ⟨a1, a2, a3, a4, -⟩ := a
      omega
