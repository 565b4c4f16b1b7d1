theorem wyN_i {cu : List CuT} {g : SV} {c set : Int32} {a : AcT} {i : Nat} : wyN cu g c set a (some i) = (nI i, g) := rfl
set_option maxHeartbeats 2000000 in
theorem q_whyNotE (S : GS) (st : Int64) (c laws set : Int32) (post : Int32 → GS → Prop) (nv : List OL) (cu : List CuT) (ac : Nat → Option AcT) (g : SV) (hm : MIx S nv cu ac) (hG : GdL nv cu ac) (hc : 0 ≤ c.toInt ∧ c.toInt ≤ 767) (hPM : ∀ a, actO ac c laws = some a → ∀ w ∈ a.2.2.2.2, PM c w) (hGV : GV g) (hGW : GW g) (hst : st.toInt = pkI g) (hB : BR S) (hg0 : ∀ i, i = 0 ∨ i = 4 ∨ i = 8 → g (10 + i) = 0) (k : ∀ S', Fr [0, 18, 19, 20] [1] [0, 1, 2, 3, 4, 22, 24, 25] [] S S' → BR S' → ((wyO cu g c set (actO ac c laws)).1.toInt = -1 → (fl S' 1).toInt = pkI (wyO cu g c set (actO ac c laws)).2) → post (wyO cu g c set (actO ac c laws)).1 S') : w_X12_whyNot S st c laws set post := by
  unfold w_X12_whyNot
  refine q_isCodeE S c laws _ nv cu ac hm (fun i a h => (hG.2.2 i a h).1) hc (fun S2 hF2 hO => ⟨fun z => absurd li_0 z, fun _ => ?_⟩) (fun S2 a hF2 fa fb ft hO hMA hx11 => ⟨fun _ => ?_, fun z => absurd z (by decide)⟩)
  · have h9 := k S2 (hF2.wk (by decide)) (BR.fr hF2 (by decide) (by decide) hB)
    rw [hO] at h9
    exact h9 (fun z => absurd (show (30 : Int32).toInt = -1 from z) (by decide))
  have hPM2 := hPM a hO
  obtain ⟨-, ⟨fA3, -, -⟩, -⟩ := actO_s hO
  have hft := (actO_s hO).2.1
  have hGA := hG.2.2 _ a (actO_s hO).1
  rw [hO] at k
  clear hPM hO
  obtain ⟨rA, rB, rT⟩ := cd_r (c := c)
  have hne : (cdA c).toInt ≠ (cdB c).toInt := by
    intro q
    by_cases z : a.2.1.toInt = 0
    · have := hft.2.1.1 z; omega
    · exact (hft.2.1.2 z).2 q.symm
  have e64 : (c / 64).toInt = c.toInt / 64 := by
    simp (disch := omega) only [Int32.toInt_div, li_64, tdv, bm]
  have hx0 : 0 ≤ (c / 64).toInt := by omega
  generalize hxg : c / 64 = x at hMA hx11 hx0 e64 ⊢
  refine q_takesE S2 st _ g hGV hGW hst (fun S4 hF4 hR4 hD4 => ?_)
  have hF04 : Fr [0, 18, 19, 20] [] [0, 1, 2, 3, 4] [] S S4 := (hF2.wk (by decide) : Fr [0, 18, 19, 20] [] [0, 1, 2, 3, 4] [] S S2).tr (hF4.wk (by decide))
  have d4 : BR S4 := hD4 (BR.fr hF2 (by decide) (by decide) hB)
  have a4 : fi S4 18 = cdA c := (hF4.1 18 (by decide)).trans fa
  have b4 : fi S4 19 = cdB c := (hF4.1 19 (by decide)).trans fb
  have t4 : fi S4 20 = cdT c := (hF4.1 20 (by decide)).trans ft
  -- what holds while needs and cures are reckoned
  have fin : ∀ (T : GS) (r : Int32 × SV), wyN cu g c set a (ndI g (cdA c) (cdB c) (cdT c) a.2.2.2.1 0) = r → Fr [0, 18, 19, 20] [1] [0, 1, 2, 3, 4, 22, 24, 25] [] S T → BR T → (r.1.toInt = -1 → (fl T 1).toInt = pkI r.2) → post r.1 T := by
    intro T r hr h1 h2 h3
    subst hr
    exact k T h1 h2 h3
  have x6 : (x / 6).toInt = x.toInt / 6 := by
    simp (disch := omega) only [Int32.toInt_div, li_6, tdv, bm]
  have e6 : (x.toInt / 6).toNat = x.toInt.toNat / 6 := by omega
  obtain ⟨⟨m1, m2, m3, m4⟩, ⟨m5, m6⟩, m7⟩ := hMA
  -- the makes
  have b156 : ∀ T, Fr [] [] [22] [] S4 T → ndI g (cdA c) (cdB c) (cdT c) a.2.2.2.1 0 = none → cuI g (cdA c) (cdB c) (cdT c) (c / 64) set cu 0 = none → w_X12_whyNot_B156 post T x := by
    intro T hT hno hno2
    unfold w_X12_whyNot_B156
    have hWY : wyN cu g c set a (ndI g (cdA c) (cdB c) (cdT c) a.2.2.2.1 0) = wyB (mkA g c a.2.2.2.2 g) := by
      rw [hno]
      show wyC g c a (cuI g (cdA c) (cdB c) (cdT c) (c / 64) set cu 0) = _
      rw [hno2]
      all_goals rfl
    have hST : Fr [0, 18, 19, 20] [] [0, 1, 2, 3, 4, 22] [] S T := (hF04.wk (by decide) : Fr [0, 18, 19, 20] [] [0, 1, 2, 3, 4, 22] [] S S4).tr (hT.wk (by decide))
    have hGd : ∀ w ∈ a.2.2.2.2, GdM w ∧ PM c w := fun w hw => ⟨hGA.2.2 w hw, hPM2 w hw⟩
    have hMT : MAx T x.toInt.toNat a := by
      refine MAx_kx (S := S) (fun i _ _ => by rw [show ar T 5 = ar S 5 from hST.2.2.1 5 (by decide)]) (fun j hj => by rw [show ar T j = ar S j from hST.2.2.1 j (by revert hj; revert j; decide)]) (fun j hj i _ _ => by rw [show ar T j = ar S j from hST.2.2.1 j (by revert hj; revert j; decide)]) (fun j hj i _ _ => by rw [show ar T j = ar S j from hST.2.2.1 j (by revert hj; revert j; decide)]) ⟨⟨m1, m2, m3, m4⟩, ⟨m5, m6⟩, m7⟩
    have hRT : RS T g := RS_cg hR4 (hT.1 0 (by decide)) (fun j hj => hT.2.2.1 j (by revert hj; revert j; decide))
    have hDT : BR T := BR.fr hT (by decide) (by decide) d4
    refine q_makesE T x _ g c a ⟨hx0, hx11⟩ hMT hGd hRT hGV hDT hg0 ((hT.1 18 (by decide)).trans a4) ((hT.1 19 (by decide)).trans b4) ((hT.1 20 (by decide)).trans t4) hne (fun U hU hB => ⟨fun z => absurd li_0 z, fun _ => ?_⟩) (fun U hU hB hRU hDU => ⟨fun _ => ?_, fun z => absurd z (by decide)⟩)
    · refine fin U (20, mkA g c a.2.2.2.2 g) (by rw [hWY, wyB_n hB]) ((hST.wk (by decide) : Fr [0, 18, 19, 20] [1] [0, 1, 2, 3, 4, 22, 24, 25] [] S T).tr (hU.wk (by decide))) (BR.fr hU (by decide) (by decide) hDT) (fun z => absurd z (show ¬ (20 : Int32).toInt = -1 from by decide))
    · obtain ⟨hG1, hG2⟩ := GV_of (TV_mkA (now := g) (c := c) (l := a.2.2.2.2) (fun w hw => ⟨hPM2 w hw, hGA.2.2 w hw⟩) (TV_of hGV hGW)) hB
      refine q_packsE U _ _ hRU hG1 (fun v hv => ?_)
      refine fin (sl U 1 v) (-1, mkA g c a.2.2.2.2 g) (by rw [hWY, wyB_y hB]) (Fr.sl (by decide) ((hST.wk (by decide) : Fr [0, 18, 19, 20] [1] [0, 1, 2, 3, 4, 22, 24, 25] [] S T).tr (hU.wk (by decide)))) (BR.sl hDU) (fun _ => ?_)
      rw [show fl (sl U 1 v) 1 = v from sl_at _ _ _]
      exact hv
  -- the cures
  have b85 : ∀ T, Fr [] [] [22] [] S4 T → ndI g (cdA c) (cdB c) (cdT c) a.2.2.2.1 0 = none → w_X12_whyNot_B85 post T set x := by
    intro T hT hno
    unfold w_X12_whyNot_B85
    obtain ⟨-, ⟨hcn, hc5, hcu⟩, -⟩ := hm
    refine lr4 (fun (U : GS) (s' x' j : Int32) => s' = set ∧ x' = x ∧ Fr [] [] [22] [] S4 U ∧ ∃ (n : Nat) (rest : List CuT), j = nI n ∧ n + rest.length = cu.length ∧ (∀ (t : Nat) (w : CuT), rest[t]? = some w → cu[n + t]? = some w) ∧ cuI g (cdA c) (cdB c) (cdT c) (c / 64) set rest n = cuI g (cdA c) (cdB c) (cdT c) (c / 64) set cu 0) (fun _ _ _ j => (10 - j.toInt).toNat) ?_ _ _ _ _ ⟨rfl, rfl, hT, 0, cu, rfl, Nat.zero_add _, fun t w h => (by rw [Nat.zero_add]; exact h), rfl⟩
    rintro kk U s' x' j ⟨rfl, rfl, hU, n, rest, rfl, hlen, hrest, hcI⟩ hk
    unfold w_X12_whyNot_F88 w_X12_whyNot_B150
    have hSU : Fr [0, 18, 19, 20] [] [0, 1, 2, 3, 4, 22] [] S U := (hF04.wk (by decide) : Fr [0, 18, 19, 20] [] [0, 1, 2, 3, 4, 22] [] S S4).tr (hU.wk (by decide))
    have xn : (nI n).toInt = (n : Int) := nI_toInt (by omega)
    have u17 : fi U 17 = fi S 17 := hSU.1 17 (by decide)
    have u23 : ar U 23 = ar S 23 := hSU.2.2.1 23 (by decide)
    have u6 : ar U 6 = ar S 6 := hSU.2.2.1 6 (by decide)
    have u5 : ar U 5 = ar S 5 := hSU.2.2.1 5 (by decide)
    rw [u17, hcn, xn]
    refine ⟨fun hge => ?_, fun hlt => ?_⟩
    · rcases rest with _ | ⟨w, rest⟩
      · exact b156 U hU hno hcI.symm
      · simp only [List.length_cons] at hlen
        exfalso; omega
    rcases rest with _ | ⟨w, rest⟩
    · simp only [List.length_nil] at hlen
      exfalso; omega
    simp only [List.length_cons] at hlen
    have hw0 : cu[n]? = some w := hrest 0 w rfl
    have hwm : w ∈ cu := List.mem_of_getElem? hw0
    obtain ⟨h23, hT6, hT720, hTR⟩ := hcu n w hw0
    have nn : (nI n).toNatClampNeg = n := by rw [tnc, xn]; omega
    have go : ∀ V, Fr [] [] [22] [] S4 V → ¬ (((s' >>> (nI n &&& 31)) &&& 1).toInt = 1 ∧ w.1.toInt = (c / 64).toInt ∧ (rkV g (cdA c) (cdB c) (cdT c) w.2).toInt = 0) → kk V s' x' (nI n + 1) := by
      intro V hV hnot
      have hs : cuI g (cdA c) (cdB c) (cdT c) (c / 64) s' (w :: rest) n = cuI g (cdA c) (cdB c) (cdT c) (c / 64) s' rest (n + 1) := if_neg hnot
      refine hk _ _ _ _ ⟨rfl, rfl, hV, n + 1, rest, nI_inc (by omega), by omega, fun t w' h => ?_, hs.symm.trans hcI⟩ ?_
      · have h5 := hrest (t + 1) w' h
        have e5 : n + 1 + t = n + (t + 1) := by omega
        rw [e5]; exact h5
      · rw [nI_inc (by omega), nI_toInt (by omega), xn]
        omega
    refine ⟨fun hb => go U hU (fun z => hb z.1), fun hb => ⟨by omega, ?_⟩⟩
    rw [u23, nn, h23]
    refine ⟨fun hx => go U hU (fun z => hx (by rw [← hxg]; exact z.2.1)), fun hx => ?_⟩
    have e8 : ((8 : Int32) + nI n).toInt = 8 + (n : Int) := by
      have h8 : ((8 : Int32)).toInt = 8 := by decide
      rw [ad_ab (by rw [h8]; omega) (by rw [h8]; omega), h8, xn]
    have n8 : ((8 : Int32) + nI n).toNatClampNeg = 8 + n := by rw [tnc, e8]; omega
    have i8 : ((8 : Int32) + nI n).toInt.toNat = 8 + n := by rw [e8]; omega
    have hGB := hG.2.1 w hwm
    rw [e8, n8, u6]
    refine ⟨by omega, q_comesToE U _ _ _ _ w.2 g (cdA c) (cdB c) (cdT c) true (by rw [e8]; omega) (by decide) ⟨by rw [hT6, li_0]; omega, by rw [hT6]; omega⟩ ?_ (RS_cg hR4 (hU.1 0 (by decide)) (fun j hj => hU.2.2.1 j (by revert hj; revert j; decide))) hGV ((hU.1 18 (by decide)).trans a4) ((hU.1 19 (by decide)).trans b4) ((hU.1 20 (by decide)).trans t4) rA rB rT hne hGB (fun V hV => ?_)⟩
    · rw [i8]
      have z0 : (0 : Int32).toInt.toNat = 0 := by decide
      rw [z0]
      refine RTx_cg hTR (fun i _ => ?_)
      unfold sx
      rw [u5]
    have hV2 : Fr [] [] [22] [] S4 V := hU.tr hV
    have hv01 := GdB_v (g := g) (a := cdA c) (b := cdB c) (t := cdT c) hGB
    refine ⟨fun hz => go V hV2 (fun z => by rw [z.2.2] at hz; exact absurd hz (by decide)), fun hz => ?_⟩
    have hz0 : (rkV g (cdA c) (cdB c) (cdT c) w.2).toInt = 0 := by
      rcases hv01 with q | q
      · rw [q]; decide
      · exfalso; apply hz; rw [q]; decide
    have hs : cuI g (cdA c) (cdB c) (cdT c) (c / 64) s' (w :: rest) n = some n := if_pos ⟨hb, by rw [hxg]; exact hx, hz0⟩
    refine fin V ((10 : Int32) + nI n, g) ?_ ((hF04.wk (by decide) : Fr [0, 18, 19, 20] [1] [0, 1, 2, 3, 4, 22, 24, 25] [] S S4).tr (hV2.wk (by decide))) (BR.fr hV2 (by decide) (by decide) d4) (fun z => ?_)
    · rw [hno]
      show wyC g c a (cuI g (cdA c) (cdB c) (cdT c) (c / 64) s' cu 0) = _
      rw [← hcI, hs]
      all_goals rfl
    · exfalso
      have e10 : ((10 : Int32) + nI n).toInt = 10 + (n : Int) := by
        rw [ad_ab (by rw [li_10]; omega) (by rw [li_10]; omega), li_10, xn]
      have z2 : ((10 : Int32) + nI n).toInt = -1 := z
      omega
  -- the needs
  refine lr4 (fun (U : GS) (s' x' j : Int32) => s' = set ∧ x' = x ∧ Fr [] [] [22] [] S4 U ∧ ∃ (n : Nat) (rest : List OL), j = nI n ∧ n + rest.length = a.2.2.2.1.length ∧ (∀ (t : Nat) (w : OL), rest[t]? = some w → a.2.2.2.1[n + t]? = some w) ∧ ndI g (cdA c) (cdB c) (cdT c) rest n = ndI g (cdA c) (cdB c) (cdT c) a.2.2.2.1 0) (fun _ _ _ j => (10 - j.toInt).toNat) ?_ _ _ _ _ ⟨rfl, rfl, Fr.rf, 0, a.2.2.2.1, rfl, Nat.zero_add _, fun t w h => (by rw [Nat.zero_add]; exact h), rfl⟩
  rintro kk U s' x' j ⟨rfl, rfl, hU, n, rest, rfl, hlen, hrest, hnI⟩ hk
  unfold w_X12_whyNot_F27
  have hSU : Fr [0, 18, 19, 20] [] [0, 1, 2, 3, 4, 22] [] S U := (hF04.wk (by decide) : Fr [0, 18, 19, 20] [] [0, 1, 2, 3, 4, 22] [] S S4).tr (hU.wk (by decide))
  have xn : (nI n).toInt = (n : Int) := nI_toInt (by omega)
  have u8 : ar U 8 = ar S 8 := hSU.2.2.1 8 (by decide)
  have u10 : ar U 10 = ar S 10 := hSU.2.2.1 10 (by decide)
  have u11 : ar U 11 = ar S 11 := hSU.2.2.1 11 (by decide)
  have u5 : ar U 5 = ar S 5 := hSU.2.2.1 5 (by decide)
  rw [u8, tnc, m5, xn]
  refine ⟨by omega, fun hge => ?_, fun hlt => ?_⟩
  · rcases rest with _ | ⟨w, rest⟩
    · exact b85 U hU hnI.symm
    · simp only [List.length_cons] at hlen
      exfalso; omega
  rcases rest with _ | ⟨w, rest⟩
  · simp only [List.length_nil] at hlen
    exfalso; omega
  simp only [List.length_cons] at hlen
  have hw0 : a.2.2.2.1[n]? = some w := hrest 0 w rfl
  have hwm : w ∈ a.2.2.2.1 := List.mem_of_getElem? hw0
  obtain ⟨⟨lo, l10, l11, lR⟩, l720⟩ := m6 n w hw0
  have hGB := hGA.2.1 w hwm
  have em4 : ((4 : Int32) * x' + nI n).toInt = 4 * x'.toInt + (n : Int) := by
    have h4 : ((4 : Int32)).toInt = 4 := by decide
    have h5 : ((4 : Int32) * x').toInt = 4 * x'.toInt := by
      simp (disch := omega) only [Int32.toInt_mul, li_4, bm]
    rw [ad_ab (by rw [h5]; omega) (by rw [h5]; omega), h5, xn]
  have em : ((4 : Int32) * x' + nI n).toNatClampNeg = 4 * x'.toInt.toNat + n := by rw [tnc, em4]; omega
  rw [em, em4, u10, u11]
  refine ⟨by omega, by omega, q_comesToE U _ _ _ _ w g (cdA c) (cdB c) (cdT c) true (by rw [x6]; omega) (by omega) ⟨by omega, by omega⟩ ?_ (RS_cg hR4 (hU.1 0 (by decide)) (fun j hj => hU.2.2.1 j (by revert hj; revert j; decide))) hGV ((hU.1 18 (by decide)).trans a4) ((hU.1 19 (by decide)).trans b4) ((hU.1 20 (by decide)).trans t4) rA rB rT hne hGB (fun V hV => ?_)⟩
  · rw [x6, e6]
    have el : (ar S 10 (4 * x'.toInt.toNat + n)).toInt.toNat = lo := by omega
    rw [el]
    refine RTx_cg lR (fun i _ => ?_)
    unfold sx
    rw [u5]
  have hV2 : Fr [] [] [22] [] S4 V := hU.tr hV
  have hv01 := GdB_v (g := g) (a := cdA c) (b := cdB c) (t := cdT c) hGB
  refine ⟨fun hz => ?_, fun hz => ?_⟩
  · have hs : ndI g (cdA c) (cdB c) (cdT c) (w :: rest) n = ndI g (cdA c) (cdB c) (cdT c) rest (n + 1) := if_neg (fun z => by rw [z] at hz; exact absurd hz (by decide))
    refine hk _ _ _ _ ⟨rfl, rfl, hV2, n + 1, rest, nI_inc (by omega), by omega, fun t w' h => ?_, hs.symm.trans hnI⟩ ?_
    · have h5 := hrest (t + 1) w' h
      have e5 : n + 1 + t = n + (t + 1) := by omega
      rw [e5]; exact h5
    · rw [nI_inc (by omega), nI_toInt (by omega), xn]
      omega
  · have hz0 : (rkV g (cdA c) (cdB c) (cdT c) w).toInt = 0 := by
      rcases hv01 with q | q
      · rw [q]; decide
      · exfalso; apply hz; rw [q]; decide
    have hs : ndI g (cdA c) (cdB c) (cdT c) (w :: rest) n = some n := if_pos hz0
    refine fin V (nI n, g) ?_ ((hF04.wk (by decide) : Fr [0, 18, 19, 20] [1] [0, 1, 2, 3, 4, 22, 24, 25] [] S S4).tr (hV2.wk (by decide))) (BR.fr hV2 (by decide) (by decide) d4) (fun z => ?_)
    · rw [← hnI, hs]
      rfl
    · exfalso
      have z2 : (nI n).toInt = -1 := z
      omega
theorem wyO_diag {nv : List OL} {cu : List CuT} {ac : Nat → Option AcT} {g : SV} {c set laws : Int32} {i : Nat} (hG : GdL nv cu ac) (hPM : ∀ a, actO ac c laws = some a → ∀ w ∈ a.2.2.2.2, PM c w) (hi : i = 0 ∨ i = 4 ∨ i = 8) : (wyO cu g c set (actO ac c laws)).2 (10 + i) = g (10 + i) := by
  cases hO : actO ac c laws with
  | none => rfl
  | some a =>
    have hGA := hG.2.2 _ a (actO_s hO).1
    have hP := hPM a hO
    show (wyN cu g c set a (ndI g (cdA c) (cdB c) (cdT c) a.2.2.2.1 0)).2 (10 + i) = _
    cases ndI g (cdA c) (cdB c) (cdT c) a.2.2.2.1 0 with
    | some j => rfl
    | none =>
      show (wyC g c a (cuI g (cdA c) (cdB c) (cdT c) (c / 64) set cu 0)).2 (10 + i) = _
      cases cuI g (cdA c) (cdB c) (cdT c) (c / 64) set cu 0 with
      | some j => rfl
      | none =>
        show (wyB (mkA g c a.2.2.2.2 g)).2 (10 + i) = _
        have h := mkA_diag (now := g) (c := c) (l := a.2.2.2.2) (g := g) (fun w hw => ⟨hGA.2.2 w hw, hP w hw⟩) hi
        by_cases hB : inB (mkA g c a.2.2.2.2 g)
        · rw [wyB_y hB]; exact h
        · rw [wyB_n hB]; exact h
set_option maxHeartbeats 2000000 in
theorem q_goesE (S : GS) (r laws set : Int32) (post : Int32 → GS → Prop) (nv : List OL) (cu : List CuT) (ac : Nat → Option AcT) (g : SV) (cs : List Int32) (hr : 0 ≤ r.toInt ∧ r.toInt < 6) (hm : MIx S nv cu ac) (hG : GdL nv cu ac) (hGV : GV g) (hGW : GW g) (hst : (fl S 0).toInt = pkI g) (hB : BR S) (hg0 : ∀ i, i = 0 ∨ i = 4 ∨ i = 8 → g (10 + i) = 0) (hl : ar S 38 r.toInt.toNat = nI cs.length) (hl2 : cs.length ≤ 12) (hcs : ∀ (t : Nat) (c : Int32), cs[t]? = some c → ar S 37 (12 * r.toInt.toNat + t) = c ∧ (0 ≤ c.toInt ∧ c.toInt ≤ 767)) (hPM : ∀ c a, (0 ≤ c.toInt ∧ c.toInt ≤ 767) → actO ac c laws = some a → ∀ w ∈ a.2.2.2.2, PM c w) (k : ∀ S', Fr [0, 18, 19, 20, 24] [1, 2] [0, 1, 2, 3, 4, 22, 24, 25] [] S S' → BR S' → fi S' 24 = (flO cu ac laws set cs 0 g).2.1 → (fl S' 2).toInt = pkI (flO cu ac laws set cs 0 g).2.2 → GV (flO cu ac laws set cs 0 g).2.2 → GW (flO cu ac laws set cs 0 g).2.2 → post (flO cu ac laws set cs 0 g).1 S') : w_X12_goes S r laws set post := by
  unfold w_X12_goes
  have hn : (nI cs.length).toInt = (cs.length : Int) := nI_toInt (by omega)
  refine lr5 (fun (T : GS) (r' l' s' j : Int32) => r' = r ∧ l' = laws ∧ s' = set ∧ Fr [0, 18, 19, 20, 24] [1, 2] [0, 1, 2, 3, 4, 22, 24, 25] [] S T ∧ BR T ∧ fi T 24 = -1 ∧ ∃ (n : Nat) (rest : List Int32) (gg : SV), j = nI n ∧ n + rest.length = cs.length ∧ (∀ (t : Nat) (c : Int32), rest[t]? = some c → cs[n + t]? = some c) ∧ (fl T 2).toInt = pkI gg ∧ GV gg ∧ GW gg ∧ (∀ i, i = 0 ∨ i = 4 ∨ i = 8 → gg (10 + i) = 0) ∧ flO cu ac laws set rest n gg = flO cu ac laws set cs 0 g) (fun _ _ _ _ j => (13 - j.toInt).toNat) ?_ _ _ _ _ _ ⟨rfl, rfl, rfl, Fr.si (by decide) (Fr.sl (by decide) Fr.rf), BR.si (BR.sl hB), si_at _ _ _, 0, cs, g, rfl, Nat.zero_add _, fun t c h => (by rw [Nat.zero_add]; exact h), ?_, hGV, hGW, hg0, rfl⟩
  rotate_left
  · have e : fl (si (sl S 2 (fl S 0)) 24 (-1)) 2 = fl S 0 := sl_at _ _ _
    rw [e]; exact hst
  rintro kk T r' l' s' j ⟨rfl, rfl, rfl, hT, hDT, h24, n, rest, gg, rfl, hlen, hrest, hst2, hV2, hW2, hgd, hfl⟩ hk
  unfold w_X12_goes_F16 w_X12_goes_B78
  have xn : (nI n).toInt = (n : Int) := nI_toInt (by omega)
  have t38 : ar T 38 = ar S 38 := hT.2.2.1 38 (by decide)
  have t37 : ar T 37 = ar S 37 := hT.2.2.1 37 (by decide)
  rw [t38, t37, tnc, hl, hn, xn]
  refine ⟨by omega, fun hge => ⟨by omega, ?_⟩, fun hlt => ?_⟩
  · rcases rest with _ | ⟨c, rest⟩
    · have hf : flO cu ac l' s' cs 0 g = (nI n, -1, gg) := hfl.symm
      rw [hf] at k
      have en : n = cs.length := by simpa using hlen
      rw [← en]
      exact k T hT hDT h24 hst2 hV2 hW2
    · simp only [List.length_cons] at hlen
      exfalso; omega
  rcases rest with _ | ⟨c, rest⟩
  · simp only [List.length_nil] at hlen
    exfalso; omega
  simp only [List.length_cons] at hlen
  have hc0 := hrest 0 c rfl
  obtain ⟨ha, hcr⟩ := hcs n c hc0
  have e12 : ((12 : Int32) * r' + nI n).toInt = 12 * r'.toInt + (n : Int) := by
    have h12 : ((12 : Int32)).toInt = 12 := by decide
    have h5 : ((12 : Int32) * r').toInt = 12 * r'.toInt := by
      simp (disch := omega) only [Int32.toInt_mul, li_12, bm]
    rw [ad_ab (by rw [h5]; omega) (by rw [h5]; omega), h5, xn]
  have em : ((12 : Int32) * r' + nI n).toNatClampNeg = 12 * r'.toInt.toNat + n := by rw [tnc, e12]; omega
  rw [em, e12, ha]
  have hmT : MIx T nv cu ac := MIx_fr hm hT (by decide) (by decide)
  refine ⟨by omega, q_whyNotE T (fl T 2) c l' s' _ nv cu ac gg hmT hG hcr (fun a h => hPM c a hcr h) hV2 hW2 hst2 hDT hgd (fun U hU hDU h1U => ?_)⟩
  have hSU : Fr [0, 18, 19, 20, 24] [1, 2] [0, 1, 2, 3, 4, 22, 24, 25] [] S U := hT.tr (hU.wk (by decide))
  refine ⟨fun hz => ?_, fun hz => ?_⟩
  · obtain ⟨v1, v2⟩ := wy_GV hG hV2 hW2 (fun a h => hPM c a hcr h) hz
    refine hk _ _ _ _ _ ⟨rfl, rfl, rfl, Fr.sl (by decide) (Fr.si (by decide) hSU), BR.sl (BR.si hDU), ?_, n + 1, rest, _, nI_inc (by omega), by omega, fun t c' h => ?_, ?_, v1, v2, fun i hi => ?_, (flO_y hz).symm.trans hfl⟩ ?_
    · have e : fi (sl (si U 24 (wyO cu gg c s' (actO ac c l')).1) 2 (fl U 1)) 24 = (wyO cu gg c s' (actO ac c l')).1 := si_at U 24 (wyO cu gg c s' (actO ac c l')).1
      rw [e]
      exact i_eq (by rw [hz]; decide)
    · have h5 := hrest (t + 1) c' h
      have e5 : n + 1 + t = n + (t + 1) := by omega
      rw [e5]; exact h5
    · have e : fl (sl (si U 24 (wyO cu gg c s' (actO ac c l')).1) 2 (fl U 1)) 2 = fl U 1 := sl_at _ _ _
      rw [e]; exact h1U hz
    · rw [wyO_diag hG (fun a h => hPM c a hcr h) hi, hgd i hi]
    · rw [nI_inc (by omega), nI_toInt (by omega), xn]
      omega
  · have hf : flO cu ac l' s' cs 0 g = (nI n, (wyO cu gg c s' (actO ac c l')).1, gg) := hfl.symm.trans (flO_n hz)
    rw [hf] at k
    refine k _ (Fr.si (by decide) hSU) (BR.si hDU) (si_at _ _ _) ?_ hV2 hW2
    · have e : fl (si U 24 (wyO cu gg c s' (actO ac c l')).1) 2 = fl T 2 := hU.2.1 2 (by decide)
      rw [e]; exact hst2
