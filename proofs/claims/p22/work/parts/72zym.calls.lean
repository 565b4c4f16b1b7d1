theorem GV_AGR {f g : SV} (h : AGR f g) (hg : GV g) : GV f := by
  obtain ⟨h1, h2, h3, h4⟩ := hg
  refine ⟨fun p hp => ?_, fun k hk => ?_, fun t ht => ?_, ?_⟩
  · rw [h p (by omega)]; exact h1 p hp
  · rw [h _ (by omega), h (20 + k) (by omega), h (30 + k) (by omega)]; exact h2 k hk
  · rw [h _ (by omega)]; exact h3 t ht
  · rw [h 50 (by decide)]; exact h4
theorem GW_AGR {f g : SV} (h : AGR f g) (hg : GW g) : GW f := fun p q hp hq => by
  rw [h _ (by omega), h (20 + (3 * q + p)) (by omega)]
  exact hg p q hp hq
theorem SQ_CW {S : KS} {cu : List CuT} {ac : Nat → Option AcT} {g : SV} {n : Nat} (h : CWx S cu ac g n) : SQ S := by
  have hn := CWx_n h
  obtain ⟨h1, h2, ⟨h3, h4, -⟩, h5, -⟩ := h
  have hl := cdL_l (ac := ac) (laws := fi S.1 27) (ps := fi S.1 29)
  exact ⟨by omega, by omega, by omega⟩
/-- what a call of the SEARCH's needs to know of the class -/
def CX (cy : Nat → ClassId) (S : KS) (nv : List OL) (cu : List CuT) (ac : Nat → Option AcT) : Prop := HQx cy S nv cu ac ∧ GdL nv cu ac ∧ CJx S cu ac ∧ (GV (ar S.1 1) ∧ GW (ar S.1 1)) ∧ (∀ laws c a, (0 ≤ c.toInt ∧ c.toInt ≤ 767) → actO ac c laws = some a → ∀ w ∈ a.2.2.2.2, PM c w) ∧ SQ S
/-- and what it leaves -/
def CQ (S S' : KS) (cu : List CuT) (ac : Nat → Option AcT) : Prop := KQs S S' ∧ ar S'.1 1 = ar S.1 1 ∧ CJx S' cu ac ∧ SQ S' ∧ (∀ k, 1 ≤ k → k ≤ 14 → fi S'.1 k = fi S.1 k) ∧ ∀ j, 6 ≤ j → j ≤ 12 → ar S'.1 j = ar S.1 j
theorem CQ_rf {cy : Nat → ClassId} {S : KS} {nv : List OL} {cu : List CuT} {ac : Nat → Option AcT} (h : CX cy S nv cu ac) : CQ S S cu ac := ⟨KF_rf S, rfl, h.2.2.1, h.2.2.2.2.2, fun _ _ _ => rfl, fun _ _ _ => rfl⟩
theorem CQ_tr {S T U : KS} {cu : List CuT} {ac : Nat → Option AcT} (h : CQ S T cu ac) (g : CQ T U cu ac) : CQ S U cu ac := ⟨KF_tr h.1 g.1, g.2.1.trans h.2.1, g.2.2.1, g.2.2.2.1, fun k h1 h2 => (g.2.2.2.2.1 k h1 h2).trans (h.2.2.2.2.1 k h1 h2), fun j h1 h2 => (g.2.2.2.2.2 j h1 h2).trans (h.2.2.2.2.2 j h1 h2)⟩
theorem CX_q {cy : Nat → ClassId} {S S' : KS} {nv : List OL} {cu : List CuT} {ac : Nat → Option AcT} (h : CX cy S nv cu ac) (g : CQ S S' cu ac) : CX cy S' nv cu ac := by
  obtain ⟨h1, h2, h3, h4, h5, h6⟩ := h
  exact ⟨HQx_kf h1 g.1, h2, g.2.2.1, by rw [g.2.1]; exact h4, h5, g.2.2.2.1⟩
theorem kf_612s {I A N : List Nat} {S S' : KS} (f : Fr I [] A N S.1 S'.1) (h : ∀ x ∈ A, x < 6 ∨ 12 < x) : ∀ j, 6 ≤ j → j ≤ 12 → ar S'.1 j = ar S.1 j := fun j h1 h2 => f.2.2.1 j (fun hk => by have := h j hk; omega)
theorem kf_14s {I A N : List Nat} {S S' : KS} (f : Fr I [] A N S.1 S'.1) (h : ∀ x ∈ I, x = 0 ∨ 15 ≤ x) : ∀ k, 1 ≤ k → k ≤ 14 → fi S'.1 k = fi S.1 k := fun k h1 h2 => f.1 k (fun hk => by have := h k hk; omega)
theorem KB_CQ {S S' : KS} {cu : List CuT} {ac : Nat → Option AcT} {n : Nat} (h : KB S S') (h5 : JZ (ar S'.1 5)) (hW : CWx S' cu ac (cz (ar S.1 1)) n) : CQ S S' cu ac := by
  have e1 : ar S'.1 1 = ar S.1 1 := h.1.2.2.1 1 (by decide)
  exact ⟨KF_wk h (by decide), e1, ⟨h5, fun _ => ⟨n, by rw [e1]; exact hW⟩⟩, SQ_CW hW, kf_14s h.1 (by decide), kf_612s h.1 (by decide)⟩
/-- the whole of a SEARCH -/
abbrev bsW (cu : List CuT) (ac : Nat → Option AcT) (laws ps set d : Int32) (g : SV) : BS := bsF cu ac laws set (cdL ac laws ps 768) d.toInt g
set_option maxHeartbeats 400000 in
theorem r_8_bfE (cy : Nat → ClassId) (tE : Nat) (S : KS) (a b c d x : Int32) (post : Int32 → KS → Prop) (nv : List OL) (cu : List CuT) (ac : Nat → Option AcT) (l : OL) (hX : CX cy S nv cu ac) (hx : 0 ≤ x.toInt) (hl : nv[x.toInt.toNat]? = some l) (k : ∀ r S', CQ S S' cu ac → r.toInt = fsI (nvB l) (bsW cu ac a c d b (cz (ar S.1 1))).1 0 → (r.toInt = -1 → ((fi S'.1 34).toInt ≠ 0 → (bsW cu ac a c d b (cz (ar S.1 1))).2 = true) ∧ ((fi S'.1 34).toInt = 0 → (bsW cu ac a c d b (cz (ar S.1 1))).2 = false)) → post r S') : w_X8_begin cy tE S a b c d (fun S2 => w_X8_first cy tE S2 x post) := by
  obtain ⟨h1, h2, h3, h4, h5, h6⟩ := id hX
  refine r_8_beginE cy tE S a b c d _ nv cu ac h1 h2 h3 h4.1 h4.2 (fun T n hT eT1 hT5 e27 e28 e29 e30 hW => ?_)
  have eF : BNF T cu ac (cz (ar S.1 1)) = bsW cu ac a c d b (cz (ar S.1 1)) := by
    unfold BNF bsW
    rw [e27, e28, e29, e30]
  refine r_8_firstE cy tE T x _ nv cu ac (cz (ar S.1 1)) n l (HQx_kf h1 hT) h2 hW hT5 (fun c' a' => h5 _ c' a') hx hl (fun r U n' hU hWU hU5 hr hd => ?_)
  rw [eF] at hr hd
  refine k r U (KB_CQ (KF_tr hT (KF_wk hU (by decide))) hU5 hWU) hr (fun z => ?_)
  rw [hd z]
  exact CSr_t hWU.2.2.1
theorem r_11_isNeverE (cy : Nat → ClassId) (tE : Nat) (S : KS) (x : Int32) (post : Int32 → KS → Prop) (nv : List OL) (cu : List CuT) (ac : Nat → Option AcT) (hH : HQx cy S nv cu ac) (k0 : ¬ (0 ≤ x.toInt ∧ x.toInt < (nv.length : Int)) → post 0 S) (k1 : ∀ l, (0 ≤ x.toInt ∧ x.toInt < (nv.length : Int)) → nv[x.toInt.toNat]? = some l → post 1 S) : w_X11_isNever cy tE S x post := by
  obtain ⟨A, h3, hN, -, -⟩ := id hH
  obtain ⟨i2, m2, e2, n2, hc2, hn2, hl2, -⟩ := LSx_n hN
  unfold w_X11_isNever w_X11_isNever_B22 w_X11_isNever_B23
  refine ⟨fun h => ⟨Or.inl rfl, k0 (by omega)⟩, fun h => ⟨i2, _, hc2, r_size cy tE S _ i2 m2 n2 (.ref e2) _ hc2 ⟨fun h2 => ⟨Or.inl rfl, k0 (by omega)⟩, fun h2 => ⟨Or.inr rfl, ?_⟩⟩⟩⟩
  have hlt : x.toInt.toNat < nv.length := by omega
  exact k1 _ (by omega) (List.getElem?_eq_getElem hlt)
/-- a STATE looked at again -/
theorem r_8_loadJ (cy : Nat → ClassId) (tE : Nat) (S : KS) (x : Int32) (post : KS → Prop) (L : BS) (hL : CSr S L) (h5 : JZ (ar S.1 5)) (k : ∀ S', KF [] [5] [] S S' → JZ (ar S'.1 5) → post S') : w_X8_load cy tE S x post := by
  unfold w_X8_load w_X8_load_B25
  obtain ⟨l33, l400, lE, -, -⟩ := hL
  refine ⟨fun _ => k S (KF_rf S) h5, fun h0 => ⟨fun _ => k S (KF_rf S) h5, fun h1 => ⟨by omega, ?_⟩⟩⟩
  have hlt : x.toInt.toNat < L.1.length := by omega
  obtain ⟨a1, -, a3⟩ := lE x.toInt.toNat _ (List.getElem?_eq_getElem hlt)
  have xN : x.toNatClampNeg = x.toInt.toNat := tnc x
  rw [xN]
  refine r_9_unpackE cy tE S _ _ _ a3.1 a1 (fun V f4 x4 j4 q4 => k V ?_ (fun i hi hm => (j4 i hi hm).trans (h5 i hi hm)))
  refine ⟨f4, by rw [x4], fun _ _ => by rw [x4], fun q => by rw [x4]; exact q, fun q => ?_⟩
  unfold FLG fi at *
  rw [f4.1 17 (by decide), f4.1 18 (by decide)]
  exact q
theorem CSr_5 {I A M : List Nat} {S S' : KS} {L : BS} (h : CSr S L) (f : KF I A M S S') (c : 33 ∉ I ∧ 34 ∉ I ∧ 17 ∉ A ∧ 20 ∉ A ∧ 2 ∉ M) : CSr S' L := CSr_cg h (f.1.1 33 c.1) (f.1.1 34 c.2.1) (f.1.2.2.1 17 c.2.2.1) (f.1.2.2.1 20 c.2.2.2.1) (f.1.2.2.2 2 c.2.2.2.2)
theorem r_8_wealthJ (cy : Nat → ClassId) (tE : Nat) (S : KS) (x p : Int32) (post : Int32 → KS → Prop) (L : BS) (hL : CSr S L) (h5 : JZ (ar S.1 5)) (k : ∀ r S', KF [] [5] [] S S' → JZ (ar S'.1 5) → post r S') : w_X8_wealth cy tE S x p post := by
  unfold w_X8_wealth
  refine r_8_loadJ cy tE S _ _ L hL h5 (fun T hT hT5 => r_9_get _ _ _ _ _ _ (by decide) (fun r => ?_))
  refine lr4 (fun (U : KS) (_ _ q : Int32) => U = T ∧ 0 ≤ q.toInt ∧ q.toInt ≤ 3) (fun _ _ _ q => (3 - q.toInt).toNat) ?_ _ _ _ _ ⟨rfl, by decide, by decide⟩
  rintro kk U p' m q ⟨rfl, q0, q3⟩ hk
  unfold w_X8_wealth_F17 w_X8_wealth_B54 w_X8_wealth_B48
  have go : q.toInt < 3 → ∀ m, kk U p' m (q + 1) := fun g m => hk _ _ _ _ ⟨rfl, by rw [inc1 (by omega)]; omega, by rw [inc1 (by omega)]; omega⟩ (by rw [inc1 (by omega)]; omega)
  exact ⟨fun _ => k _ _ hT hT5, fun g => ⟨fun _ => go g _, fun _ => r_9_get _ _ _ _ _ _ (by decide) (fun _ => go g _)⟩⟩
theorem r_8_richestJ (cy : Nat → ClassId) (tE : Nat) (S : KS) (p : Int32) (post : Int32 → KS → Prop) (L : BS) (hL : CSr S L) (h5 : JZ (ar S.1 5)) (k : ∀ r S', KF [] [5] [] S S' → JZ (ar S'.1 5) → post r S') : w_X8_richest cy tE S p post := by
  unfold w_X8_richest
  refine r_8_wealthJ cy tE S _ _ _ L hL h5 (fun r T hT hT5 => ?_)
  refine lr5 (fun (U : KS) (_ _ _ x : Int32) => KF [] [5] [] S U ∧ JZ (ar U.1 5) ∧ 0 ≤ x.toInt ∧ x.toInt ≤ 400) (fun _ _ _ _ x => (400 - x.toInt).toNat) ?_ _ _ _ _ _ ⟨hT, hT5, by decide, by decide⟩
  rintro kk U p' b m x ⟨hU, hU5, x0, x1⟩ hk
  unfold w_X8_richest_F12 w_X8_richest_B56 w_X8_richest_B50
  refine ⟨fun _ => k _ _ hU hU5, fun g => ⟨fun _ => k _ _ hU hU5, fun g2 => r_8_wealthJ cy tE U _ _ _ L (CSr_5 hL hU (by decide)) hU5 (fun r3 V hV hV5 => ?_)⟩⟩
  have go : ∀ b m, kk V p' b m (x + 1) := fun b m => hk _ _ _ _ _ ⟨KF_tr hU hV, hV5, by rw [inc1 (by omega)]; omega, by rw [inc1 (by omega)]; omega⟩ (by rw [inc1 (by omega)]; omega)
  exact ⟨fun _ => go _ _, fun _ => go _ _⟩
theorem r_8_unlikeJ (cy : Nat → ClassId) (tE : Nat) (S : KS) (post : Int32 → KS → Prop) (L : BS) (hL : CSr S L) (h5 : JZ (ar S.1 5)) (k : ∀ r S', KF [] [5] [3] S S' → JZ (ar S'.1 5) → post r S') : w_X8_unlike cy tE S post := by
  unfold w_X8_unlike
  refine lr3 (fun (T : KS) (m x : Int32) => KF [] [5] [3] S T ∧ JZ (ar T.1 5) ∧ 0 ≤ m.toInt ∧ m.toInt ≤ x.toInt ∧ x.toInt ≤ 400) (fun _ _ x => (400 - x.toInt).toNat) ?_ _ _ _ ⟨KF_rf S, h5, by decide, by decide, by decide⟩
  rintro kk T m x ⟨hT, hT5, m0, m1, x1⟩ hk
  unfold w_X8_unlike_F4 w_X8_unlike_B92
  refine ⟨fun _ => k _ _ hT hT5, fun g => ⟨fun _ => k _ _ hT hT5, fun g2 => r_8_loadJ cy tE T _ _ L (CSr_5 hL hT (by decide)) hT5 (fun U hU hU5 => r_8_leastName _ _ _ _ (fun v => ?_))⟩⟩
  have hU2 : KF [] [5] [3] S U := KF_tr hT (KF_wk hU (by decide))
  refine lr6 (fun (V : KS) (m' x' : Int32) (_ : Int64) (_ j : Int32) => V = U ∧ m' = m ∧ x' = x ∧ 0 ≤ j.toInt ∧ j.toInt ≤ m.toInt) (fun _ _ _ _ _ j => (m.toInt - j.toInt).toNat) ?_ _ _ _ _ _ _ ⟨rfl, rfl, rfl, by decide, by rw [li_0]; omega⟩
  rintro kk2 V m' x' v y j ⟨rfl, rfl, rfl, j0, j1⟩ hk2
  unfold w_X8_unlike_F35 w_X8_unlike_B63
  have b71 : ∀ y, w_X8_unlike_B71 cy tE post kk (w_X8_unlike_B92 cy tE post) V m' x' v y := by
    intro y
    unfold w_X8_unlike_B71 w_X8_unlike_B86
    refine ⟨fun _ => hk _ _ _ ⟨hU2, hU5, m0, by rw [inc1 (by omega)]; omega, by rw [inc1 (by omega)]; omega⟩ (by rw [inc1 (by omega)]; omega), fun _ => ⟨by omega, hk _ _ _ ⟨KF_sv (by decide) hU2, hU5, by rw [inc1 (by omega)]; omega, by rw [inc1 (by omega), inc1 (by omega)]; omega, by rw [inc1 (by omega)]; omega⟩ (by rw [inc1 (by omega)]; omega)⟩⟩
  have go : j.toInt < m'.toInt → ∀ y, kk2 V m' x' v y (j + 1) := fun g y => hk2 _ _ _ _ _ _ ⟨rfl, rfl, rfl, by rw [inc1 (by omega)]; omega, by rw [inc1 (by omega)]; omega⟩ (by rw [inc1 (by omega)]; omega)
  exact ⟨fun _ => b71 _, fun g3 => ⟨fun _ => b71 _, fun _ => ⟨by omega, fun _ => go g3 _, fun _ => go g3 _⟩⟩⟩
/-- the whole SEARCH, looked at -/
theorem r_8_bgE (cy : Nat → ClassId) (tE : Nat) (S : KS) (a b c d : Int32) (post : KS → Prop) (nv : List OL) (cu : List CuT) (ac : Nat → Option AcT) (hX : CX cy S nv cu ac) (k : ∀ S' n, CQ S S' cu ac → CWx S' cu ac (cz (ar S.1 1)) n → JZ (ar S'.1 5) → KB S S' → bsW cu ac a c d b (cz (ar S.1 1)) = BN S' cu ac (cz (ar S.1 1)) n → post S') : w_X8_begin cy tE S a b c d (fun S2 => w_X8_finish cy tE S2 post) := by
  obtain ⟨h1, h2, h3, h4, h5, h6⟩ := id hX
  refine r_8_beginE cy tE S a b c d _ nv cu ac h1 h2 h3 h4.1 h4.2 (fun T n hT eT1 hT5 e27 e28 e29 e30 hW => ?_)
  have eF : BNF T cu ac (cz (ar S.1 1)) = bsW cu ac a c d b (cz (ar S.1 1)) := by
    unfold BNF bsW
    rw [e27, e28, e29, e30]
  refine r_8_finishE cy tE T _ nv cu ac (cz (ar S.1 1)) n (HQx_kf h1 hT) h2 hW hT5 (fun c' a' => h5 _ c' a') (fun U n' hU hWU hU5 hd => ?_)
  rw [eF] at hd
  have hB : KB S U := KF_tr hT (KF_wk hU (by decide))
  exact k U n' (KB_CQ hB hU5 hWU) hWU hU5 hB hd
theorem CQ_5 {S T U : KS} {cu : List CuT} {ac : Nat → Option AcT} {n : Nat} (h : KB S T) (hW : CWx T cu ac (cz (ar S.1 1)) n) (f : KF [] [5] [3] T U) (h5 : JZ (ar U.1 5)) : CQ S U cu ac := by
  have hWU : CWx U cu ac (cz (ar S.1 1)) n := CWx_cg hW (fun i _ => f.1.1 i (by simp)) (fun j hj => f.1.2.2.1 j (by revert hj; revert j; decide)) (f.1.2.2.2 2 (by decide))
  have hB : KF [23, 24, 25, 26, 27, 28, 29, 30, 31, 32, 33, 34] [3, 5, 16, 17, 18, 19, 20, 21] [2, 3] S U := KF_tr (KF_wk h (by decide)) (KF_wk f (by decide))
  have e1 : ar U.1 1 = ar S.1 1 := hB.1.2.2.1 1 (by decide)
  exact ⟨KF_wk hB (by decide), e1, ⟨h5, fun _ => ⟨n, by rw [e1]; exact hWU⟩⟩, SQ_CW hWU, kf_14s hB.1 (by decide), kf_612s hB.1 (by decide)⟩
set_option maxHeartbeats 400000 in
theorem r_11_holeJ (cy : Nat → ClassId) (tE : Nat) (S : KS) (n l d s x : Int32) (post : Int32 → KS → Prop) (nv : List OL) (cu : List CuT) (ac : Nat → Option AcT) (hX : CX cy S nv cu ac) (k : ∀ r S', CQ S S' cu ac → post r S') : w_X11_hole cy tE S n l d s x post := by
  have no := k (-1) S (CQ_rf hX)
  unfold w_X11_hole w_X11_hole_B22 w_X11_hole_B47 w_X11_hole_B152 w_X11_hole_B121 w_X11_hole_B98
  refine r_11_isNeverE cy tE S n _ nv cu ac hX.1 (fun _ => ⟨fun _ => no, fun z => absurd li_0 z⟩) (fun ln hn hln => ⟨fun _ => no, fun _ => r_11_areLaws _ _ _ _ _ (fun _ _ _ => ⟨fun _ => no, fun _ => r_11_isDepth _ _ _ _ _ (fun _ _ _ => ⟨fun _ => ⟨fun _ => no, fun _ => ⟨fun _ => no, fun _ => r_11_isWithin _ _ _ _ _ _ (fun _ _ _ => ⟨fun _ => ?_, fun _ => no⟩)⟩⟩, fun _ => no⟩)⟩)⟩)
  refine r_8_bfE cy tE S _ _ _ _ _ _ nv cu ac ln hX hn.1 hln (fun r U hU _ _ => ?_)
  have hy : ∀ v, post v U := fun v => k _ _ hU
  have hs := hU.2.2.2.1
  exact ⟨fun _ => ⟨fun _ => ⟨fun _ => r_8_code cy tE U _ _ _ hs.1.2 (fun _ => hy _), fun _ => r_8_acts cy tE U _ _ hs.1.2 (fun _ => hy _)⟩, fun _ => ⟨fun _ => hy _, fun _ => hy _⟩⟩, fun _ => ⟨fun _ => hy _, fun _ => hy _⟩⟩
set_option maxHeartbeats 400000 in
theorem r_11_metJ (cy : Nat → ClassId) (tE : Nat) (S : KS) (l d z : Int32) (post : Int32 → KS → Prop) (nv : List OL) (cu : List CuT) (ac : Nat → Option AcT) (hX : CX cy S nv cu ac) (k : ∀ r S', CQ S S' cu ac → post r S') : w_X11_met cy tE S l d z post := by
  have no := k (-1) S (CQ_rf hX)
  unfold w_X11_met w_X11_met_B14 w_X11_met_B69
  refine r_11_areLaws _ _ _ _ _ (fun _ _ _ => ⟨fun _ => no, fun _ => r_11_isDepth _ _ _ _ _ (fun _ _ _ => ⟨fun _ => ?_, fun _ => no⟩)⟩)
  refine r_8_bgE cy tE S _ _ _ _ _ nv cu ac hX (fun U n' hU hWU hU5 hB _ => ?_)
  exact ⟨fun _ => ⟨fun _ => k _ _ hU, fun _ => r_8_unlikeJ cy tE U _ _ hWU.2.2.1 hU5 (fun r V hV hV5 => k _ _ (CQ_5 hB hWU hV hV5))⟩, fun _ => k _ _ hU⟩
set_option maxHeartbeats 400000 in
theorem r_11_gainJ (cy : Nat → ClassId) (tE : Nat) (S : KS) (p l d x : Int32) (post : Int32 → KS → Prop) (nv : List OL) (cu : List CuT) (ac : Nat → Option AcT) (hX : CX cy S nv cu ac) (k : ∀ r S', CQ S S' cu ac → post r S') : w_X11_gain cy tE S p l d x post := by
  have no := k (-100) S (CQ_rf hX)
  unfold w_X11_gain w_X11_gain_B26 w_X11_gain_B131
  refine r_11_isPerson _ _ _ _ _ (fun _ _ _ => ⟨fun _ => no, fun _ => r_11_areLaws _ _ _ _ _ (fun _ _ _ => ⟨fun _ => no, fun _ => r_11_isDepth _ _ _ _ _ (fun _ _ _ => ⟨fun _ => no, fun _ => ⟨fun _ => ?_, fun _ => no⟩⟩)⟩)⟩)
  refine r_8_bgE cy tE S _ _ _ _ _ nv cu ac hX (fun U n' hU hWU hU5 hB _ => ?_)
  refine ⟨fun _ => r_8_richestJ cy tE U _ _ _ hWU.2.2.1 hU5 (fun r V hV hV5 => ?_), fun _ => k _ _ hU⟩
  have hV2 := CQ_5 hB hWU (KF_wk hV (by decide)) hV5
  have hs := hV2.2.2.2.1
  have hy : ∀ v, post v V := fun v => k _ _ hV2
  refine ⟨fun _ => ⟨fun _ => r_8_code cy tE V _ _ _ hs.1.2 (fun _ => ⟨fun _ => hy _, fun _ => hy _⟩), fun _ => r_8_acts cy tE V _ _ hs.1.2 (fun _ => hy _)⟩, fun _ => r_8_wealthJ cy tE V _ _ _ _ (CSr_5 hWU.2.2.1 hV (by decide)) hV5 (fun r W hW hW5 => k _ _ (CQ_5 hB hWU (KF_wk (KF_tr hV hW) (by decide)) hW5))⟩
/-- how many PERSONS, CURES a set has -/
def pc (n : Nat) : Nat := n % 2 + n / 2 % 2 + n / 4 % 2 + n / 8 % 2 + n / 16 % 2
theorem r_bcE (cy : Nat → ClassId) (tE : Nat) (S : KS) (n : Nat) (post : Int32 → KS → Prop) (hn : n < 32) (k : post (nI (pc n)) S) : w_J6_bitCount_0f7a4 cy tE S (nI n) post := by
  unfold w_J6_bitCount_0f7a4
  refine Eq.mp (congrArg (fun r => post r S) (Eq.symm (?_ : _ = nI (pc n)))) k
  clear k
  revert n
  decide +kernel
theorem q_bitsE (S : GS) (n : Nat) (post : Int32 → GS → Prop) (hn : n < 32) (k : post (nI (pc n)) S) : w_X12_bits S (nI n) post := by
  unfold w_X12_bits
  refine Eq.mp (congrArg (fun r => post r S) (Eq.symm (?_ : _ = nI (pc n)))) k
  clear k
  revert n
  decide +kernel
/-- the set with the fewest, then the least, of which B is so -/
def LXf (B : Nat → Bool) (n : Nat) (o : Option Nat) : Prop := (∃ s, o = some s ∧ s < n ∧ B s = true ∧ ∀ s', s' < n → B s' = true → pc s < pc s' ∨ (pc s = pc s' ∧ s ≤ s')) ∨ (o = none ∧ ∀ s, s < n → B s = false)
theorem LXf_u {B : Nat → Bool} {n : Nat} {o o' : Option Nat} (h : LXf B n o) (h' : LXf B n o') : o = o' := by
  rcases h with ⟨s, rfl, h1, h2, h3⟩ | ⟨rfl, h1⟩ <;> rcases h' with ⟨s', rfl, g1, g2, g3⟩ | ⟨rfl, g1⟩
  · have a := h3 s' g1 g2
    have b := g3 s h1 h2
    have e : s = s' := by omega
    rw [e]
  · rw [g1 s h1] at h2; cases h2
  · rw [h1 s' g1] at g2; cases g2
  · rfl
theorem pc_5 : ∀ n, n < 32 → pc n ≤ 5 := by decide +kernel
theorem pc_3 : ∀ n, n < 8 → 1 ≤ n → 1 ≤ pc n ∧ pc n ≤ 3 := by decide +kernel
theorem pc_N : ∀ N, N ≤ 5 → ∀ n, n < 2 ^ N → pc n ≤ N := by decide +kernel
theorem pw_N : ∀ N, N ≤ 5 → 2 ^ N ≤ 32 ∧ (1 : Int32) <<< (nI N &&& 31) = nI (2 ^ N) := by decide +kernel
/-- nothing ahead of m, s -/
def AHD (B : Nat → Bool) (n m s : Nat) : Prop := ∀ s', s' < n → B s' = true → m < pc s' ∨ (m = pc s' ∧ s ≤ s')
theorem AHD_s {B : Nat → Bool} {n m s : Nat} (h : AHD B n m s) (hs : ¬ (pc s = m ∧ B s = true)) : AHD B n m (s + 1) := by
  intro s' h1 h2
  rcases h s' h1 h2 with z | ⟨z1, z2⟩
  · exact Or.inl z
  · refine Or.inr ⟨z1, ?_⟩
    by_cases e : s = s'
    · exfalso; apply hs; rw [e]; exact ⟨z1.symm, h2⟩
    · omega
theorem AHD_n {B : Nat → Bool} {n m s s0 : Nat} (h : AHD B n m s) (hs : n ≤ s) (h0 : ∀ s', s' < n → B s' = true → s0 ≤ s') : AHD B n (m + 1) s0 := by
  intro s' h1 h2
  rcases h s' h1 h2 with z | ⟨z1, z2⟩
  · by_cases e : pc s' = m + 1
    · exact Or.inr ⟨e.symm, h0 s' h1 h2⟩
    · exact Or.inl (by omega)
  · omega
theorem AHD_y {B : Nat → Bool} {n m s : Nat} (h : AHD B n m s) (h1 : s < n) (h2 : pc s = m) (h3 : B s = true) : LXf B n (some s) := Or.inl ⟨s, rfl, h1, h3, fun s' g1 g2 => by
  have := h s' g1 g2
  omega⟩
theorem AHD_0 {B : Nat → Bool} {n m s : Nat} (h : AHD B n m s) (hm : ∀ s', s' < n → B s' = true → pc s' < m) : LXf B n none := Or.inr ⟨rfl, fun s' g1 => by
  cases e : B s' with
  | false => rfl
  | true =>
    have := h s' g1 e
    have := hm s' g1 e
    omega⟩
/-- a HOLE with these PERSONS -/
def frB (cu : List CuT) (ac : Nat → Option AcT) (l : OL) (laws d : Int32) (g : SV) (s : Nat) : Bool := decide (1 ≤ s) && decide (fsI (nvB l) (bsW cu ac laws (nI s) 0 d g).1 0 ≠ -1)
theorem frB_1 {cu : List CuT} {ac : Nat → Option AcT} {l : OL} {laws d : Int32} {g : SV} {s : Nat} (h : frB cu ac l laws d g s = true) : 1 ≤ s := by
  unfold frB at h
  rw [Bool.and_eq_true] at h
  exact of_decide_eq_true h.1
theorem frB_y {cu : List CuT} {ac : Nat → Option AcT} {l : OL} {laws d : Int32} {g : SV} {s : Nat} (hs : 1 ≤ s) : frB cu ac l laws d g s = true ↔ fsI (nvB l) (bsW cu ac laws (nI s) 0 d g).1 0 ≠ -1 := by
  unfold frB
  rw [Bool.and_eq_true]
  exact ⟨fun h => of_decide_eq_true h.2, fun h => ⟨decide_eq_true hs, decide_eq_true h⟩⟩
def frV (o : Option Nat) : Int32 := match o with
  | none => -1
  | some s => nI s
set_option maxHeartbeats 1000000 in
theorem r_11_friendsE (cy : Nat → ClassId) (tE : Nat) (S : KS) (n l d : Int32) (post : Int32 → KS → Prop) (nv : List OL) (cu : List CuT) (ac : Nat → Option AcT) (hX : CX cy S nv cu ac) (k0 : ¬ ((0 ≤ n.toInt ∧ n.toInt < (nv.length : Int)) ∧ (1 ≤ l.toInt ∧ l.toInt ≤ 3) ∧ (0 ≤ d.toInt ∧ d.toInt ≤ 6)) → post (-1) S) (k1 : ∀ ln o S', ((0 ≤ n.toInt ∧ n.toInt < (nv.length : Int)) ∧ (1 ≤ l.toInt ∧ l.toInt ≤ 3) ∧ (0 ≤ d.toInt ∧ d.toInt ≤ 6)) → nv[n.toInt.toNat]? = some ln → CQ S S' cu ac → LXf (frB cu ac ln l d (cz (ar S.1 1))) 8 o → post (frV o) S') : w_X11_friends cy tE S n l d post := by
  unfold w_X11_friends w_X11_friends_B22
  refine r_11_isNeverE cy tE S n _ nv cu ac hX.1 (fun hn => ⟨fun _ => k0 (fun q => hn q.1), fun z => absurd li_0 z⟩) (fun ln hn hln => ⟨fun z => absurd z (by decide), fun _ => ?_⟩)
  refine r_11_areLaws _ _ _ _ _ (fun r1 _ h1 => ⟨fun _ => k0 (by omega), fun _ => r_11_isDepth _ _ _ _ _ (fun r2 _ h2 => ⟨fun _ => ?_, fun _ => k0 (by omega)⟩)⟩)
  have hok : (0 ≤ n.toInt ∧ n.toInt < (nv.length : Int)) ∧ (1 ≤ l.toInt ∧ l.toInt ≤ 3) ∧ (0 ≤ d.toInt ∧ d.toInt ≤ 6) := by omega
  refine lr5 (fun (T : KS) (n' l' d' m' : Int32) => n' = n ∧ l' = l ∧ d' = d ∧ CQ S T cu ac ∧ ∃ m : Nat, m' = nI m ∧ m ≤ 4 ∧ AHD (frB cu ac ln l d (cz (ar S.1 1))) 8 m 1) (fun _ _ _ _ m => (4 - m.toInt).toNat) ?_ _ _ _ _ _ ⟨rfl, rfl, rfl, CQ_rf hX, 1, rfl, by omega, fun s' h1 h2 => ?_⟩
  rotate_left
  · have a := frB_1 h2
    have b := pc_3 s' h1 a
    omega
  rintro kk T n' l' d' m' ⟨rfl, rfl, rfl, hT, m, rfl, hm, hA⟩ hk
  unfold w_X11_friends_F27 w_X11_friends_B95
  have mn : (nI m).toInt = (m : Int) := nI_toInt (by omega)
  rw [mn]
  refine ⟨fun h => ?_, fun h => ?_⟩
  · exact k1 ln none T hok hln hT (AHD_0 hA (fun s' h1 h2 => by
      have := pc_3 s' h1 (frB_1 h2)
      omega))
  refine lr6 (fun (U : KS) (n2 l2 d2 m2 s' : Int32) => n2 = n' ∧ l2 = l' ∧ d2 = d' ∧ m2 = nI m ∧ CQ S U cu ac ∧ ∃ s : Nat, s' = nI s ∧ 1 ≤ s ∧ s ≤ 8 ∧ AHD (frB cu ac ln l' d' (cz (ar S.1 1))) 8 m s) (fun _ _ _ _ _ s => (8 - s.toInt).toNat) ?_ _ _ _ _ _ _ ⟨rfl, rfl, rfl, rfl, hT, 1, rfl, by omega, by omega, hA⟩
  rintro kk2 U n2 l2 d2 m2 s' ⟨rfl, rfl, rfl, rfl, hU, s, rfl, s1, s8, hA2⟩ hk2
  unfold w_X11_friends_F36 w_X11_friends_B89 w_X11_friends_B83
  have sn : (nI s).toInt = (s : Int) := nI_toInt (by omega)
  have mi : nI m + 1 = nI (m + 1) := nI_inc (by omega)
  have si' : nI s + 1 = nI (s + 1) := nI_inc (by omega)
  rw [sn, mi, si', mn]
  refine ⟨fun h7 => ?_, fun h7 => ?_⟩
  · exact hk _ _ _ _ _ ⟨rfl, rfl, rfl, hU, m + 1, rfl, by omega, AHD_n hA2 (by omega) (fun s' _ h2 => frB_1 h2)⟩ (by rw [nI_toInt (by omega), mn]; omega)
  refine r_bcE cy tE U s _ (by omega) ?_
  have bp := pc_3 s (by omega) s1
  have pn : (nI (pc s)).toInt = (pc s : Int) := nI_toInt (by omega)
  rw [pn]
  have next : ¬ (pc s = m ∧ frB cu ac ln l2 d2 (cz (ar S.1 1)) s = true) → ∀ V, CQ S V cu ac → kk2 V n2 l2 d2 (nI m) (nI (s + 1)) := fun hz V hV => hk2 _ _ _ _ _ _ ⟨rfl, rfl, rfl, rfl, hV, s + 1, rfl, by omega, by omega, AHD_s hA2 hz⟩ (by rw [nI_toInt (by omega), sn]; omega)
  refine ⟨fun he => ?_, fun he => next (fun q => by omega) U hU⟩
  have eg : cz (ar U.1 1) = cz (ar S.1 1) := by rw [hU.2.1]
  refine r_8_bfE cy tE U _ _ _ _ _ _ nv cu ac ln (CX_q hX hU) hn.1 hln (fun r V hV hr _ => ?_)
  rw [eg] at hr
  have hV2 := CQ_tr hU hV
  have m1 : (-1 : Int32).toInt = -1 := by decide
  refine ⟨fun hz => next (fun q => ?_) V hV2, fun hz => ?_⟩
  · have := (frB_y s1).mp q.2
    exact this (by rw [← hr]; exact hz)
  · refine k1 ln (some s) V hok hln hV2 (AHD_y hA2 (by omega) (by omega) ((frB_y s1).mpr ?_))
    rw [← hr]
    exact hz
/-- behind a call of the reference's SEARCH -/
def RQ (S S' : GS) : Prop := FG S S' ∧ SInv S' ∧ BR S'
theorem RQ_rf {S : GS} (h1 : SInv S) (h2 : BR S) : RQ S S := ⟨Fr.rf, h1, h2⟩
theorem RQ_tr {S T U : GS} (h : RQ S T) (g : RQ T U) : RQ S U := ⟨h.1.tr g.1, g.2.1, g.2.2⟩
/-- what it needs to know -/
def RX (S : GS) (nv : List OL) (cu : List CuT) (ac : Nat → Option AcT) (g : SV) : Prop := MIx S nv cu ac ∧ GdL nv cu ac ∧ (∀ laws c a, (0 ≤ c.toInt ∧ c.toInt ≤ 767) → actO ac c laws = some a → ∀ w ∈ a.2.2.2.2, PM c w) ∧ SInv S ∧ BR S ∧ GJ g ∧ (fl S 0).toInt = pkI g
theorem RX_q {S S' : GS} {nv : List OL} {cu : List CuT} {ac : Nat → Option AcT} {g : SV} (h : RX S nv cu ac g) (q : RQ S S') : RX S' nv cu ac g := by
  obtain ⟨h1, h2, h3, h4, h5, h6, h7⟩ := h
  obtain ⟨f, a, b⟩ := q
  exact ⟨MIx_fr h1 f (by decide) (by decide), h2, h3, a, b, h6, by rw [show fl S' 0 = fl S 0 from f.2.1 0 (by decide)]; exact h7⟩
theorem q_searchW (S : GS) (n laws d ps set : Int32) (post : GS → Prop) (nv : List OL) (cu : List CuT) (ac : Nat → Option AcT) (g : SV) (l : OL) (hX : RX S nv cu ac g) (hn : 0 ≤ n.toInt) (hl : nv[n.toInt.toNat]? = some l) (k : ∀ S', RQ S S' → (fi S' 22).toInt = fsI (nvB l) (bsW cu ac laws ps set d g).1 0 → ((fi S' 22).toInt = -1 → fi S' 23 = if (bsW cu ac laws ps set d g).2 = true then 1 else 0) → ((fi S' 22).toInt ≠ -1 → fi S' 23 = 0) → post S') : w_X12_searches S n laws d ps set post := by
  obtain ⟨h1, h2, h3, h4, h5, h6, h7⟩ := id hX
  exact q_searchesE S n laws d ps set post nv cu ac (nvB l) g h1 h2 (fun c a => h3 laws c a) h4 h5 h6 h7 (Or.inr ⟨hn, l, hl, rfl⟩) (fun S' f a b e1 e2 e3 => k S' ⟨f, a, b⟩ e1 (fun z => (e2 z).2) e3)
theorem q_isNeverTextE (S : GS) (x : Int32) (post : Int32 → GS → Prop) (nv : List OL) (cu : List CuT) (ac : Nat → Option AcT) (hm : MIx S nv cu ac) (k0 : ¬ (0 ≤ x.toInt ∧ x.toInt < (nv.length : Int)) → post 0 S) (k1 : (0 ≤ x.toInt ∧ x.toInt < (nv.length : Int)) → post 1 S) : w_X12_isNeverText S x post := by
  obtain ⟨⟨h16, h6, -⟩, -, -⟩ := hm
  refine q_isNeverText S x post (by omega) (fun r hr hb => ?_)
  rcases hr with rfl | rfl
  · exact k0 (by
      rcases hb with ⟨-, q⟩ | ⟨q, -⟩
      · rw [h16] at q; exact q
      · exact absurd q (by decide))
  · exact k1 (by
      rcases hb with ⟨q, -⟩ | ⟨-, q⟩
      · exact absurd q (by decide)
      · rw [h16] at q; exact q)
set_option maxHeartbeats 1000000 in
theorem q_friendsE (S : GS) (n l d : Int32) (post : Int32 → GS → Prop) (nv : List OL) (cu : List CuT) (ac : Nat → Option AcT) (g : SV) (hX : RX S nv cu ac g) (k0 : ¬ ((0 ≤ n.toInt ∧ n.toInt < (nv.length : Int)) ∧ (1 ≤ l.toInt ∧ l.toInt ≤ 3) ∧ (0 ≤ d.toInt ∧ d.toInt ≤ 6)) → post (-1) S) (k1 : ∀ ln o S', ((0 ≤ n.toInt ∧ n.toInt < (nv.length : Int)) ∧ (1 ≤ l.toInt ∧ l.toInt ≤ 3) ∧ (0 ≤ d.toInt ∧ d.toInt ≤ 6)) → nv[n.toInt.toNat]? = some ln → RQ S S' → LXf (frB cu ac ln l d g) 8 o → post (frV o) S') : w_X12_friends S n l d post := by
  unfold w_X12_friends w_X12_friends_B17
  refine q_isNeverTextE S n _ nv cu ac hX.1 (fun hn => ⟨fun _ => k0 (fun q => hn q.1), fun z => absurd li_0 z⟩) (fun hn => ⟨fun z => absurd z (by decide), fun _ => ?_⟩)
  refine q_canSearch _ _ _ _ (fun r1 _ h1 => ⟨fun _ => ?_, fun _ => k0 (by omega)⟩)
  have hok : (0 ≤ n.toInt ∧ n.toInt < (nv.length : Int)) ∧ (1 ≤ l.toInt ∧ l.toInt ≤ 3) ∧ (0 ≤ d.toInt ∧ d.toInt ≤ 6) := by omega
  obtain ⟨ln, hln⟩ : ∃ ln, nv[n.toInt.toNat]? = some ln := ⟨_, List.getElem?_eq_getElem (by omega)⟩
  refine lr5 (fun (T : GS) (n' l' d' m' : Int32) => n' = n ∧ l' = l ∧ d' = d ∧ RQ S T ∧ ∃ m : Nat, m' = nI m ∧ m ≤ 4 ∧ AHD (frB cu ac ln l d g) 8 m 1) (fun _ _ _ _ m => (4 - m.toInt).toNat) ?_ _ _ _ _ _ ⟨rfl, rfl, rfl, RQ_rf hX.2.2.2.1 hX.2.2.2.2.1, 1, rfl, by omega, fun s' h1 h2 => ?_⟩
  rotate_left
  · have a := frB_1 h2
    have b := pc_3 s' h1 a
    omega
  rintro kk T n' l' d' m' ⟨rfl, rfl, rfl, hT, m, rfl, hm, hA⟩ hk
  unfold w_X12_friends_F22 w_X12_friends_B84
  have mn : (nI m).toInt = (m : Int) := nI_toInt (by omega)
  rw [mn]
  refine ⟨fun h => ?_, fun h => ?_⟩
  · exact k1 ln none T hok hln hT (AHD_0 hA (fun s' h1 h2 => by
      have := pc_3 s' h1 (frB_1 h2)
      omega))
  refine lr6 (fun (U : GS) (n2 l2 d2 m2 s' : Int32) => n2 = n' ∧ l2 = l' ∧ d2 = d' ∧ m2 = nI m ∧ RQ S U ∧ ∃ s : Nat, s' = nI s ∧ 1 ≤ s ∧ s ≤ 8 ∧ AHD (frB cu ac ln l' d' g) 8 m s) (fun _ _ _ _ _ s => (8 - s.toInt).toNat) ?_ _ _ _ _ _ _ ⟨rfl, rfl, rfl, rfl, hT, 1, rfl, by omega, by omega, hA⟩
  rintro kk2 U n2 l2 d2 m2 s' ⟨rfl, rfl, rfl, rfl, hU, s, rfl, s1, s8, hA2⟩ hk2
  unfold w_X12_friends_F31 w_X12_friends_B78 w_X12_friends_B72
  have sn : (nI s).toInt = (s : Int) := nI_toInt (by omega)
  have mi : nI m + 1 = nI (m + 1) := nI_inc (by omega)
  have si' : nI s + 1 = nI (s + 1) := nI_inc (by omega)
  rw [sn, mi, si', mn]
  refine ⟨fun h7 => ?_, fun h7 => ?_⟩
  · exact hk _ _ _ _ _ ⟨rfl, rfl, rfl, hU, m + 1, rfl, by omega, AHD_n hA2 (by omega) (fun s' _ h2 => frB_1 h2)⟩ (by rw [nI_toInt (by omega), mn]; omega)
  refine q_bitsE U s _ (by omega) ?_
  have bp := pc_3 s (by omega) s1
  have pn : (nI (pc s)).toInt = (pc s : Int) := nI_toInt (by omega)
  rw [pn]
  have next : ¬ (pc s = m ∧ frB cu ac ln l2 d2 g s = true) → ∀ V, RQ S V → kk2 V n2 l2 d2 (nI m) (nI (s + 1)) := fun hz V hV => hk2 _ _ _ _ _ _ ⟨rfl, rfl, rfl, rfl, hV, s + 1, rfl, by omega, by omega, AHD_s hA2 hz⟩ (by rw [nI_toInt (by omega), sn]; omega)
  refine ⟨fun he => ?_, fun he => next (fun q => by omega) U hU⟩
  refine q_searchW U n2 l2 d2 (nI s) 0 _ nv cu ac g ln (RX_q hX hU) hn.1 hln (fun V hV hr _ _ => ?_)
  have hV2 := RQ_tr hU hV
  refine ⟨fun hz => next (fun q => ?_) V hV2, fun hz => ?_⟩
  · have := (frB_y s1).mp q.2
    exact this (by rw [← hr]; exact hz)
  · refine k1 ln (some s) V hok hln hV2 (AHD_y hA2 (by omega) (by omega) ((frB_y s1).mpr ?_))
    rw [← hr]
    exact hz
/-- of one of the LAWS: a HOLE, or SPENT without -/
def onF (cu : List CuT) (ac : Nat → Option AcT) (l : OL) (d : Int32) (g : SV) (laws : Int32) : Int32 := if fsI (nvB l) (bsW cu ac laws 7 0 d g).1 0 ≠ -1 then 1 else if (bsW cu ac laws 7 0 d g).2 = true then -2 else 0
theorem onF_1 {cu : List CuT} {ac : Nat → Option AcT} {l : OL} {d : Int32} {g : SV} {laws : Int32} (h : fsI (nvB l) (bsW cu ac laws 7 0 d g).1 0 ≠ -1) : onF cu ac l d g laws = 1 := if_pos h
theorem onF_2 {cu : List CuT} {ac : Nat → Option AcT} {l : OL} {d : Int32} {g : SV} {laws : Int32} (h : fsI (nvB l) (bsW cu ac laws 7 0 d g).1 0 = -1) (h2 : (bsW cu ac laws 7 0 d g).2 = true) : onF cu ac l d g laws = -2 := by
  unfold onF
  rw [if_neg (fun z => z h), if_pos h2]
theorem onF_0 {cu : List CuT} {ac : Nat → Option AcT} {l : OL} {d : Int32} {g : SV} {laws : Int32} (h : fsI (nvB l) (bsW cu ac laws 7 0 d g).1 0 = -1) (h2 : (bsW cu ac laws 7 0 d g).2 = false) : onF cu ac l d g laws = 0 := by
  unfold onF
  rw [if_neg (fun z => z h), if_neg (by rw [h2]; decide)]
def onV (a b c : Int32) : Int32 := if c.toInt = -2 ∨ a.toInt = -2 ∨ b.toInt = -2 then -2 else if c.toInt = 1 ∧ a.toInt = 0 ∧ b.toInt = 0 then 1 else 0
theorem r_11_hasHoleE (cy : Nat → ClassId) (tE : Nat) (S : KS) (n l d : Int32) (post : Int32 → KS → Prop) (nv : List OL) (cu : List CuT) (ac : Nat → Option AcT) (ln : OL) (hX : CX cy S nv cu ac) (hn : 0 ≤ n.toInt) (hln : nv[n.toInt.toNat]? = some ln) (k : ∀ S', CQ S S' cu ac → post (onF cu ac ln d (cz (ar S.1 1)) l) S') : w_X11_hasHole cy tE S n l d post := by
  unfold w_X11_hasHole w_X11_hasHole_B42
  refine r_8_bfE cy tE S _ _ _ _ _ _ nv cu ac ln hX hn hln (fun r U hU hr hs => ?_)
  have hk := k U hU
  refine ⟨fun hz => ⟨fun h34 => ?_, fun h34 => ?_⟩, fun hz => ?_⟩
  · rw [onF_0 (by rw [← hr]; exact hz) ((hs hz).2 h34)] at hk
    exact hk
  · rw [onF_2 (by rw [← hr]; exact hz) ((hs hz).1 h34)] at hk
    exact hk
  · rw [onF_1 (by rw [← hr]; exact hz)] at hk
    exact hk
theorem r_11_onlyE (cy : Nat → ClassId) (tE : Nat) (S : KS) (n d : Int32) (post : Int32 → KS → Prop) (nv : List OL) (cu : List CuT) (ac : Nat → Option AcT) (hX : CX cy S nv cu ac) (k0 : ¬ ((0 ≤ n.toInt ∧ n.toInt < (nv.length : Int)) ∧ (0 ≤ d.toInt ∧ d.toInt ≤ 6)) → post (-1) S) (k1 : ∀ ln S', ((0 ≤ n.toInt ∧ n.toInt < (nv.length : Int)) ∧ (0 ≤ d.toInt ∧ d.toInt ≤ 6)) → nv[n.toInt.toNat]? = some ln → CQ S S' cu ac → post (onV (onF cu ac ln d (cz (ar S.1 1)) 1) (onF cu ac ln d (cz (ar S.1 1)) 2) (onF cu ac ln d (cz (ar S.1 1)) 3)) S') : w_X11_only cy tE S n d post := by
  unfold w_X11_only w_X11_only_B15 w_X11_only_B63 w_X11_only_B85 w_X11_only_B86
  refine r_11_isNeverE cy tE S n _ nv cu ac hX.1 (fun hn => ⟨fun _ => k0 (fun q => hn q.1), fun z => absurd li_0 z⟩) (fun ln hn hln => ⟨fun z => absurd z (by decide), fun _ => ?_⟩)
  refine r_11_isDepth _ _ _ _ _ (fun r2 _ h2 => ⟨fun _ => ?_, fun _ => k0 (by omega)⟩)
  refine r_11_hasHoleE cy tE S n 3 d _ nv cu ac ln hX hn.1 hln (fun T hT => ?_)
  refine r_11_hasHoleE cy tE T n 1 d _ nv cu ac ln (CX_q hX hT) hn.1 hln (fun U hU => ?_)
  have hU2 := CQ_tr hT hU
  refine r_11_hasHoleE cy tE U n 2 d _ nv cu ac ln (CX_q hX hU2) hn.1 hln (fun V hV => ?_)
  have hk := k1 ln V (by omega) hln (CQ_tr hU2 hV)
  rw [hT.2.1, hU2.2.1]
  generalize onF cu ac ln d (cz (ar S.1 1)) 3 = c at hk ⊢
  generalize onF cu ac ln d (cz (ar S.1 1)) 1 = a at hk ⊢
  generalize onF cu ac ln d (cz (ar S.1 1)) 2 = b at hk ⊢
  have m2 : (-2 : Int32).toInt = -2 := by decide
  have o1 : (1 : Int32).toInt = 1 := li_1
  have v2 : (c.toInt = -2 ∨ a.toInt = -2 ∨ b.toInt = -2) → post (-2) V := fun h => by
    rw [show onV a b c = -2 from if_pos h] at hk; exact hk
  have v0 : ¬ (c.toInt = -2 ∨ a.toInt = -2 ∨ b.toInt = -2) → ¬ (c.toInt = 1 ∧ a.toInt = 0 ∧ b.toInt = 0) → post 0 V := fun h h' => by
    rw [show onV a b c = 0 by unfold onV; rw [if_neg h, if_neg h']] at hk; exact hk
  have v1 : ¬ (c.toInt = -2 ∨ a.toInt = -2 ∨ b.toInt = -2) → (c.toInt = 1 ∧ a.toInt = 0 ∧ b.toInt = 0) → post 1 V := fun h h' => by
    rw [show onV a b c = 1 by unfold onV; rw [if_neg h, if_pos h']] at hk; exact hk
  refine ⟨fun h => v2 (Or.inl h), fun h3 => ⟨fun h => v2 (Or.inr (Or.inl h)), fun h4 => ⟨fun h5 => ?_, fun h => v2 (Or.inr (Or.inr h))⟩⟩⟩
  have hno : ¬ (c.toInt = -2 ∨ a.toInt = -2 ∨ b.toInt = -2) := by omega
  exact ⟨fun z => v0 hno (fun q => z q.1), fun z => ⟨fun z2 => v0 hno (fun q => z2 q.2.1), fun z2 => ⟨fun z3 => v0 hno (fun q => z3 q.2.2), fun z3 => v1 hno ⟨z, z2, z3⟩⟩⟩⟩
def isO (A : Nat → Int32) : Nat → Int32
  | 0 => 1
  | m + 1 => if (isO A m).toInt = 0 then 0 else if ((A (m + 1)).toInt = 1) ↔ (m + 1 = 3) then 1 else 0
def spO (A : Nat → Int32) : Nat → Int32
  | 0 => 0
  | m + 1 => if (spO A m).toInt ≠ 0 then 1 else if (A (m + 1)).toInt = -2 then 1 else 0
theorem onV_O {A : Nat → Int32} (h : ∀ m, (A m).toInt = 1 ∨ (A m).toInt = -2 ∨ (A m).toInt = 0) : ((spO A 3).toInt ≠ 0 → onV (A 1) (A 2) (A 3) = -2) ∧ ((spO A 3).toInt = 0 → ((isO A 3).toInt ≠ 0 → onV (A 1) (A 2) (A 3) = 1) ∧ ((isO A 3).toInt = 0 → onV (A 1) (A 2) (A 3) = 0)) := by
  have h1 := h 1
  have h2 := h 2
  have h3 := h 3
  have s1 : spO A 1 = if (A 1).toInt = -2 then 1 else 0 := by
    show (if (spO A 0).toInt ≠ 0 then 1 else if (A 1).toInt = -2 then 1 else 0) = _
    rw [if_neg (fun z => z li_0)]
  have i1 : isO A 1 = if ((A 1).toInt = 1) ↔ (0 + 1 = 3) then 1 else 0 := by
    show (if (isO A 0).toInt = 0 then 0 else if ((A 1).toInt = 1) ↔ (0 + 1 = 3) then 1 else 0) = _
    rw [if_neg (by
      show ¬ (1 : Int32).toInt = 0
      decide)]
  have s2 : spO A 2 = if (spO A 1).toInt ≠ 0 then 1 else if (A 2).toInt = -2 then 1 else 0 := rfl
  have s3 : spO A 3 = if (spO A 2).toInt ≠ 0 then 1 else if (A 3).toInt = -2 then 1 else 0 := rfl
  have i2 : isO A 2 = if (isO A 1).toInt = 0 then 0 else if ((A 2).toInt = 1) ↔ (1 + 1 = 3) then 1 else 0 := rfl
  have i3 : isO A 3 = if (isO A 2).toInt = 0 then 0 else if ((A 3).toInt = 1) ↔ (2 + 1 = 3) then 1 else 0 := rfl
  generalize spO A 3 = S3 at s3 ⊢
  generalize spO A 2 = S2 at s2 s3
  generalize spO A 1 = S1 at s1 s2
  generalize isO A 3 = I3 at i3 ⊢
  generalize isO A 2 = I2 at i2 i3
  generalize isO A 1 = I1 at i1 i2
  generalize A 1 = a at *
  generalize A 2 = b at *
  generalize A 3 = c at *
  have o1 : (1 : Int32).toInt = 1 := li_1
  have o0 : (0 : Int32).toInt = 0 := li_0
  have tS : ∀ (p : Prop) [Decidable p] (x : Int32), x = (if p then 1 else 0) → (x.toInt ≠ 0 ↔ p) := by
    intro p _ x hx
    by_cases q : p
    · rw [if_pos q] at hx
      rw [hx]
      exact ⟨fun _ => q, fun _ => by omega⟩
    · rw [if_neg q] at hx
      rw [hx]
      exact ⟨fun z => absurd o0 z, fun z => absurd z q⟩
  have S1' := tS _ _ s1
  have I1' := tS _ _ i1
  have S2' : S2.toInt ≠ 0 ↔ (S1.toInt ≠ 0 ∨ b.toInt = -2) := by
    by_cases q : S1.toInt ≠ 0
    · rw [if_pos q] at s2
      rw [s2]
      exact ⟨fun _ => Or.inl q, fun _ => by omega⟩
    · rw [if_neg q] at s2
      have := tS _ _ s2
      exact ⟨fun z => Or.inr (this.mp z), fun z => this.mpr (z.resolve_left q)⟩
  have S3' : S3.toInt ≠ 0 ↔ (S2.toInt ≠ 0 ∨ c.toInt = -2) := by
    by_cases q : S2.toInt ≠ 0
    · rw [if_pos q] at s3
      rw [s3]
      exact ⟨fun _ => Or.inl q, fun _ => by omega⟩
    · rw [if_neg q] at s3
      have := tS _ _ s3
      exact ⟨fun z => Or.inr (this.mp z), fun z => this.mpr (z.resolve_left q)⟩
  have I2' : I2.toInt ≠ 0 ↔ (I1.toInt ≠ 0 ∧ ((b.toInt = 1) ↔ (1 + 1 = 3))) := by
    by_cases q : I1.toInt = 0
    · rw [if_pos q] at i2
      rw [i2]
      exact ⟨fun z => absurd o0 z, fun z => absurd q z.1⟩
    · rw [if_neg q] at i2
      have := tS _ _ i2
      exact ⟨fun z => ⟨q, this.mp z⟩, fun z => this.mpr z.2⟩
  have I3' : I3.toInt ≠ 0 ↔ (I2.toInt ≠ 0 ∧ ((c.toInt = 1) ↔ (2 + 1 = 3))) := by
    by_cases q : I2.toInt = 0
    · rw [if_pos q] at i3
      rw [i3]
      exact ⟨fun z => absurd o0 z, fun z => absurd q z.1⟩
    · rw [if_neg q] at i3
      have := tS _ _ i3
      exact ⟨fun z => ⟨q, this.mp z⟩, fun z => this.mpr z.2⟩
  have SS3 : S3.toInt ≠ 0 ↔ (c.toInt = -2 ∨ a.toInt = -2 ∨ b.toInt = -2) := by
    rw [S3', S2', S1']
    omega
  have II3 : S3.toInt = 0 → (I3.toInt ≠ 0 ↔ (c.toInt = 1 ∧ a.toInt = 0 ∧ b.toInt = 0)) := by
    intro hs
    have hn : ¬ (c.toInt = -2 ∨ a.toInt = -2 ∨ b.toInt = -2) := fun z => (SS3.mpr z) hs
    rw [I3', I2', I1']
    omega
  unfold onV
  refine ⟨fun h => if_pos (SS3.mp h), fun h => ?_⟩
  have hn : ¬ (c.toInt = -2 ∨ a.toInt = -2 ∨ b.toInt = -2) := fun z => (SS3.mpr z) h
  refine ⟨fun h' => ?_, fun h' => ?_⟩
  · rw [if_neg hn, if_pos ((II3 h).mp h')]
  · rw [if_neg hn, if_neg (fun z => ((II3 h).mpr z) h')]
theorem onF_r {cu : List CuT} {ac : Nat → Option AcT} {l : OL} {d : Int32} {g : SV} {laws : Int32} : (onF cu ac l d g laws).toInt = 1 ∨ (onF cu ac l d g laws).toInt = -2 ∨ (onF cu ac l d g laws).toInt = 0 := by
  unfold onF
  by_cases h : fsI (nvB l) (bsW cu ac laws 7 0 d g).1 0 ≠ -1
  · rw [if_pos h]; exact Or.inl li_1
  rw [if_neg h]
  by_cases h2 : (bsW cu ac laws 7 0 d g).2 = true
  · rw [if_pos h2]; exact Or.inr (Or.inl (by decide))
  · rw [if_neg h2]; exact Or.inr (Or.inr li_0)
set_option maxHeartbeats 1000000 in
theorem q_onlyE (S : GS) (n d : Int32) (post : Int32 → GS → Prop) (nv : List OL) (cu : List CuT) (ac : Nat → Option AcT) (g : SV) (hX : RX S nv cu ac g) (k0 : ¬ ((0 ≤ n.toInt ∧ n.toInt < (nv.length : Int)) ∧ (0 ≤ d.toInt ∧ d.toInt ≤ 6)) → post (-1) S) (k1 : ∀ ln S', ((0 ≤ n.toInt ∧ n.toInt < (nv.length : Int)) ∧ (0 ≤ d.toInt ∧ d.toInt ≤ 6)) → nv[n.toInt.toNat]? = some ln → RQ S S' → post (onV (onF cu ac ln d g 1) (onF cu ac ln d g 2) (onF cu ac ln d g 3)) S') : w_X12_only S n d post := by
  unfold w_X12_only w_X12_only_B18
  refine q_isNeverTextE S n _ nv cu ac hX.1 (fun hn => ⟨fun _ => k0 (fun q => hn q.1), fun z => absurd li_0 z⟩) (fun hn => ⟨fun z => absurd z (by decide), fun _ => ?_⟩)
  refine q_isIn _ _ _ _ _ (fun r1 _ h1 => ?_)
  rw [li_0, li_6] at h1
  refine ⟨fun _ => ?_, fun _ => k0 (by omega)⟩
  have hok : (0 ≤ n.toInt ∧ n.toInt < (nv.length : Int)) ∧ (0 ≤ d.toInt ∧ d.toInt ≤ 6) := by omega
  obtain ⟨ln, hln⟩ : ∃ ln, nv[n.toInt.toNat]? = some ln := ⟨_, List.getElem?_eq_getElem (by omega)⟩
  have kk1 := fun S' => k1 ln S' hok hln
  refine lr6 (fun (T : GS) (n' d' is sp lw : Int32) => n' = n ∧ d' = d ∧ RQ S T ∧ ∃ m : Nat, m ≤ 3 ∧ lw = nI (m + 1) ∧ is = isO (fun j => onF cu ac ln d g (nI j)) m ∧ sp = spO (fun j => onF cu ac ln d g (nI j)) m) (fun _ _ _ _ _ lw => (4 - lw.toInt).toNat) ?_ _ _ _ _ _ _ ⟨rfl, rfl, RQ_rf hX.2.2.2.1 hX.2.2.2.2.1, 0, by omega, rfl, rfl, rfl⟩
  rintro kk T n' d' is sp lw ⟨rfl, rfl, hT, m, hm, rfl, hI, hSp⟩ hk
  unfold w_X12_only_F28 w_X12_only_B107 w_X12_only_B126
  have ln1 : (nI (m + 1)).toInt = ((m + 1 : Nat) : Int) := nI_toInt (by omega)
  have sl1 : nI (m + 1) + 1 = nI (m + 2) := nI_inc (by omega)
  rw [ln1]
  refine ⟨fun h => ?_, fun h => ?_⟩
  · obtain rfl : m = 3 := by omega
    obtain ⟨v1, v2⟩ := onV_O (A := fun j => onF cu ac ln d' g (nI j)) (fun j => onF_r)
    rw [← hSp] at v1 v2
    rw [← hI] at v2
    have hp := kk1 T hT
    have v1' : sp.toInt ≠ 0 → onV (onF cu ac ln d' g 1) (onF cu ac ln d' g 2) (onF cu ac ln d' g 3) = -2 := v1
    have v2' : sp.toInt = 0 → (is.toInt ≠ 0 → onV (onF cu ac ln d' g 1) (onF cu ac ln d' g 2) (onF cu ac ln d' g 3) = 1) ∧ (is.toInt = 0 → onV (onF cu ac ln d' g 1) (onF cu ac ln d' g 2) (onF cu ac ln d' g 3) = 0) := v2
    exact ⟨fun z => ⟨fun y => by rw [(v2' z).2 y] at hp; exact hp, fun y => by rw [(v2' z).1 y] at hp; exact hp⟩, fun z => by rw [v1' z] at hp; exact hp⟩
  have hm3 : m < 3 := by omega
  refine q_searchW T n' (nI (m + 1)) d' 7 0 _ nv cu ac g ln (RX_q hX hT) hn.1 hln (fun U hU hr hs1 hs2 => ?_)
  have hU2 := RQ_tr hT hU
  have sI : isO (fun j => onF cu ac ln d' g (nI j)) (m + 1) = if is.toInt = 0 then 0 else if ((onF cu ac ln d' g (nI (m + 1))).toInt = 1) ↔ (m + 1 = 3) then 1 else 0 := by rw [hI] <;> rfl
  have sS : spO (fun j => onF cu ac ln d' g (nI j)) (m + 1) = if sp.toInt ≠ 0 then 1 else if (onF cu ac ln d' g (nI (m + 1))).toInt = -2 then 1 else 0 := by rw [hSp] <;> rfl
  have go : ∀ is' sp' : Int32, is' = isO (fun j => onF cu ac ln d' g (nI j)) (m + 1) → sp' = spO (fun j => onF cu ac ln d' g (nI j)) (m + 1) → kk U n' d' is' sp' (nI (m + 1) + 1) := by
    intro is' sp' a b
    rw [sl1]
    exact hk _ _ _ _ _ _ ⟨rfl, rfl, hU2, m + 1, by omega, rfl, a, b⟩ (by rw [nI_toInt (by omega), ln1]; omega)
  rw [sI, sS] at go
  have o1 : (1 : Int32).toInt = 1 := li_1
  have m2 : (-2 : Int32).toInt = -2 := by decide
  have hA1 : (fi U 22).toInt ≠ -1 → onF cu ac ln d' g (nI (m + 1)) = 1 := fun z => onF_1 (by rw [← hr]; exact z)
  have hA2 : (fi U 22).toInt = -1 → (fi U 23).toInt ≠ 0 → onF cu ac ln d' g (nI (m + 1)) = -2 := fun z y => onF_2 (by rw [← hr]; exact z) (by
    have e := hs1 z
    by_cases q : (bsW cu ac (nI (m + 1)) 7 0 d' g).2 = true
    · exact q
    · exfalso
      rw [if_neg q] at e
      exact y (by rw [e]; exact li_0))
  have hA0 : (fi U 22).toInt = -1 → (fi U 23).toInt = 0 → onF cu ac ln d' g (nI (m + 1)) = 0 := fun z y => onF_0 (by rw [← hr]; exact z) (by
    have e := hs1 z
    cases q : (bsW cu ac (nI (m + 1)) 7 0 d' g).2 with
    | false => rfl
    | true =>
      exfalso
      rw [q, if_pos rfl] at e
      rw [e] at y
      exact absurd y (by decide))
  have h23 : (fi U 22).toInt ≠ -1 → (fi U 23).toInt = 0 := fun z => by rw [hs2 z]; exact li_0
  unfold w_X12_only_B57 w_X12_only_B62 w_X12_only_B81 w_X12_only_B92 w_X12_only_B99 w_X12_only_B100
  have main : ∀ y0 : Int32, y0 = (if sp.toInt ≠ 0 then 1 else if (onF cu ac ln d' g (nI (m + 1))).toInt = -2 then 1 else 0) → ((is.toInt = 0 → kk U n' d' 0 y0 (nI (m + 1) + 1)) ∧ (is.toInt ≠ 0 → (((fi U 22).toInt = -1 → (((nI (m + 1)).toInt ≠ 3 → (((0 : Int32).toInt ≠ (0 : Int32).toInt → kk U n' d' 0 y0 (nI (m + 1) + 1)) ∧ ((0 : Int32).toInt = (0 : Int32).toInt → kk U n' d' 1 y0 (nI (m + 1) + 1)))) ∧ ((nI (m + 1)).toInt = 3 → (((0 : Int32).toInt ≠ (1 : Int32).toInt → kk U n' d' 0 y0 (nI (m + 1) + 1)) ∧ ((0 : Int32).toInt = (1 : Int32).toInt → kk U n' d' 1 y0 (nI (m + 1) + 1)))))) ∧ ((fi U 22).toInt ≠ -1 → (((nI (m + 1)).toInt ≠ 3 → (((1 : Int32).toInt ≠ (0 : Int32).toInt → kk U n' d' 0 y0 (nI (m + 1) + 1)) ∧ ((1 : Int32).toInt = (0 : Int32).toInt → kk U n' d' 1 y0 (nI (m + 1) + 1)))) ∧ ((nI (m + 1)).toInt = 3 → (((1 : Int32).toInt ≠ (1 : Int32).toInt → kk U n' d' 0 y0 (nI (m + 1) + 1)) ∧ ((1 : Int32).toInt = (1 : Int32).toInt → kk U n' d' 1 y0 (nI (m + 1) + 1))))))))) := by
    intro y0 hy
    have g0 : is.toInt ≠ 0 → ¬ (((onF cu ac ln d' g (nI (m + 1))).toInt = 1) ↔ (m + 1 = 3)) → kk U n' d' 0 y0 (nI (m + 1) + 1) := fun z y => go 0 y0 (by rw [if_neg z, if_neg y]) hy
    have g1 : is.toInt ≠ 0 → (((onF cu ac ln d' g (nI (m + 1))).toInt = 1) ↔ (m + 1 = 3)) → kk U n' d' 1 y0 (nI (m + 1) + 1) := fun z y => go 1 y0 (by rw [if_neg z, if_pos y]) hy
    have nA : (fi U 22).toInt = -1 → (onF cu ac ln d' g (nI (m + 1))).toInt ≠ 1 := by
      intro z
      by_cases q : (fi U 23).toInt = 0
      · rw [hA0 z q]; decide
      · rw [hA2 z q]; decide
    refine ⟨fun z => go 0 y0 (by rw [if_pos z]) hy, fun z => ⟨fun h22 => ⟨fun h3 => ⟨fun q => absurd rfl q, fun _ => g1 z ?_⟩, fun h3 => ⟨fun _ => g0 z ?_, fun q => absurd q (by decide)⟩⟩, fun h22 => ⟨fun h3 => ⟨fun _ => g0 z ?_, fun q => absurd q (by decide)⟩, fun h3 => ⟨fun q => absurd rfl q, fun _ => g1 z ?_⟩⟩⟩⟩
    · have := nA h22
      omega
    · have := nA h22
      omega
    · rw [hA1 h22]
      omega
    · rw [hA1 h22]
      omega
  refine ⟨fun z => main 1 (by rw [if_pos z]), fun z => ⟨fun y => main 0 ?_, fun y => main 1 ?_⟩⟩
  · rw [if_neg (fun q => q z)]
    by_cases q : (fi U 22).toInt = -1
    · rw [hA0 q y, if_neg (by decide)]
    · rw [hA1 q, if_neg (by decide)]
  · rw [if_neg (fun q => q z)]
    by_cases q : (fi U 22).toInt = -1
    · rw [hA2 q y, if_pos m2]
    · exact absurd (h23 q) y
/-- rows: which are HONEST, their CODES -/
def RWx (S : KS) (hon : Nat → Bool) (css : Nat → List Int32) : Prop := ∀ r, r < 6 → (hon r = true ↔ (fi S.1 (2 + 2 * r)).toInt ≠ 0) ∧ fi S.1 (1 + 2 * r) = nI (css r).length ∧ (css r).length ≤ 12 ∧ ∀ (t : Nat) (c : Int32), (css r)[t]? = some c → ar S.1 (6 + r) t = c ∧ (0 ≤ c.toInt ∧ c.toInt ≤ 767)
def RWm (S : GS) (hon : Nat → Bool) (css : Nat → List Int32) : Prop := ∀ r, r < 6 → (hon r = true ↔ (ar S 39 r).toInt ≠ 0) ∧ ar S 38 r = nI (css r).length ∧ (css r).length ≤ 12 ∧ ∀ (t : Nat) (c : Int32), (css r)[t]? = some c → ar S 37 (12 * r + t) = c ∧ (0 ≤ c.toInt ∧ c.toInt ≤ 767)
theorem RWx_q {S S' : KS} {hon : Nat → Bool} {css : Nat → List Int32} {cu : List CuT} {ac : Nat → Option AcT} (h : RWx S hon css) (q : CQ S S' cu ac) : RWx S' hon css := fun r hr => by
  obtain ⟨h1, h2, h3, h4⟩ := h r hr
  obtain ⟨-, -, -, -, q1, q2⟩ := q
  rw [q1 (2 + 2 * r) (by omega) (by omega), q1 (1 + 2 * r) (by omega) (by omega), q2 (6 + r) (by omega) (by omega)]
  exact ⟨h1, h2, h3, h4⟩
theorem RWm_q {S S' : GS} {hon : Nat → Bool} {css : Nat → List Int32} (h : RWm S hon css) (q : RQ S S') : RWm S' hon css := fun r hr => by
  have e37 : ar S' 37 = ar S 37 := q.1.2.2.1 37 (by decide)
  have e38 : ar S' 38 = ar S 38 := q.1.2.2.1 38 (by decide)
  have e39 : ar S' 39 = ar S 39 := q.1.2.2.1 39 (by decide)
  rw [e37, e38, e39]
  exact h r hr
/-- the rows that are HONEST go to their end -/
def hnO (cu : List CuT) (ac : Nat → Option AcT) (gb : SV) (hon : Nat → Bool) (css : Nat → List Int32) (s r : Nat) : Prop := hon r = true → (flO cu ac 3 (nI s) (css r) 0 gb).1.toInt = ((css r).length : Int)
/-- a set of CURES STOPS it -/
def STs (cu : List CuT) (ac : Nat → Option AcT) (l : OL) (d : Int32) (g gb : SV) (hon : Nat → Bool) (css : Nat → List Int32) (s : Nat) : Prop := (∀ r, r < 6 → hnO cu ac gb hon css s r) ∧ fsI (nvB l) (bsW cu ac 3 7 (nI s) d g).1 0 = -1 ∧ (bsW cu ac 3 7 (nI s) d g).2 = false
noncomputable def stB (cu : List CuT) (ac : Nat → Option AcT) (l : OL) (d : Int32) (g gb : SV) (hon : Nat → Bool) (css : Nat → List Int32) (s : Nat) : Bool := @decide (STs cu ac l d g gb hon css s) (Classical.propDecidable _)
theorem stB_y {cu : List CuT} {ac : Nat → Option AcT} {l : OL} {d : Int32} {g gb : SV} {hon : Nat → Bool} {css : Nat → List Int32} {s : Nat} : stB cu ac l d g gb hon css s = true ↔ STs cu ac l d g gb hon css s := by
  unfold stB
  exact @decide_eq_true_iff _ (Classical.propDecidable _)
theorem flO_le {cu : List CuT} {ac : Nat → Option AcT} {laws set : Int32} : ∀ {r : List Int32} {n : Nat} {g : SV}, n + r.length < 1000 → 0 ≤ (flO cu ac laws set r n g).1.toInt ∧ (flO cu ac laws set r n g).1.toInt ≤ ((n + r.length : Nat) : Int)
  | [], n, g, h => by
    show 0 ≤ (nI n).toInt ∧ (nI n).toInt ≤ _
    simp only [List.length_nil] at h ⊢
    rw [nI_toInt (by omega)]
    omega
  | c :: r, n, g, h => by
    simp only [List.length_cons] at h ⊢
    by_cases q : (wyO cu g c set (actO ac c laws)).1.toInt = -1
    · rw [flO_y q]
      have := flO_le (cu := cu) (ac := ac) (laws := laws) (set := set) (r := r) (n := n + 1) (g := (wyO cu g c set (actO ac c laws)).2) (by omega)
      omega
    · rw [flO_n q]
      show 0 ≤ (nI n).toInt ∧ (nI n).toInt ≤ _
      rw [nI_toInt (by omega)]
      omega
def stVa (x : Int32) (o : Option Nat) : Int32 := match o with
  | none => -1
  | some s => if x.toInt = 0 then nI s else nI (pc s)
set_option maxHeartbeats 1000000 in
theorem r_11_stopsWithE (cy : Nat → ClassId) (tE : Nat) (S : KS) (n d : Int32) (s : Nat) (post : Int32 → KS → Prop) (nv : List OL) (cu : List CuT) (ac : Nat → Option AcT) (ln : OL) (gb : SV) (hon : Nat → Bool) (css : Nat → List Int32) (hX : CX cy S nv cu ac) (hR : RWx S hon css) (hgb : AGR (ar S.1 1) gb) (hn : 0 ≤ n.toInt) (hln : nv[n.toInt.toNat]? = some ln) (k1 : ∀ S', CQ S S' cu ac → STs cu ac ln d (cz (ar S.1 1)) gb hon css s → post 1 S') (k0 : ∀ S', CQ S S' cu ac → ¬ STs cu ac ln d (cz (ar S.1 1)) gb hon css s → post 0 S') : w_X11_stopsWith cy tE S n d (nI s) post := by
  unfold w_X11_stopsWith
  refine lr5 (fun (T : KS) (n' d' s' x : Int32) => n' = n ∧ d' = d ∧ s' = nI s ∧ CQ S T cu ac ∧ ∃ m : Nat, m ≤ 6 ∧ x = nI m ∧ ∀ r, r < m → hnO cu ac gb hon css s r) (fun _ _ _ _ x => (6 - x.toInt).toNat) ?_ _ _ _ _ _ ⟨rfl, rfl, rfl, CQ_rf hX, 0, by omega, rfl, fun r hr => absurd hr (Nat.not_lt_zero _)⟩
  rintro kk T n' d' s' x ⟨rfl, rfl, rfl, hT, m, hm, rfl, hH⟩ hk
  unfold w_X11_stopsWith_F3 w_X11_stopsWith_B64 w_X11_stopsWith_B102 w_X11_stopsWith_B103 w_X11_stopsWith_B58
  have xn : (nI m).toInt = (m : Int) := nI_toInt (by omega)
  have mn : (nI m).toNatClampNeg = m := by rw [tnc, xn]; omega
  have sm1 : nI m + 1 = nI (m + 1) := nI_inc (by omega)
  have hXT := CX_q hX hT
  have e1 : ar T.1 1 = ar S.1 1 := hT.2.1
  rw [xn, mn, sm1]
  refine ⟨fun h => ?_, fun h => ⟨by omega, by omega, fun hz => ?_, fun hz => ⟨by omega, ?_⟩⟩⟩
  · obtain rfl : m = 6 := by omega
    refine r_8_bfE cy tE T _ _ _ _ _ _ nv cu ac ln hXT hn hln (fun r U hU hr hs => ?_)
    rw [e1] at hr hs
    have hU2 := CQ_tr hT hU
    refine ⟨fun hz => ⟨Or.inl rfl, k0 U hU2 (fun q => hz (by rw [hr]; exact q.2.1))⟩, fun hz => ⟨fun h34 => ⟨Or.inl rfl, k0 U hU2 (fun q => ?_)⟩, fun h34 => ⟨Or.inr rfl, k1 U hU2 ⟨hH, by rw [← hr]; exact hz, (hs hz).2 h34⟩⟩⟩⟩
    have := (hs hz).1 h34
    rw [q.2.2] at this
    cases this
  · have hR' := (RWx_q hR hT) m (by omega)
    refine hk _ _ _ _ _ ⟨rfl, rfl, rfl, hT, m + 1, by omega, rfl, fun r hr => ?_⟩ (by rw [nI_toInt (by omega), xn]; omega)
    by_cases e : r = m
    · rw [e]
      exact fun q => absurd hz (hR'.1.mp q)
    · exact hH r (by omega)
  · obtain ⟨r1, r2, r3, r4⟩ := (RWx_q hR hT) m (by omega)
    have hg : AGR (ar T.1 1) gb := by rw [e1]; exact hgb
    refine r_2_followE cy tE T m 3 (nI s) _ nv cu ac gb (css m) (by omega) hXT.1 hXT.2.1 hg r2 r3 r4 (fun c a => hXT.2.2.2.2.1 3 c a) (fun U hU hrow _ _ => ?_)
    have hJU : CJx U cu ac := CJx_cg hXT.2.2.1 (fun i hi => hU.1.1 i (by revert hi; revert i; decide)) (fun j hj => ?_) (hU.1.2.2.2 2 (by decide))
    rotate_left
    · have hj2 : j = 1 ∨ j = 5 ∨ j = 17 ∨ j = 20 ∨ j = 21 := by simpa using hj
      rcases hj2 with rfl | rfl | rfl | rfl | rfl
      · exact hrow 0 (by decide) (by decide) (by decide)
      · exact hrow 4 (by decide) (by decide) (by decide)
      · exact hU.1.2.2.1 17 (by decide)
      · exact hU.1.2.2.1 20 (by decide)
      · exact hU.1.2.2.1 21 (by decide)
    have hQU : CQ T U cu ac := ⟨KF_wk hU (by decide), hrow 0 (by decide) (by decide) (by decide), hJU, SQ_kf hXT.2.2.2.2.2 hU (by decide), kf_14s hU.1 (by decide), kf_612s hU.1 (by decide)⟩
    have hU2 := CQ_tr hT hQU
    have u1 : fi U.1 (1 + 2 * m) = nI (css m).length := (hQU.2.2.2.2.1 (1 + 2 * m) (by omega) (by omega)).trans r2
    have ul : (nI (css m).length).toInt = ((css m).length : Int) := nI_toInt (by omega)
    rw [u1, ul]
    have hle := flO_le (cu := cu) (ac := ac) (laws := 3) (set := nI s) (r := css m) (n := 0) (g := gb) (by omega)
    refine ⟨by omega, by omega, fun hge => ?_, fun hlt => k0 U hU2 (fun q => ?_)⟩
    · refine hk _ _ _ _ _ ⟨rfl, rfl, rfl, hU2, m + 1, by omega, rfl, fun r hr => ?_⟩ (by rw [nI_toInt (by omega), xn]; omega)
      by_cases e : r = m
      · rw [e]
        exact fun _ => by omega
      · exact hH r (by omega)
    · have := q.1 m (by omega) (r1.mpr hz)
      omega
set_option maxHeartbeats 1000000 in
theorem r_11_stopE (cy : Nat → ClassId) (tE : Nat) (S : KS) (n d x : Int32) (post : Int32 → KS → Prop) (nv : List OL) (cu : List CuT) (ac : Nat → Option AcT) (gb : SV) (hon : Nat → Bool) (css : Nat → List Int32) (hX : CX cy S nv cu ac) (hcu : cu.length ≤ 5) (hR : RWx S hon css) (hgb : AGR (ar S.1 1) gb) (k0 : ¬ ((0 ≤ n.toInt ∧ n.toInt < (nv.length : Int)) ∧ (0 ≤ d.toInt ∧ d.toInt ≤ 6) ∧ (0 ≤ x.toInt ∧ x.toInt ≤ 1)) → post (-1) S) (k1 : ∀ ln o S', ((0 ≤ n.toInt ∧ n.toInt < (nv.length : Int)) ∧ (0 ≤ d.toInt ∧ d.toInt ≤ 6) ∧ (0 ≤ x.toInt ∧ x.toInt ≤ 1)) → nv[n.toInt.toNat]? = some ln → CQ S S' cu ac → LXf (stB cu ac ln d (cz (ar S.1 1)) gb hon css) (2 ^ cu.length) o → post (stVa x o) S') : w_X11_stop cy tE S n d x post := by
  unfold w_X11_stop w_X11_stop_B23
  obtain ⟨p32, psh⟩ := pw_N cu.length hcu
  refine r_11_isNeverE cy tE S n _ nv cu ac hX.1 (fun hn => ⟨fun _ => k0 (fun q => hn q.1), fun z => absurd li_0 z⟩) (fun ln hn hln => ⟨fun z => absurd z (by decide), fun _ => ?_⟩)
  refine r_11_isDepth _ _ _ _ _ (fun r2 _ h2 => ⟨fun _ => k0 (by omega), fun _ => r_11_isWithin _ _ _ _ _ _ (fun r3 _ h3 => ?_)⟩)
  rw [li_1] at h3
  obtain ⟨A, -, -, hC, -⟩ := id hX.1
  obtain ⟨i2, m2, e2, n2, hc2, hn2, hl2, -⟩ := LSx_n hC
  have en2 : n2 = nI cu.length := i_eq (by rw [hn2, nI_toInt (by omega)])
  refine ⟨fun _ => ⟨i2, _, hc2, r_size cy tE S _ i2 m2 n2 (.ref e2) _ hc2 ?_⟩, fun _ => k0 (by omega)⟩
  have hok : (0 ≤ n.toInt ∧ n.toInt < (nv.length : Int)) ∧ (0 ≤ d.toInt ∧ d.toInt ≤ 6) ∧ (0 ≤ x.toInt ∧ x.toInt ≤ 1) := by omega
  rw [en2, psh]
  refine lr6 (fun (T : KS) (n' d' x' z m' : Int32) => n' = n ∧ d' = d ∧ x' = x ∧ z = nI (2 ^ cu.length) ∧ CQ S T cu ac ∧ ∃ m : Nat, m' = nI m ∧ m ≤ 6 ∧ AHD (stB cu ac ln d (cz (ar S.1 1)) gb hon css) (2 ^ cu.length) m 0) (fun _ _ _ _ _ m => (6 - m.toInt).toNat) ?_ _ _ _ _ _ _ ⟨rfl, rfl, rfl, rfl, CQ_rf hX, 0, rfl, by omega, fun s' h1 h2 => by omega⟩
  rintro kk T n' d' x' z m' ⟨rfl, rfl, rfl, rfl, hT, m, rfl, hm, hA⟩ hk
  unfold w_X11_stop_F42 w_X11_stop_B112
  have mn : (nI m).toInt = (m : Int) := nI_toInt (by omega)
  have zn : (nI (2 ^ cu.length)).toInt = ((2 ^ cu.length : Nat) : Int) := nI_toInt (by omega)
  have cn : (nI cu.length).toInt = (cu.length : Int) := nI_toInt (by omega)
  have eL : T.2.2.2 = S.2.2.2 := by rw [hT.1.2.1]
  have eA : T.2.1 2 = S.2.1 2 := hT.1.2.2.1 2 (by decide)
  rw [eL, eA]
  refine ⟨i2, _, hc2, r_size cy tE T _ i2 m2 n2 (.ref e2) _ (by rw [eL]; exact hc2) ?_⟩
  rw [en2, cn, mn]
  refine ⟨fun h => ?_, fun h => ?_⟩
  · exact k1 ln none T hok hln hT (AHD_0 hA (fun s' h1 h2 => by
      have := pc_N cu.length hcu s' h1
      omega))
  refine lr7 (fun (U : KS) (n2' d2 x2 z2 m2' s' : Int32) => n2' = n' ∧ d2 = d' ∧ x2 = x' ∧ z2 = nI (2 ^ cu.length) ∧ m2' = nI m ∧ CQ S U cu ac ∧ ∃ s : Nat, s' = nI s ∧ s ≤ 2 ^ cu.length ∧ AHD (stB cu ac ln d' (cz (ar S.1 1)) gb hon css) (2 ^ cu.length) m s) (fun _ _ _ _ _ _ s => (32 - s.toInt).toNat) ?_ _ _ _ _ _ _ _ ⟨rfl, rfl, rfl, rfl, rfl, hT, 0, rfl, Nat.zero_le _, hA⟩
  rintro kk2 U n2' d2 x2 z2 m2' s' ⟨rfl, rfl, rfl, rfl, rfl, hU, s, rfl, hs, hA2⟩ hk2
  unfold w_X11_stop_F60 w_X11_stop_B106 w_X11_stop_B100 w_X11_stop_B99
  have sn : (nI s).toInt = (s : Int) := nI_toInt (by omega)
  have mi : nI m + 1 = nI (m + 1) := nI_inc (by omega)
  have si' : nI s + 1 = nI (s + 1) := nI_inc (by omega)
  rw [sn, zn, mn, mi, si']
  refine ⟨fun h7 => ?_, fun h7 => ?_⟩
  · exact hk _ _ _ _ _ _ ⟨rfl, rfl, rfl, rfl, hU, m + 1, rfl, by omega, AHD_n hA2 (by omega) (fun s' _ _ => Nat.zero_le _)⟩ (by rw [nI_toInt (by omega), mn]; omega)
  refine r_bcE cy tE U s _ (by omega) ?_
  have bp := pc_5 s (by omega)
  have pn : (nI (pc s)).toInt = (pc s : Int) := nI_toInt (by omega)
  rw [pn]
  have next : ¬ (pc s = m ∧ stB cu ac ln d2 (cz (ar S.1 1)) gb hon css s = true) → ∀ V, CQ S V cu ac → kk2 V n2' d2 x2 (nI (2 ^ cu.length)) (nI m) (nI (s + 1)) := fun hz V hV => hk2 _ _ _ _ _ _ _ ⟨rfl, rfl, rfl, rfl, rfl, hV, s + 1, rfl, by omega, AHD_s hA2 hz⟩ (by rw [nI_toInt (by omega), sn]; omega)
  refine ⟨fun he => next (fun q => by omega) U hU, fun he => ?_⟩
  have eg : cz (ar U.1 1) = cz (ar S.1 1) := by rw [hU.2.1]
  refine r_11_stopsWithE cy tE U n2' d2 s _ nv cu ac ln gb hon css (CX_q hX hU) (RWx_q hR hU) (by rw [hU.2.1]; exact hgb) hn.1 hln (fun V hV hST => ⟨fun z => absurd z (by decide), fun _ => ?_⟩) (fun V hV hST => ⟨fun _ => ?_, fun z => absurd li_0 z⟩)
  · rw [eg] at hST
    have hp := k1 ln (some s) V hok hln (CQ_tr hU hV) (AHD_y hA2 (by omega) (by omega) (stB_y.mpr hST))
    refine ⟨fun hx => ?_, fun hx => ?_⟩
    · rw [show stVa x2 (some s) = nI (pc s) from if_neg hx, show pc s = m by omega] at hp
      exact hp
    · rw [show stVa x2 (some s) = nI s from if_pos hx] at hp
      exact hp
  · rw [eg] at hST
    exact next (fun q => hST (stB_y.mp q.2)) V (CQ_tr hU hV)
set_option maxHeartbeats 1000000 in
theorem q_isHonestAllE (S : GS) (s : Nat) (post : Int32 → GS → Prop) (nv : List OL) (cu : List CuT) (ac : Nat → Option AcT) (g gb : SV) (hon : Nat → Bool) (css : Nat → List Int32) (hX : RX S nv cu ac g) (hR : RWm S hon css) (hV : GV gb) (hW : GW gb) (h0 : ∀ i, i = 0 ∨ i = 4 ∨ i = 8 → gb (10 + i) = 0) (hpk : pkI gb = pkI g) (k1 : ∀ S', RQ S S' → (∀ r, r < 6 → hnO cu ac gb hon css s r) → post 1 S') (k0 : ∀ S', RQ S S' → ¬ (∀ r, r < 6 → hnO cu ac gb hon css s r) → post 0 S') : w_X12_isHonestAll S (nI s) post := by
  unfold w_X12_isHonestAll
  refine lr4 (fun (T : GS) (s' a x : Int32) => s' = nI s ∧ RQ S T ∧ ∃ m : Nat, m ≤ 6 ∧ x = nI m ∧ ((a = 1 ∧ ∀ r, r < m → hnO cu ac gb hon css s r) ∨ (a = 0 ∧ ∃ r, r < 6 ∧ ¬ hnO cu ac gb hon css s r))) (fun _ _ _ x => (6 - x.toInt).toNat) ?_ _ _ _ _ ⟨rfl, RQ_rf hX.2.2.2.1 hX.2.2.2.2.1, 0, by omega, rfl, Or.inl ⟨rfl, fun r hr => absurd hr (Nat.not_lt_zero _)⟩⟩
  rintro kk T s' a x ⟨rfl, hT, m, hm, rfl, hA⟩ hk
  unfold w_X12_isHonestAll_F4 w_X12_isHonestAll_B51 w_X12_isHonestAll_B43 w_X12_isHonestAll_B39 w_X12_isHonestAll_B44
  have xn : (nI m).toInt = (m : Int) := nI_toInt (by omega)
  have mn : (nI m).toNatClampNeg = m := by rw [tnc, xn]; omega
  have sm1 : nI m + 1 = nI (m + 1) := nI_inc (by omega)
  rw [xn, mn, sm1]
  have go : ∀ (V : GS) (a' : Int32), RQ S V → ((a' = 1 ∧ ∀ r, r < m + 1 → hnO cu ac gb hon css s r) ∨ (a' = 0 ∧ ∃ r, r < 6 ∧ ¬ hnO cu ac gb hon css s r)) → m < 6 → kk V (nI s) a' (nI (m + 1)) := fun V a' hV h6 hlt => hk _ _ _ _ ⟨rfl, hV, m + 1, by omega, rfl, h6⟩ (by rw [nI_toInt (by omega), xn]; omega)
  refine ⟨fun h => ?_, fun h => ⟨fun hz => ?_, fun hz => ⟨by omega, fun hh => ?_, fun hh => ?_⟩⟩⟩
  · rcases hA with ⟨rfl, q⟩ | ⟨rfl, r, q1, q2⟩
    · exact ⟨Or.inr rfl, k1 T hT (fun r hr => q r (by omega))⟩
    · exact ⟨Or.inl rfl, k0 T hT (fun z => q2 (z r q1))⟩
  · rcases hA with ⟨rfl, -⟩ | ⟨-, q⟩
    · exact absurd hz (by decide)
    · exact go T 0 hT (Or.inr ⟨rfl, q⟩) (by omega)
  · obtain ⟨r1, r2, r3, r4⟩ := (RWm_q hR hT) m (by omega)
    rcases hA with ⟨-, q⟩ | ⟨rfl, -⟩
    · refine go T 1 hT (Or.inl ⟨rfl, fun r hr => ?_⟩) (by omega)
      by_cases e : r = m
      · rw [e]
        exact fun y => absurd hh (r1.mp y)
      · exact q r (by omega)
    · exact absurd li_0 hz
  · have hRT := RWm_q hR hT
    obtain ⟨r1, r2, r3, r4⟩ := hRT m (by omega)
    have hXT := RX_q hX hT
    have rm : (nI m).toInt.toNat = m := by rw [xn]; omega
    refine q_goesE T (nI m) 3 (nI s) _ nv cu ac gb (css m) (by omega) hXT.1 hXT.2.1 hV hW (by rw [hpk]; exact hXT.2.2.2.2.2.2) hXT.2.2.2.2.1 h0 (by rw [rm]; exact r2) r3 (by rw [rm]; exact r4) (fun c a => hXT.2.2.1 3 c a) (fun U hU hBU _ _ _ _ => ?_)
    have hU2 : RQ S U := RQ_tr hT ⟨hU.wk (by decide), SInv_c hT.2.1 hU (by decide), hBU⟩
    have u38 : ar U 38 = ar T 38 := hU.2.2.1 38 (by decide)
    have ul : (nI (css m).length).toInt = ((css m).length : Int) := nI_toInt (by omega)
    rw [u38, r2, ul]
    rcases hA with ⟨-, q⟩ | ⟨rfl, -⟩
    rotate_left
    · exact absurd li_0 hz
    refine ⟨by omega, fun hne => go U 0 hU2 (Or.inr ⟨rfl, m, by omega, fun z => hne (z (r1.mpr hh))⟩) (by omega), fun he => go U 1 hU2 (Or.inl ⟨rfl, fun r hr => ?_⟩) (by omega)⟩
    by_cases e : r = m
    · rw [e]
      exact fun _ => he
    · exact q r (by omega)
set_option maxHeartbeats 1000000 in
theorem q_stopE (S : GS) (n d x : Int32) (post : Int32 → GS → Prop) (nv : List OL) (cu : List CuT) (ac : Nat → Option AcT) (g gb : SV) (hon : Nat → Bool) (css : Nat → List Int32) (hX : RX S nv cu ac g) (hR : RWm S hon css) (hV : GV gb) (hW : GW gb) (h0 : ∀ i, i = 0 ∨ i = 4 ∨ i = 8 → gb (10 + i) = 0) (hpk : pkI gb = pkI g) (k0 : ¬ ((0 ≤ n.toInt ∧ n.toInt < (nv.length : Int)) ∧ (0 ≤ d.toInt ∧ d.toInt ≤ 6) ∧ (0 ≤ x.toInt ∧ x.toInt ≤ 1)) → post (-1) S) (k1 : ∀ ln o S', ((0 ≤ n.toInt ∧ n.toInt < (nv.length : Int)) ∧ (0 ≤ d.toInt ∧ d.toInt ≤ 6) ∧ (0 ≤ x.toInt ∧ x.toInt ≤ 1)) → nv[n.toInt.toNat]? = some ln → RQ S S' → LXf (stB cu ac ln d g gb hon css) (2 ^ cu.length) o → post (stVa x o) S') : w_X12_stop S n d x post := by
  unfold w_X12_stop w_X12_stop_B27
  have hcu : cu.length ≤ 5 := hX.1.2.1.2.1
  have h17 : fi S 17 = nI cu.length := i_eq (by rw [nI_toInt (by omega)]; exact hX.1.2.1.1)
  obtain ⟨p32, psh⟩ := pw_N cu.length hcu
  refine q_isNeverTextE S n _ nv cu ac hX.1 (fun hn => ⟨fun _ => k0 (fun q => hn q.1), fun z => absurd li_0 z⟩) (fun hn => ⟨fun z => absurd z (by decide), fun _ => ?_⟩)
  refine q_isIn _ _ _ _ _ (fun r2 _ h2 => ?_)
  rw [li_0, li_6] at h2
  refine ⟨fun _ => k0 (by omega), fun _ => q_isIn _ _ _ _ _ (fun r3 _ h3 => ?_)⟩
  rw [li_0, li_1] at h3
  refine ⟨fun _ => ?_, fun _ => k0 (by omega)⟩
  have hok : (0 ≤ n.toInt ∧ n.toInt < (nv.length : Int)) ∧ (0 ≤ d.toInt ∧ d.toInt ≤ 6) ∧ (0 ≤ x.toInt ∧ x.toInt ≤ 1) := by omega
  obtain ⟨ln, hln⟩ : ∃ ln, nv[n.toInt.toNat]? = some ln := ⟨_, List.getElem?_eq_getElem (by omega)⟩
  have cn : (nI cu.length).toInt = (cu.length : Int) := nI_toInt (by omega)
  have zn : (nI (2 ^ cu.length)).toInt = ((2 ^ cu.length : Nat) : Int) := nI_toInt (by omega)
  refine lr5 (fun (T : GS) (n' d' x' m' : Int32) => n' = n ∧ d' = d ∧ x' = x ∧ RQ S T ∧ ∃ m : Nat, m' = nI m ∧ m ≤ 6 ∧ AHD (stB cu ac ln d g gb hon css) (2 ^ cu.length) m 0) (fun _ _ _ _ m => (6 - m.toInt).toNat) ?_ _ _ _ _ _ ⟨rfl, rfl, rfl, RQ_rf hX.2.2.2.1 hX.2.2.2.2.1, 0, rfl, by omega, fun s' h1 h2 => by omega⟩
  rintro kk T n' d' x' m' ⟨rfl, rfl, rfl, hT, m, rfl, hm, hA⟩ hk
  unfold w_X12_stop_F32 w_X12_stop_B127
  have mn : (nI m).toInt = (m : Int) := nI_toInt (by omega)
  have t17 : fi T 17 = nI cu.length := (hT.1.1 17 (by decide)).trans h17
  rw [mn, t17, cn]
  refine ⟨fun h => ?_, fun h => ?_⟩
  · exact k1 ln none T hok hln hT (AHD_0 hA (fun s' h1 h2 => by
      have := pc_N cu.length hcu s' h1
      omega))
  refine lr6 (fun (U : GS) (n2' d2 x2 m2' s' : Int32) => n2' = n' ∧ d2 = d' ∧ x2 = x' ∧ m2' = nI m ∧ RQ S U ∧ ∃ s : Nat, s' = nI s ∧ s ≤ 2 ^ cu.length ∧ AHD (stB cu ac ln d' g gb hon css) (2 ^ cu.length) m s) (fun _ _ _ _ _ s => (32 - s.toInt).toNat) ?_ _ _ _ _ _ _ ⟨rfl, rfl, rfl, rfl, hT, 0, rfl, Nat.zero_le _, hA⟩
  rintro kk2 U n2' d2 x2 m2' s' ⟨rfl, rfl, rfl, rfl, hU, s, rfl, hs, hA2⟩ hk2
  unfold w_X12_stop_F44 w_X12_stop_B121 w_X12_stop_B115 w_X12_stop_B114
  have sn : (nI s).toInt = (s : Int) := nI_toInt (by omega)
  have mi : nI m + 1 = nI (m + 1) := nI_inc (by omega)
  have si' : nI s + 1 = nI (s + 1) := nI_inc (by omega)
  have u17 : fi U 17 = nI cu.length := (hU.1.1 17 (by decide)).trans h17
  rw [u17, psh, zn, sn, mi, si', mn]
  refine ⟨fun h7 => ?_, fun h7 => ?_⟩
  · exact hk _ _ _ _ _ ⟨rfl, rfl, rfl, hU, m + 1, rfl, by omega, AHD_n hA2 (by omega) (fun s' _ _ => Nat.zero_le _)⟩ (by rw [nI_toInt (by omega), mn]; omega)
  refine q_bitsE U s _ (by omega) ?_
  have bp := pc_5 s (by omega)
  have pn : (nI (pc s)).toInt = (pc s : Int) := nI_toInt (by omega)
  rw [pn]
  have next : ¬ (pc s = m ∧ stB cu ac ln d2 g gb hon css s = true) → ∀ V, RQ S V → kk2 V n2' d2 x2 (nI m) (nI (s + 1)) := fun hz V hV => hk2 _ _ _ _ _ _ ⟨rfl, rfl, rfl, rfl, hV, s + 1, rfl, by omega, AHD_s hA2 hz⟩ (by rw [nI_toInt (by omega), sn]; omega)
  refine ⟨fun he => next (fun q => by omega) U hU, fun he => ?_⟩
  refine q_isHonestAllE U s _ nv cu ac g gb hon css (RX_q hX hU) (RWm_q hR hU) hV hW h0 hpk (fun V hVq hH => ⟨fun _ => ?_, fun z => absurd z (by decide)⟩) (fun V hVq hH => ⟨fun z => absurd li_0 z, fun _ => next (fun q => hH (stB_y.mp q.2).1) V (RQ_tr hU hVq)⟩)
  have hV2 := RQ_tr hU hVq
  refine q_searchW V n2' 3 d2 7 (nI s) _ nv cu ac g ln (RX_q hX hV2) hn.1 hln (fun W hWq hr hs1 _ => ?_)
  have hW2 := RQ_tr hV2 hWq
  refine ⟨fun hz => next (fun q => hz ?_) W hW2, fun hz => ⟨fun h23 => next (fun q => ?_) W hW2, fun h23 => ?_⟩⟩
  · rw [hr]
    exact (stB_y.mp q.2).2.1
  · have e := hs1 hz
    rw [(stB_y.mp q.2).2.2, if_neg (by decide)] at e
    exact h23 (by rw [e]; exact li_0)
  · have hsp : (bsW cu ac 3 7 (nI s) d2 g).2 = false := by
      have e := hs1 hz
      cases q : (bsW cu ac 3 7 (nI s) d2 g).2 with
      | false => rfl
      | true =>
        exfalso
        rw [q, if_pos rfl] at e
        rw [e] at h23
        exact absurd h23 (by decide)
    have hp := k1 ln (some s) W hok hln hW2 (AHD_y hA2 (by omega) (by omega) (stB_y.mpr ⟨hH, by rw [← hr]; exact hz, hsp⟩))
    refine ⟨fun hx => ?_, fun hx => ?_⟩
    · rw [show stVa x2 (some s) = nI (pc s) from if_neg hx, show pc s = m by omega] at hp
      exact hp
    · rw [show stVa x2 (some s) = nI s from if_pos hx] at hp
      exact hp
