/-- the SEARCH that the class's numbers tell -/
abbrev BN (S : KS) (cu : List CuT) (ac : Nat → Option AcT) (g : SV) (n : Nat) : BS := bsN cu ac (fi S.1 27) (fi S.1 30) (cdL ac (fi S.1 27) (fi S.1 29) 768) (fi S.1 28).toInt g n
/-- the class's SEARCH stands at n -/
def CWx (S : KS) (cu : List CuT) (ac : Nat → Option AcT) (g : SV) (n : Nat) : Prop := n ≤ (BN S cu ac g n).1.length ∧ (fi S.1 31).toInt = (n : Int) ∧ CSr S (BN S cu ac g n) ∧ CCd S (cdL ac (fi S.1 27) (fi S.1 29) 768)
/-- what the search's rows are between two calls -/
def CJx (S : KS) (cu : List CuT) (ac : Nat → Option AcT) : Prop := JZ (ar S.1 5) ∧ ((fi S.1 32).toInt ≠ 0 → ∃ n, CWx S cu ac (cz (ar S.1 1)) n)
theorem CWx_cg {S S' : KS} {cu : List CuT} {ac : Nat → Option AcT} {g : SV} {n : Nat} (h : CWx S cu ac g n) (e : ∀ i, i ∈ [26, 27, 28, 29, 30, 31, 33, 34] → fi S'.1 i = fi S.1 i) (a : ∀ j, j ∈ [17, 20, 21] → ar S'.1 j = ar S.1 j) (b : al S'.1 2 = al S.1 2) : CWx S' cu ac g n := by
  obtain ⟨h1, h2, h3, h4⟩ := h
  have eB : BN S' cu ac g n = BN S cu ac g n := by
    unfold BN
    rw [e 27 (by decide), e 28 (by decide), e 29 (by decide), e 30 (by decide)]
  refine ⟨by rw [eB]; exact h1, by rw [e 31 (by decide)]; exact h2, ?_, ?_⟩
  · rw [eB]
    exact CSr_cg h3 (e 33 (by decide)) (e 34 (by decide)) (a 17 (by decide)) (a 20 (by decide)) b
  · rw [e 27 (by decide), e 29 (by decide)]
    exact CCd_cg h4 (e 26 (by decide)) (a 21 (by decide))
theorem CJx_cg {S S' : KS} {cu : List CuT} {ac : Nat → Option AcT} (h : CJx S cu ac) (e : ∀ i, i ∈ [26, 27, 28, 29, 30, 31, 32, 33, 34] → fi S'.1 i = fi S.1 i) (a : ∀ j, j ∈ [1, 5, 17, 20, 21] → ar S'.1 j = ar S.1 j) (b : al S'.1 2 = al S.1 2) : CJx S' cu ac := by
  obtain ⟨h1, h2⟩ := h
  refine ⟨by rw [a 5 (by decide)]; exact h1, fun hz => ?_⟩
  rw [e 32 (by decide)] at hz
  obtain ⟨n, hn⟩ := h2 hz
  rw [a 1 (by decide)]
  exact ⟨n, CWx_cg hn (fun i hi => e i (by revert hi; revert i; decide)) (fun j hj => a j (by revert hj; revert j; decide)) b⟩
theorem CJx_0 {S S' : KS} {cu cu' : List CuT} {ac ac' : Nat → Option AcT} (h : CJx S cu ac) (a : ar S'.1 5 = ar S.1 5) (z : (fi S'.1 32).toInt = 0) : CJx S' cu' ac' := ⟨by rw [a]; exact h.1, fun q => absurd z q⟩
abbrev KG : KS → KS → Prop := KF [23, 24, 25, 31, 33, 34] [3, 5, 16, 17, 18, 19, 20] [2]
set_option maxHeartbeats 2000000 in
theorem r_8_growE (cy : Nat → ClassId) (tE : Nat) (S : KS) (post : Int32 → KS → Prop) (nv : List OL) (cu : List CuT) (ac : Nat → Option AcT) (g : SV) (n : Nat) (hH : HQx cy S nv cu ac) (hG : GdL nv cu ac) (hW : CWx S cu ac g n) (h5 : JZ (ar S.1 5)) (hPM : ∀ c a, (0 ≤ c.toInt ∧ c.toInt ≤ 767) → actO ac c (fi S.1 27) = some a → ∀ w ∈ a.2.2.2.2, PM c w) (k0 : DNE (fi S.1 28).toInt n (BN S cu ac g n) → post 0 S) (k1 : ∀ S', KG S S' → CWx S' cu ac g (n + 1) → JZ (ar S'.1 5) → n + 1 ≤ 400 → post 1 S') : w_X8_grow cy tE S post := by
  unfold w_X8_grow w_X8_grow_B34
  obtain ⟨hn, h31, hL, hC⟩ := hW
  have eBN : BN S cu ac g (n + 1) = bsG cu ac (fi S.1 27) (fi S.1 30) (cdL ac (fi S.1 27) (fi S.1 29) 768) (fi S.1 28).toInt n (BN S cu ac g n) := rfl
  generalize hLg : BN S cu ac g n = L at hn hL k0 eBN
  obtain ⟨t1, t0⟩ := CSr_t hL
  obtain ⟨l33, l400, lE, lT, l34⟩ := id hL
  refine ⟨fun h => k0 (Or.inl (t1 h)), fun h34 => ⟨fun h => k0 (Or.inr (Or.inl (by omega))), fun hlt => ⟨by omega, ?_⟩⟩⟩
  have hnl : n < L.1.length := by omega
  obtain ⟨e, he⟩ : ∃ e, L.1[n]? = some e := ⟨_, List.getElem?_eq_getElem hnl⟩
  obtain ⟨e1, e2, e3⟩ := lE n e he
  have n31 : (fi S.1 31).toNatClampNeg = n := by rw [tnc, h31]; omega
  rw [n31, e2]
  refine ⟨fun hd => ⟨by omega, ?_⟩, fun hd => k0 (Or.inr (Or.inr ⟨e, he, hd⟩))⟩
  have eG : BN S cu ac g (n + 1) = bsC cu ac (fi S.1 27) (fi S.1 30) e.1 (e.2 + 1) (cdL ac (fi S.1 27) (fi S.1 29) 768) L := by
    rw [eBN]
    refine bsG_y he (fun z => ?_)
    rcases z with z | z
    · rw [t0 h34] at z; exact absurd z (by decide)
    · omega
  clear eBN
  have hmo := i_rng (fi S.1 28)
  refine r_9_unpackE cy tE S _ _ e.1 e3.1 e1 (fun S4 f4 x4 j4 q4 => ?_)
  have hK4 : KF [] [5] [] S S4 := by
    refine ⟨f4, by rw [x4], fun _ _ => by rw [x4], fun q => by rw [x4]; exact q, fun q => ?_⟩
    unfold FLG fi at *
    rw [f4.1 17 (by decide), f4.1 18 (by decide)]
    exact q
  have hJ4 : JZ (ar S4.1 5) := fun i hi hm => (j4 i hi hm).trans (h5 i hi hm)
  have hA4 : AGR (ar S4.1 5) e.1 := JZ_AGR hJ4 e3.2.2 q4
  generalize hcs : cdL ac (fi S.1 27) (fi S.1 29) 768 = cs at hC eG
  have hcr : ∀ c ∈ cs, 0 ≤ c.toInt ∧ c.toInt ≤ 767 := fun c hc => by
    rw [← hcs] at hc
    exact cdL_r (Nat.le_refl _) hc
  have hcl : cs.length ≤ 216 := by rw [← hcs]; exact cdL_l
  have hL4 : CSr S4 L := CSr_cg hL (f4.1 33 (by decide)) (f4.1 34 (by decide)) (f4.2.2.1 17 (by decide)) (f4.2.2.1 20 (by decide)) (f4.2.2.2 2 (by decide))
  obtain ⟨c26, c21⟩ := hC
  refine lr2 (fun (T : KS) (x : Int32) => KF [23, 24, 25, 33, 34] [3, 5, 16, 17, 18, 19, 20] [2] S T ∧ ∃ (m : Nat) (rest : List Int32) (L' : BS), x = nI m ∧ m + rest.length = cs.length ∧ (∀ (t : Nat) (c : Int32), rest[t]? = some c → cs[m + t]? = some c) ∧ CSr T L' ∧ L'.1[n]? = some e ∧ AGR (ar T.1 5) e.1 ∧ bsC cu ac (fi S.1 27) (fi S.1 30) e.1 (e.2 + 1) rest L' = bsC cu ac (fi S.1 27) (fi S.1 30) e.1 (e.2 + 1) cs L) (fun _ x => (300 - x.toInt).toNat) ?_ _ _ ⟨KF_wk hK4 (by decide), 0, cs, L, rfl, Nat.zero_add _, fun t c h => (by rw [Nat.zero_add]; exact h), hL4, he, hA4, rfl⟩
  rintro kk T x ⟨hT, m, rest, L', rfl, hlen, hrest, hLT, heT, hAT, hbs⟩ hk
  unfold w_X8_grow_F54 w_X8_grow_B130 w_X8_grow_B124
  have xn : (nI m).toInt = (m : Int) := nI_toInt (by omega)
  have t26 : fi T.1 26 = fi S.1 26 := hT.1.1 26 (by decide)
  have t27 : fi T.1 27 = fi S.1 27 := hT.1.1 27 (by decide)
  have t28 : fi T.1 28 = fi S.1 28 := hT.1.1 28 (by decide)
  have t29 : fi T.1 29 = fi S.1 29 := hT.1.1 29 (by decide)
  have t30 : fi T.1 30 = fi S.1 30 := hT.1.1 30 (by decide)
  have t31 : fi T.1 31 = fi S.1 31 := hT.1.1 31 (by decide)
  have t21 : ar T.1 21 = ar S.1 21 := hT.1.2.2.1 21 (by decide)
  have fin : bsC cu ac (fi S.1 27) (fi S.1 30) e.1 (e.2 + 1) rest L' = L' → post 1 (ksi T 31 (fi T.1 31 + 1)) := by
    intro hz
    have u31 : fi (ksi T 31 (fi T.1 31 + 1)).1 31 = fi T.1 31 + 1 := si_at _ _ _
    have ui : ∀ i, i ≠ 31 → fi (ksi T 31 (fi T.1 31 + 1)).1 i = fi T.1 i := fun i hi => si_ne hi
    have eB : BN (ksi T 31 (fi T.1 31 + 1)) cu ac g (n + 1) = L' := by
      have q : BN (ksi T 31 (fi T.1 31 + 1)) cu ac g (n + 1) = BN S cu ac g (n + 1) := by
        unfold BN
        rw [ui 27 (by decide), ui 28 (by decide), ui 29 (by decide), ui 30 (by decide), t27, t28, t29, t30]
      rw [q, eG, ← hbs, hz]
    have hl' := gt_lt heT
    refine k1 _ (KF_si (by decide) (KF_wk hT (by decide))) ⟨by rw [eB]; omega, ?_, ?_, ?_⟩ (JZ_of hAT e3.2.2) (by omega)
    · rw [u31, t31, inc1 (by omega), h31]
      omega
    · rw [eB]
      exact CSr_cg hLT (ui 33 (by decide)) (ui 34 (by decide)) rfl rfl rfl
    · rw [ui 27 (by decide), ui 29 (by decide), t27, t29, hcs]
      refine CCd_cg (S := S) ⟨c26, c21⟩ ((ui 26 (by decide)).trans t26) t21
  obtain ⟨tt1, tt0⟩ := CSr_t hLT
  rw [t26, c26, xn]
  refine ⟨fun hge => fin ?_, fun hlt2 => ⟨fun h => fin (bsC_t (tt1 h)), fun h34' => ⟨by omega, ?_⟩⟩⟩
  · rcases rest with _ | ⟨c, rest⟩
    · rfl
    · simp only [List.length_cons] at hlen
      exfalso; omega
  rcases rest with _ | ⟨c, rest⟩
  · simp only [List.length_nil] at hlen
    exfalso; omega
  simp only [List.length_cons] at hlen
  have hc0 := hrest 0 c rfl
  have hcm := hcr c (List.mem_of_getElem? hc0)
  have mn : (nI m).toNatClampNeg = m := by rw [tnc, xn]; omega
  have ec : ar S.1 21 m = c := c21 m c hc0
  rw [mn, t21, ec, t27, t30]
  have sm1 : nI m + 1 = nI (m + 1) := nI_inc (by omega)
  have go : ∀ (V : KS) (L2 : BS), KF [23, 24, 25, 33, 34] [3, 5, 16, 17, 18, 19, 20] [2] S V → CSr V L2 → L2.1[n]? = some e → AGR (ar V.1 5) e.1 → bsC cu ac (fi S.1 27) (fi S.1 30) e.1 (e.2 + 1) rest L2 = bsC cu ac (fi S.1 27) (fi S.1 30) e.1 (e.2 + 1) cs L → kk V (nI m + 1) := by
    intro V L2 a1 a2 a3 a4 a5
    rw [sm1]
    refine hk _ _ ⟨a1, m + 1, rest, L2, rfl, by omega, fun t c' h => ?_, a2, a3, a4, a5⟩ (by rw [nI_toInt (by omega), xn]; omega)
    have h5' := hrest (t + 1) c' h
    have e5 : m + 1 + t = m + (t + 1) := by omega
    rw [e5]; exact h5'
  have hHT : HQx cy T nv cu ac := HQx_kf hH hT
  refine r_2_whyE cy tE T 4 c (fi S.1 27) (fi S.1 30) _ nv cu ac e.1 (by decide) hHT hG hAT hcm (fun a h => hPM c a hcm h) (fun U hU hrU h3U => ?_)
  have hU2 : KF [23, 24, 25, 33, 34] [3, 5, 16, 17, 18, 19, 20] [2] S U := by
    have f1 : Fr [23, 24, 25, 33, 34] [] [3, 5, 16, 17, 18, 19, 20] [2] T.1 U.1 := by
      refine ⟨fun i hi => hU.1.1 i (fun z => hi (by clear hi; revert z; revert i; decide)), hU.1.2.1, fun j hj => ?_, fun j hj => hU.1.2.2.2 j (by simp)⟩
      by_cases ej : j = 4
      · rw [ej]; exact hrU 3 (by decide) (by decide)
      by_cases ej2 : j = 2
      · rw [ej2]; exact hrU 1 (by decide) (by decide)
      · refine hU.1.2.2.1 j (fun z => hj ?_)
        have z2 : j = 2 ∨ j = 3 ∨ j = 4 ∨ j = 5 ∨ j = 16 := by simpa using z
        rcases z2 with rfl | rfl | rfl | rfl | rfl
        · exact absurd rfl ej2
        · decide
        · exact absurd rfl ej
        · decide
        · decide
    exact KF_tr hT ⟨f1, hU.2⟩
  have hLU : CSr U L' := CSr_cg hLT (hU.1.1 33 (by decide)) (hU.1.1 34 (by decide)) (hU.1.2.2.1 17 (by decide)) (hU.1.2.2.1 20 (by decide)) (hU.1.2.2.2 2 (by decide))
  have e5U : ar U.1 5 = ar T.1 5 := hrU 4 (by decide) (by decide)
  have u31 : fi U.1 31 = fi T.1 31 := hU.1.1 31 (by decide)
  have u21 : ar U.1 21 = ar T.1 21 := hU.1.2.2.1 21 (by decide)
  refine ⟨fun hz => go U L' hU2 hLU heT (by rw [e5U]; exact hAT) ((bsC_n hz).symm.trans hbs), fun hz => ?_⟩
  have h3V := h3U hz
  have hGJ := GJ_wy (nv := nv) (cu := cu) (ac := ac) (g := e.1) (c := c) (set := fi S.1 30) (laws := fi S.1 27) hG e3 (fun a h => hPM c a hcm h) hz
  have hbs2 := (bsC_y (d := e.2 + 1) (r := rest) (tt0 h34') hz).symm.trans hbs
  generalize (wyO cu e.1 c (fi S.1 30) (actO ac c (fi S.1 27))).2 = f at h3V hGJ hbs2
  refine r_9_packedE cy tE U 2 _ f (by decide) hGJ.1 (AGR_EQV h3V) (fun v hv => ⟨by omega, ?_⟩)
  rw [u31, t31]
  refine r_8_meetE cy tE U v (fi S.1 31) _ _ L' f (e.2 + 1) hLU hGJ hv (Or.inr ⟨n, e, h31, heT, rfl, by omega⟩) (fun V hV hLV => ?_)
  obtain ⟨tl, htl⟩ := bsM_p (L := L') (g := f) (d := e.2 + 1)
  have v5 : ar V.1 5 = ar U.1 5 := hV.1.2.2.1 5 (by decide)
  refine go V _ (KF_tr hU2 (KF_wk hV (by decide))) hLV ?_ (by rw [v5, e5U]; exact hAT) hbs2
  rw [htl, List.getElem?_append_left (gt_lt heT)]
  exact heT
/-- what a SEARCH begins with: the numbers told -/
abbrev KB : KS → KS → Prop := KF [23, 24, 25, 26, 27, 28, 29, 30, 31, 32, 33, 34] [3, 5, 16, 17, 18, 19, 20, 21] [2]
theorem r_fillE (cy : Nat → ClassId) (tE : Nat) (S : KS) (v : Int32) (post : KS → Prop) (k : ∀ S', KF [] [20] [] S S' → (∀ p, p < 1024 → ar S'.1 20 p = v) → post S') : w_J7_fill_53178 cy tE S v post := by
  unfold w_J7_fill_53178
  refine lr4 (fun (T : KS) (y x n : Int32) => y = v ∧ n = 1024 ∧ KF [] [20] [] S T ∧ ∃ m : Nat, m ≤ 1024 ∧ x = nI m ∧ ∀ p, p < m → ar T.1 20 p = v) (fun _ _ x _ => (1024 - x.toInt).toNat) ?_ _ _ _ _ ⟨rfl, rfl, KF_rf S, 0, by omega, rfl, fun p hp => absurd hp (Nat.not_lt_zero _)⟩
  rintro kk T y x n ⟨rfl, rfl, hT, m, hm, rfl, hp⟩ hk
  unfold w_J7_fill_53178_F5 w_J7_fill_53178_B20
  have xn : (nI m).toInt = (m : Int) := nI_toInt (by omega)
  have mn : (nI m).toNatClampNeg = m := by rw [tnc, xn]; omega
  rw [xn, li_1024, mn]
  refine ⟨fun h => k T hT (fun p hp2 => hp p (by omega)), fun h => ⟨by omega, ?_⟩⟩
  have s1 : nI m + 1 = nI (m + 1) := nI_incL (by omega)
  rw [s1]
  refine hk _ _ _ _ ⟨rfl, rfl, KF_su (by decide) hT, m + 1, by omega, rfl, fun p hp2 => ?_⟩ (by rw [nI_toInt (by omega), xn]; omega)
  have e : ar (ksu T 20 m y).1 20 = upd (ar T.1 20) m y := su_at _ _ _ _
  rw [e]
  by_cases q : p = m
  · rw [q, upd_at]
  · rw [upd_ne q]; exact hp p (by omega)
set_option maxHeartbeats 1000000 in
theorem r_8_beginE (cy : Nat → ClassId) (tE : Nat) (S : KS) (a b c d : Int32) (post : KS → Prop) (nv : List OL) (cu : List CuT) (ac : Nat → Option AcT) (hH : HQx cy S nv cu ac) (hG : GdL nv cu ac) (hJ : CJx S cu ac) (hV : GV (ar S.1 1)) (hW : GW (ar S.1 1)) (k : ∀ S' n, KB S S' → ar S'.1 1 = ar S.1 1 → JZ (ar S'.1 5) → fi S'.1 27 = a → fi S'.1 28 = b → fi S'.1 29 = c → fi S'.1 30 = d → CWx S' cu ac (cz (ar S.1 1)) n → post S') : w_X8_begin cy tE S a b c d post := by
  have b53 : w_X8_begin_B53 cy tE post S a b c d := by
    unfold w_X8_begin_B53
    have h0 : KF [27, 28, 29, 30, 32] [] [] S (ksi (ksi (ksi (ksi (ksi S 32 1) 27 a) 28 b) 29 c) 30 d) := KF_si (by decide) (KF_si (by decide) (KF_si (by decide) (KF_si (by decide) (KF_si (by decide) (KF_rf S)))))
    have q27 : fi (ksi (ksi (ksi (ksi (ksi S 32 1) 27 a) 28 b) 29 c) 30 d).1 27 = a := (si_ne (by decide)).trans ((si_ne (by decide)).trans ((si_ne (by decide)).trans (si_at _ _ _)))
    have q28 : fi (ksi (ksi (ksi (ksi (ksi S 32 1) 27 a) 28 b) 29 c) 30 d).1 28 = b := (si_ne (by decide)).trans ((si_ne (by decide)).trans (si_at _ _ _))
    have q29 : fi (ksi (ksi (ksi (ksi (ksi S 32 1) 27 a) 28 b) 29 c) 30 d).1 29 = c := (si_ne (by decide)).trans (si_at _ _ _)
    have q30 : fi (ksi (ksi (ksi (ksi (ksi S 32 1) 27 a) 28 b) 29 c) 30 d).1 30 = d := si_at _ _ _
    generalize ksi (ksi (ksi (ksi (ksi S 32 1) 27 a) 28 b) 29 c) 30 d = T at h0 q27 q28 q29 q30 ⊢
    refine r_8_listCodesE cy tE T _ nv cu ac (HQx_kf hH h0) hG (fun T2 h2 hc => ?_)
    rw [q27, q29] at hc
    refine r_fillE cy tE T2 0 _ (fun T3 h3 hz => ?_)
    have hF : KF [26, 27, 28, 29, 30, 32] [20, 21] [] S T3 := KF_tr (KF_wk h0 (by decide)) (KF_tr (KF_wk h2 (by decide)) (KF_wk h3 (by decide)))
    have w27 : fi T3.1 27 = a := (h3.1.1 27 (by decide)).trans ((h2.1.1 27 (by decide)).trans q27)
    have w28 : fi T3.1 28 = b := (h3.1.1 28 (by decide)).trans ((h2.1.1 28 (by decide)).trans q28)
    have w29 : fi T3.1 29 = c := (h3.1.1 29 (by decide)).trans ((h2.1.1 29 (by decide)).trans q29)
    have w30 : fi T3.1 30 = d := (h3.1.1 30 (by decide)).trans ((h2.1.1 30 (by decide)).trans q30)
    have hc3 : CCd T3 (cdL ac a c 768) := CCd_cg hc (h3.1.1 26 (by decide)) (h3.1.2.2.1 21 (by decide))
    have hU : KF [26, 27, 28, 29, 30, 31, 32, 33, 34] [20, 21] [] S (ksi (ksi (ksi T3 33 0) 31 0) 34 0) := KF_si (by decide) (KF_si (by decide) (KF_si (by decide) (KF_wk hF (by decide))))
    have u33 : fi (ksi (ksi (ksi T3 33 0) 31 0) 34 0).1 33 = 0 := (si_ne (by decide)).trans ((si_ne (by decide)).trans (si_at _ _ _))
    have u31 : fi (ksi (ksi (ksi T3 33 0) 31 0) 34 0).1 31 = 0 := (si_ne (by decide)).trans (si_at _ _ _)
    have u34 : fi (ksi (ksi (ksi T3 33 0) 31 0) 34 0).1 34 = 0 := si_at _ _ _
    have ui : ∀ i, i ≠ 31 → i ≠ 33 → i ≠ 34 → fi (ksi (ksi (ksi T3 33 0) 31 0) 34 0).1 i = fi T3.1 i := fun i h1 h2 h3 => (si_ne h3).trans ((si_ne h1).trans (si_ne h2))
    have ua : ∀ j, ar (ksi (ksi (ksi T3 33 0) 31 0) 34 0).1 j = ar T3.1 j := fun j => rfl
    generalize ksi (ksi (ksi T3 33 0) 31 0) 34 0 = U at hU u33 u31 u34 ui ua ⊢
    have u1 : ar U.1 1 = ar S.1 1 := hU.1.2.2.1 1 (by decide)
    have u5 : ar U.1 5 = ar S.1 5 := hU.1.2.2.1 5 (by decide)
    have hGJ := GJ_cz hV hW
    have hLU : CSr U ([], false) := ⟨by rw [u33]; exact li_0, by decide, fun j e hj => absurd hj (by simp), TBI_0 (fun p hp => by
      show (ar U.1 20 p).toInt - 1 = -1
      rw [ua, hz p hp]; decide), by rw [u34] <;> rfl⟩
    refine r_9_packedE cy tE U 0 _ (cz (ar S.1 1)) (by decide) hGJ.1 (by
      show EQV (ar U.1 1) _
      rw [u1]
      exact EQV_sy (EQV_cz _)) (fun v hv => ?_)
    refine r_8_meetE cy tE U v (-1) (-1) _ ([], false) (cz (ar S.1 1)) 0 hLU hGJ hv (Or.inl ⟨by decide, rfl⟩) (fun V hVf hLV => ?_)
    have eM : bsM ([], false) (cz (ar S.1 1)) 0 = ([(cz (ar S.1 1), 0)], false) := bsM_a (fun ⟨e, he, _⟩ => (by simp at he)) (by decide)
    rw [eM] at hLV
    have vi : ∀ i, i ≠ 31 → i ≠ 33 → i ≠ 34 → fi V.1 i = fi T3.1 i := fun i h1 h2 h3 => (hVf.1.1 i (by
      intro z
      have z2 : i = 33 ∨ i = 34 := by simpa using z
      omega)).trans (ui i h1 h2 h3)
    have v31 : fi V.1 31 = 0 := (hVf.1.1 31 (by decide)).trans u31
    have v27 : fi V.1 27 = a := (vi 27 (by decide) (by decide) (by decide)).trans w27
    have v28 : fi V.1 28 = b := (vi 28 (by decide) (by decide) (by decide)).trans w28
    have v29 : fi V.1 29 = c := (vi 29 (by decide) (by decide) (by decide)).trans w29
    have v30 : fi V.1 30 = d := (vi 30 (by decide) (by decide) (by decide)).trans w30
    have v5 : ar V.1 5 = ar S.1 5 := (hVf.1.2.2.1 5 (by decide)).trans u5
    refine k V 0 (KF_tr (KF_wk hU (by decide)) (KF_wk hVf (by decide))) ((hVf.1.2.2.1 1 (by decide)).trans u1) (by rw [v5]; exact hJ.1) v27 v28 v29 v30 ⟨Nat.zero_le _, by rw [v31]; exact li_0, hLV, ?_⟩
    rw [v27, v29]
    exact CCd_cg hc3 (vi 26 (by decide) (by decide) (by decide)) ((hVf.1.2.2.1 21 (by decide)).trans (ua 21))
  unfold w_X8_begin w_X8_begin_B37 w_X8_begin_B38
  have b37 : ((fi S.1 32).toInt = 0 → w_X8_begin_B53 cy tE post S a b c d) ∧ ((fi S.1 32).toInt ≠ 0 → (((0 : Int32).toInt = 0 → w_X8_begin_B53 cy tE post S a b c d) ∧ ((0 : Int32).toInt ≠ 0 → post S))) := ⟨fun _ => b53, fun _ => ⟨fun _ => b53, fun z => absurd li_0 z⟩⟩
  refine ⟨fun _ => b37, fun ea => ⟨fun _ => b37, fun eb => ⟨fun _ => b37, fun ec => ⟨fun _ => b37, fun ed => ⟨fun _ => b53, fun h32 => ⟨fun z => absurd z (by decide), fun _ => ?_⟩⟩⟩⟩⟩⟩
  obtain ⟨n, hn⟩ := hJ.2 h32
  exact k S n (KF_rf S) rfl hJ.1 (i_eq ea.symm) (i_eq eb.symm) (i_eq ec.symm) (i_eq ed.symm) hn
/-- the whole of the SEARCH that the class's numbers tell -/
abbrev BNF (S : KS) (cu : List CuT) (ac : Nat → Option AcT) (g : SV) : BS := bsF cu ac (fi S.1 27) (fi S.1 30) (cdL ac (fi S.1 27) (fi S.1 29) 768) (fi S.1 28).toInt g
theorem KG_i {S S' : KS} (h : KG S S') : fi S'.1 27 = fi S.1 27 ∧ fi S'.1 28 = fi S.1 28 ∧ fi S'.1 29 = fi S.1 29 ∧ fi S'.1 30 = fi S.1 30 := ⟨h.1.1 27 (by decide), h.1.1 28 (by decide), h.1.1 29 (by decide), h.1.1 30 (by decide)⟩
theorem BNF_cg {S S' : KS} {cu : List CuT} {ac : Nat → Option AcT} {g : SV} (h : KG S S') : BNF S' cu ac g = BNF S cu ac g := by
  obtain ⟨e1, e2, e3, e4⟩ := KG_i h
  unfold BNF
  rw [e1, e2, e3, e4]
theorem BN_cg {S S' : KS} {cu : List CuT} {ac : Nat → Option AcT} {g : SV} {n : Nat} (h : KG S S') : BN S' cu ac g n = BN S cu ac g n := by
  obtain ⟨e1, e2, e3, e4⟩ := KG_i h
  unfold BN
  rw [e1, e2, e3, e4]
theorem CWx_n {S : KS} {cu : List CuT} {ac : Nat → Option AcT} {g : SV} {n : Nat} (h : CWx S cu ac g n) : n ≤ 400 := Nat.le_trans h.1 h.2.2.1.2.1
set_option maxHeartbeats 400000 in
theorem r_8_finishE (cy : Nat → ClassId) (tE : Nat) (S : KS) (post : KS → Prop) (nv : List OL) (cu : List CuT) (ac : Nat → Option AcT) (g : SV) (n : Nat) (hH : HQx cy S nv cu ac) (hG : GdL nv cu ac) (hW : CWx S cu ac g n) (h5 : JZ (ar S.1 5)) (hPM : ∀ c a, (0 ≤ c.toInt ∧ c.toInt ≤ 767) → actO ac c (fi S.1 27) = some a → ∀ w ∈ a.2.2.2.2, PM c w) (k : ∀ S' n', KG S S' → CWx S' cu ac g n' → JZ (ar S'.1 5) → BNF S cu ac g = BN S' cu ac g n' → post S') : w_X8_finish cy tE S post := by
  unfold w_X8_finish
  refine lr3 (fun (T : KS) (y x : Int32) => KG S T ∧ JZ (ar T.1 5) ∧ ∃ n' m : Nat, CWx T cu ac g n' ∧ x = nI m ∧ m ≤ 402 ∧ (y.toInt = 0 → BNF S cu ac g = BN T cu ac g n') ∧ (y.toInt ≠ 0 → m ≤ n')) (fun _ _ x => (402 - x.toInt).toNat) ?_ _ _ _ ⟨KF_rf S, h5, n, 0, hW, rfl, by omega, fun z => absurd z (by decide), fun _ => Nat.zero_le _⟩
  rintro kk T y x ⟨hT, hT5, n', m, hW', rfl, hm, hy0, hy1⟩ hk
  unfold w_X8_finish_F4 w_X8_finish_B26
  have xn : (nI m).toInt = (m : Int) := nI_toInt (by omega)
  have hn' := CWx_n hW'
  rw [xn]
  refine ⟨fun h => k T n' hT hW' hT5 (hy0 ?_), fun h => ⟨fun hz => k T n' hT hW' hT5 (hy0 hz), fun hz => ?_⟩⟩
  · by_cases z : y.toInt = 0
    · exact z
    · have := hy1 z; omega
  have s1 : nI m + 1 = nI (m + 1) := nI_inc (by omega)
  have e27 : fi T.1 27 = fi S.1 27 := hT.1.1 27 (by decide)
  have hy := hy1 hz
  refine r_8_growE cy tE T _ nv cu ac g n' (HQx_kf hH hT) hG hW' hT5 (fun c a h1 h2 => hPM c a h1 (by rw [← e27]; exact h2)) (fun hd => ?_) (fun U hU hWU hU5 _ => ?_)
  · rw [s1]
    refine hk _ _ _ ⟨hT, hT5, n', m + 1, hW', rfl, by omega, fun _ => ?_, fun z => absurd li_0 z⟩ (by rw [nI_toInt (by omega), xn]; omega)
    rw [← BNF_cg hT]
    exact bsF_d hn' hd
  · rw [s1]
    exact hk _ _ _ ⟨KF_tr hT hU, hU5, n' + 1, m + 1, hWU, rfl, by omega, fun z => absurd z (by decide), fun _ => by omega⟩ (by rw [nI_toInt (by omega), xn]; omega)
set_option maxHeartbeats 1000000 in
theorem r_8_firstE (cy : Nat → ClassId) (tE : Nat) (S : KS) (x : Int32) (post : Int32 → KS → Prop) (nv : List OL) (cu : List CuT) (ac : Nat → Option AcT) (g : SV) (n : Nat) (l : OL) (hH : HQx cy S nv cu ac) (hG : GdL nv cu ac) (hW : CWx S cu ac g n) (h5 : JZ (ar S.1 5)) (hPM : ∀ c a, (0 ≤ c.toInt ∧ c.toInt ≤ 767) → actO ac c (fi S.1 27) = some a → ∀ w ∈ a.2.2.2.2, PM c w) (hx : 0 ≤ x.toInt) (hl : nv[x.toInt.toNat]? = some l) (k : ∀ r S' n', KG S S' → CWx S' cu ac g n' → JZ (ar S'.1 5) → r.toInt = fsI (nvB l) (BNF S cu ac g).1 0 → (r.toInt = -1 → BNF S cu ac g = BN S' cu ac g n') → post r S') : w_X8_first cy tE S x post := by
  unfold w_X8_first w_X8_first_B21
  obtain ⟨A, h3, hN, -, -⟩ := id hH
  obtain ⟨i2, m2, e2, n2, hc2, hn2, hl2, hel⟩ := LSx_n hN
  have hxl := gt_lt hl
  have xN : x.toNatClampNeg = x.toInt.toNat := tnc x
  refine ⟨fun h => by exfalso; omega, fun _ => ⟨i2, _, hc2, r_size cy tE S _ i2 m2 n2 (.ref e2) _ hc2 ⟨fun hlt => ⟨i2, _, hc2, ?_⟩, fun h => by exfalso; omega⟩⟩⟩
  obtain ⟨j2, c2, ff, ha2, hnc, qc, hqc, l', hl', hCL⟩ := hel x.toInt.toNat hxl
  obtain rfl : l = l' := Option.some.inj (hl.symm.trans hl')
  have hCL2 := hCL
  obtain ⟨ic, oo, -, hcc, -⟩ := hCL2
  have hGB := hG.1 l (List.mem_of_getElem? hl)
  refine r_getE cy tE S _ i2 j2 c2 e2 m2 n2 x ff _ hc2 ha2 ⟨hx, hlt⟩ (by omega) ?_
  rw [xN]
  refine ⟨qc, hqc, ic, _, hcc, ?_⟩
  refine lr4 (fun (T : KS) (q : Nat) (lo y : Int32) => q = qc ∧ KG S T ∧ JZ (ar T.1 5) ∧ ∃ n' m lk : Nat, CWx T cu ac g n' ∧ y = nI m ∧ m ≤ n' ∧ lo = nI lk ∧ lk ≤ (BN T cu ac g n').1.length ∧ ∀ (i : Nat) (e : BE), i < lk → (BN T cu ac g n').1[i]? = some e → nvB l e.1 = false) (fun _ _ _ y => (402 - y.toInt).toNat) ?_ _ _ _ _ ⟨rfl, KF_rf S, h5, n, 0, 0, hW, rfl, Nat.zero_le _, rfl, Nat.zero_le _, fun i e hi => absurd hi (Nat.not_lt_zero _)⟩
  rintro kk T q lo y ⟨rfl, hT, hT5, n', m, lk, hW', rfl, hmn, rfl, hlk, hno⟩ hk
  unfold w_X8_first_F46 w_X8_first_B105
  have hn' := CWx_n hW'
  have yn : (nI m).toInt = (m : Int) := nI_toInt (by omega)
  rw [yn]
  refine ⟨fun h => by exfalso; omega, fun _ => ?_⟩
  have l400 := hW'.2.2.1.2.1
  refine lr4 (fun (U : KS) (q2 : Nat) (lo y : Int32) => q2 = q ∧ y = nI m ∧ KG S U ∧ JZ (ar U.1 5) ∧ CWx U cu ac g n' ∧ ∃ lk : Nat, lo = nI lk ∧ lk ≤ (BN U cu ac g n').1.length ∧ ∀ (i : Nat) (e : BE), i < lk → (BN U cu ac g n').1[i]? = some e → nvB l e.1 = false) (fun _ _ lo _ => (402 - lo.toInt).toNat) ?_ _ _ _ _ ⟨rfl, rfl, hT, hT5, hW', lk, rfl, hlk, hno⟩
  clear hno hlk hW' hT5 hT
  rintro kk2 U q2 lo y ⟨rfl, rfl, hU, hU5, hWU, lk, rfl, hlk, hno⟩ hk2
  unfold w_X8_first_F54 w_X8_first_B90
  obtain ⟨w1, w2, w3, w4⟩ := id hWU
  obtain ⟨l33, l400', lE, lT, l34⟩ := id w3
  have ln : (nI lk).toInt = (lk : Int) := nI_toInt (by omega)
  have e27 : fi U.1 27 = fi S.1 27 := hU.1.1 27 (by decide)
  have eBF := BNF_cg (cu := cu) (ac := ac) (g := g) hU
  rw [ln, l33]
  refine ⟨fun hge => ?_, fun hlt2 => ?_⟩
  · refine r_8_growE cy tE U _ nv cu ac g n' (HQx_kf hH hU) hG hWU hU5 (fun c a h1 h2 => hPM c a h1 (by rw [← e27]; exact h2)) (fun hd => ⟨fun z => absurd li_0 z, fun _ => ?_⟩) (fun V hV hWV hV5 h400 => ⟨fun _ => ?_, fun z => absurd z (by decide)⟩)
    · have hF : BNF S cu ac g = BN U cu ac g n' := by
        rw [← eBF]
        exact bsF_d hn' hd
      have m1 : (-1 : Int32).toInt = -1 := by decide
      refine k (-1) U n' hU hWU hU5 ?_ (fun _ => hF)
      rw [hF, m1]
      exact (fsI_no (fun i e hi => hno i e (by have := gt_lt hi; omega) hi)).symm
    · have s1 : nI m + 1 = nI (m + 1) := nI_inc (by omega)
      rw [s1]
      obtain ⟨t, ht⟩ := bsN_p (cu := cu) (ac := ac) (laws := fi U.1 27) (set := fi U.1 30) (cs := cdL ac (fi U.1 27) (fi U.1 29) 768) (mo := (fi U.1 28).toInt) (g := g) (n := n') 1
      have ht2 : (BN V cu ac g (n' + 1)).1 = (BN U cu ac g n').1 ++ t := by
        rw [BN_cg hV]
        exact ht
      refine hk _ _ _ _ ⟨rfl, KF_tr hU hV, hV5, n' + 1, m + 1, lk, hWV, rfl, by omega, rfl, by rw [ht2, List.length_append]; omega, fun i e hi he => ?_⟩ (by rw [nI_toInt (by omega), yn]; omega)
      rw [ht2, List.getElem?_append_left (by omega)] at he
      exact hno i e hi he
  · have hlt3 : lk < (BN U cu ac g n').1.length := by omega
    obtain ⟨e, he⟩ : ∃ e, (BN U cu ac g n').1[lk]? = some e := ⟨_, List.getElem?_eq_getElem hlt3⟩
    obtain ⟨a1, a2, a3⟩ := lE lk e he
    have lN : (nI lk).toNatClampNeg = lk := by rw [tnc, ln]; omega
    unfold w_X8_load w_X8_load_B25
    rw [ln, l33, lN]
    refine ⟨fun h => by exfalso; omega, fun _ => ⟨fun h => by exfalso; omega, fun _ => ⟨by omega, ?_⟩⟩⟩
    refine r_9_unpackE cy tE U _ _ e.1 a3.1 a1 (fun V f4 x4 j4 q4 => ?_)
    have hKV : KF [] [5] [] U V := by
      refine ⟨f4, by rw [x4], fun _ _ => by rw [x4], fun q => by rw [x4]; exact q, fun q => ?_⟩
      unfold FLG fi at *
      rw [f4.1 17 (by decide), f4.1 18 (by decide)]
      exact q
    have hJV : JZ (ar V.1 5) := fun i hi hm => (j4 i hi hm).trans (hU5 i hi hm)
    have hAV : AGR (ar V.1 5) e.1 := JZ_AGR hJV a3.2.2 q4
    have eLV : V.2.2.2 = S.2.2.2 := by rw [hKV.2.1, hU.2.1]
    have stay : ∀ W, KF [23, 24, 25] [16] [] V W → KG S W ∧ JZ (ar W.1 5) ∧ CWx W cu ac g n' := fun W hW => by
      have hUW : KF [23, 24, 25] [5, 16] [] U W := KF_tr (KF_wk hKV (by decide)) (KF_wk hW (by decide))
      have w5 : ar W.1 5 = ar V.1 5 := hW.1.2.2.1 5 (by decide)
      refine ⟨KF_tr hU (KF_wk hUW (by decide)), by rw [w5]; exact hJV, ?_⟩
      refine CWx_cg hWU (fun i hi => hUW.1.1 i (by revert hi; revert i; decide)) (fun j hj => hUW.1.2.2.1 j (by revert hj; revert j; decide)) (hUW.1.2.2.2 2 (by decide))
    refine r_2_isNeverE cy tE V A q2 _ l e.1 (by rw [eLV]; exact hCL) hGB hAV (fun W hW hNV => ⟨fun z => absurd z (by decide), fun _ => ?_⟩) (fun W hW hNV => ⟨fun _ => ?_, fun z => absurd li_0 z⟩)
    · obtain ⟨s1, s2, s3⟩ := stay W hW
      obtain ⟨t, ht⟩ := bsF_p (cu := cu) (ac := ac) (laws := fi U.1 27) (set := fi U.1 30) (cs := cdL ac (fi U.1 27) (fi U.1 29) 768) (mo := (fi U.1 28).toInt) (g := g) (n := n') hn'
      have ht2 : (BNF S cu ac g).1 = (BN U cu ac g n').1 ++ t := by
        rw [← eBF]
        exact ht
      have hj : (BNF S cu ac g).1[lk]? = some e := by
        rw [ht2, List.getElem?_append_left hlt3]; exact he
      refine k _ W n' s1 s3 s2 ?_ (fun z => by exfalso; omega)
      rw [ln]
      refine (fsI_at hj (nvB_y.mpr hNV) (fun i x hi hxi => ?_)).symm
      rw [ht2, List.getElem?_append_left (by omega)] at hxi
      exact hno i x hi hxi
    · obtain ⟨s1, s2, s3⟩ := stay W hW
      have q1 : nI lk + 1 = nI (lk + 1) := nI_inc (by omega)
      rw [q1]
      have eBW : BN W cu ac g n' = BN U cu ac g n' := by
        have hUW : KF [23, 24, 25] [5, 16] [] U W := KF_tr (KF_wk hKV (by decide)) (KF_wk hW (by decide))
        exact BN_cg (KF_wk hUW (by decide))
      refine hk2 _ _ _ _ ⟨rfl, rfl, s1, s2, s3, lk + 1, rfl, by rw [eBW]; omega, fun i x hi hxi => ?_⟩ (by rw [nI_toInt (by omega), ln]; omega)
      rw [eBW] at hxi
      by_cases q : i = lk
      · rw [q, he] at hxi
        obtain rfl : e = x := Option.some.inj hxi
        exact nvB_n hNV
      · exact hno i x (by omega) hxi
