/-- only what waits has changed -/
def KV (S T : KS) : Prop := Fr [] [] [16] [] S.1 T.1 ∧ T.2 = S.2
theorem KV_KF {S T : KS} (h : KV S T) : KF [] [16] [] S T := by
  obtain ⟨f, e⟩ := h
  refine ⟨f, by rw [e], fun _ _ => by rw [e], fun q => by rw [e]; exact q, fun q => ?_⟩
  unfold FLG fi at *
  rw [f.1 17 (by decide), f.1 18 (by decide)]
  exact q
set_option maxHeartbeats 1000000 in
theorem r_6_valueE (cy : Nat → ClassId) (tE : Nat) (S : KS) (A : Nat → Prop) (q : Nat) (post : Int32 → KS → Prop) (w : MkT) (g : SV) (a b t : Int32) (T0 : List Bool) (hq : CLx cy A S.2.2.2 q w) (h5 : S.2.1 3 < 5) (hg : ∀ n, n < 51 → ar S.1 (1 + S.2.1 3) n = g n) (ea : fi S.1 23 = a) (eb : fi S.1 24 = b) (et : fi S.1 25 = t) (ra : 0 ≤ a.toInt ∧ a.toInt ≤ 3) (rb : 0 ≤ b.toInt ∧ b.toInt ≤ 3) (rt : 0 ≤ t.toInt ∧ t.toInt ≤ 3) (hT : TyA 30 w.2.2 [] T0) (hl : T0.length ≤ 1) (k : ∀ S', KV S S' → post (rkV g a b t w.2.2) S') : w_X6_value cy tE S q post := by
  unfold w_X6_value
  obtain ⟨i, o, -, hc, j, gg, -, ha, hn, hops⟩ := hq
  have e7 : (Int32.ofNat w.2.2.length).toInt = (w.2.2.length : Int) := Int32.toInt_ofNat_of_lt (by omega)
  refine lr4 (fun (T : KS) (q' : Nat) (m x : Int32) => q' = q ∧ KV S T ∧ ∃ (rest : List (Int32 × Int32)) (st : List Int32) (ts : List Bool), (x.toInt = (w.2.2.length : Int) - (rest.length : Int) ∧ rest.length ≤ w.2.2.length) ∧ (∀ (t : Nat) (y : Int32 × Int32), rest[t]? = some y → gg (x.toInt.toNat + t) = opE y) ∧ TyA 30 rest ts T0 ∧ VT ts st ∧ ts.length ≤ 30 ∧ AG (ar T.1 16) st ∧ m.toInt = (st.length : Int) ∧ rkA g a b t rest st = rkA g a b t w.2.2 []) (fun _ _ _ x => ((w.2.2.length : Int) - x.toInt).toNat) ?_ _ _ _ _ ⟨rfl, ⟨Fr.rf, rfl⟩, w.2.2, [], [], ⟨by rw [li_0]; omega, Nat.le_refl _⟩, fun t y hy => by rw [li_0]; exact (congrArg gg (Nat.zero_add t)).trans (hops t y hy), hT, trivial, by decide, trivial, li_0, rfl⟩
  rintro kk T q' m x ⟨rfl, ⟨hF, eT⟩, rest, st, ts, ⟨hx, hr⟩, hop, hTy, hVT, hts, hAG, hm, hV⟩ hk
  unfold w_X6_value_F4
  have eL : T.2.2.2 = S.2.2.2 := by rw [eT]
  rw [eL]
  refine ⟨i, _, _, o, hc, j, _, gg, ha, ?_⟩
  rw [e7]
  clear e7
  have hvl := VT_l hVT
  refine ⟨fun gx => ?_, fun gx => ⟨i, _, _, o, hc, j, _, gg, ha, ⟨by omega, gx⟩, ?_⟩⟩
  · rcases rest with _ | ⟨y, rest⟩
    · have eT0 : T0 = ts := hTy
      have hV2 : rkV g a b t w.2.2 = hd0 st := by
        unfold rkV
        rw [← hV]
        all_goals rfl
      rw [hV2] at k
      rw [eT0] at hl
      rcases st with _ | ⟨v, s⟩
      · have m0 : m.toInt = 0 := hm
        exact ⟨fun _ => k T ⟨hF, eT⟩, fun h => by exfalso; omega⟩
      · simp only [List.length_cons] at hvl hm
        have s0 : s = [] := by
          rcases s with _ | ⟨z, s⟩
          · rfl
          · simp only [List.length_cons] at hvl
            exfalso; omega
        subst s0
        refine ⟨fun h => by exfalso; omega, fun _ => ?_⟩
        show post (ar T.1 16 0) T
        rw [show ar T.1 16 0 = v from hAG.1]
        exact k T ⟨hF, eT⟩
    · simp only [List.length_cons] at hx hr
      exfalso; omega
  · rcases rest with _ | ⟨y, rest⟩
    · simp only [List.length_nil] at hx
      exfalso; omega
    have eo : gg x.toNatClampNeg = opE y := hop 0 y rfl
    obtain ⟨t1, hs, ht1, hTy'⟩ := hTy
    obtain ⟨r1, r2⟩ := TS1_r hs
    obtain ⟨e1, e2⟩ := opE_k r1 r2
    rw [eo, e1, e2]
    simp only [List.length_cons] at hx hr
    have ex := inc1 (x := x) (by omega)
    have go : ∀ (U : KS) (m2 : Int32), KV S U → AG (ar U.1 16) (rk1 g a b t y st) → m2.toInt = ((rk1 g a b t y st).length : Int) → w_X6_value_B138 cy tE post kk (w_X6_value_B144 cy tE post) U q' m2 x := by
      intro U m2 hU hA hm2
      show kk U q' m2 (x + 1)
      refine hk _ _ _ _ ⟨rfl, hU, rest, _, t1, ⟨by rw [ex]; omega, by omega⟩, fun t' y' hy => ?_, hTy', VT_s hs hVT, ht1, hA, hm2, hV⟩ (by rw [ex]; omega)
      have := hop (t' + 1) y' hy
      have e : (x + 1).toInt.toNat + t' = x.toInt.toNat + (t' + 1) := by rw [ex]; omega
      rw [e]
      exact this
    clear ex e1 e2 eo hop
    rcases TS1_k hs hVT with ⟨c1, c2, r, l, s, rfl⟩ | ⟨c1, v, s, rfl⟩ | ⟨c1, c2, c3⟩
    · simp only [List.length_cons] at hm hvl
      refine r_6_isJointE _ _ _ _ _ (fun _ => ⟨fun q => absurd q (by decide), fun _ => ?_⟩) (fun g => absurd c1 g)
      generalize hm1 : m + -1 = m1
      have d1 : m1.toInt = m.toInt - 1 := by rw [← hm1]; exact dec1 (by omega)
      clear hm1
      generalize hm2 : m1 - 1 = m2
      have d2 : m2.toInt = m.toInt - 2 := by rw [← hm2, sub1 (by omega), d1]; omega
      clear hm2
      have n1 : m1.toNatClampNeg = s.length + 1 := by rw [tnc, d1]; omega
      have n2 : m2.toNatClampNeg = s.length := by rw [tnc, d2]; omega
      rw [d1, d2, n1, n2]
      clear n1 n2
      refine ⟨fun q => by exfalso; omega, fun _ => ⟨by omega, by omega, r_6_joinedE _ _ _ _ _ _ _ c2 ⟨by omega, go _ _ ⟨Fr.su (by decide) hF, eT⟩ ?_ ?_⟩⟩⟩
      · rw [rk1_j c1]
        show AG (ar (su T.1 16 _ _) 16) _
        have eA : ∀ z, ar (su T.1 16 s.length z) 16 = upd (ar T.1 16) s.length z := fun z => su_at _ _ _ _
        rw [eA, show ar T.1 16 (s.length + 1) = r from hAG.1, show ar T.1 16 s.length = l from hAG.2.1]
        exact AG_push hAG.2.2
      · rw [rk1_j c1, d1]
        simp only [List.length_cons]
        omega
    · simp only [List.length_cons] at hm hvl
      refine r_6_isJointE _ _ _ _ _ (fun g => by unfold jK at g; exfalso; omega) (fun _ => ⟨fun _ => ⟨fun q => absurd c1 q, fun _ => ⟨fun q => by exfalso; omega, fun _ => ?_⟩⟩, fun q => absurd li_0 q⟩)
      generalize hm1 : m - 1 = m1
      have d1 : m1.toInt = m.toInt - 1 := by rw [← hm1]; exact sub1 (by omega)
      clear hm1
      have n1 : m1.toNatClampNeg = s.length := by rw [tnc, d1]; omega
      rw [d1, n1]
      clear n1
      refine ⟨by omega, by omega, go _ _ ⟨Fr.su (by decide) hF, eT⟩ ?_ ?_⟩
      · rw [rk1_n c1]
        show AG (ar (su T.1 16 _ _) 16) _
        have eA : ∀ z, ar (su T.1 16 s.length z) 16 = upd (ar T.1 16) s.length z := fun z => su_at _ _ _ _
        rw [eA, show ar T.1 16 s.length = v from hAG.1]
        exact AG_push hAG.2
      · rw [rk1_n c1]
        simp only [List.length_cons]
        omega
    · refine r_6_isJointE _ _ _ _ _ (fun g => absurd g c1) (fun _ => ⟨fun _ => ⟨fun _ => ⟨fun q => by exfalso; omega, fun _ => ⟨fun q => by exfalso; omega, fun _ => ?_⟩⟩, fun q => absurd q c2⟩, fun q => absurd li_0 q⟩)
      have eR : ar T.1 (1 + T.2.1 3) = ar S.1 (1 + S.2.1 3) := by
        rw [eT]
        exact hF.2.2.1 _ (by
          intro q
          have := List.mem_singleton.mp q
          omega)
      refine r_6_operandE cy tE T _ _ _ g a b t (by rw [eT]; exact h5) (fun n hn => by rw [eR]; exact hg n hn) ((hF.1 23 (by decide)).trans ea) ((hF.1 24 (by decide)).trans eb) ((hF.1 25 (by decide)).trans et) ra rb rt c3 ⟨⟨by omega, by omega⟩, ?_⟩
      have n1 : m.toNatClampNeg = st.length := by rw [tnc]; omega
      rw [n1]
      refine go _ _ ⟨Fr.su (by decide) hF, eT⟩ ?_ ?_
      · rw [rk1_u c1 c2]
        show AG (ar (su T.1 16 _ _) 16) _
        have eA : ∀ z, ar (su T.1 16 st.length z) 16 = upd (ar T.1 16) st.length z := fun z => su_at _ _ _ _
        rw [eA]
        exact AG_push hAG
      · rw [rk1_u c1 c2, inc1 (by omega)]
        simp only [List.length_cons]
        omega
