set_option maxHeartbeats 1000000 in
theorem q_comesToE (S : GS) (tx lo hi : Int32) (post : Int32 → GS → Prop) (l : List (Int32 × Int32)) (g : SV) (a b t : Int32) (tb : Bool) (htx : 0 ≤ tx.toInt ∧ tx.toInt ≤ 13) (hlo : 0 ≤ lo.toInt) (hhi : hi.toInt = lo.toInt + (l.length : Int) ∧ hi.toInt ≤ 720) (hS : RTx S tx.toInt.toNat lo.toInt.toNat l) (hR : RS S g) (hG : GV g) (ea : fi S 18 = a) (eb : fi S 19 = b) (et : fi S 20 = t) (ra : 0 ≤ a.toInt ∧ a.toInt ≤ 3) (rb : 0 ≤ b.toInt ∧ b.toInt ≤ 3) (rt : 0 ≤ t.toInt ∧ t.toInt ≤ 3) (hne : a.toInt ≠ b.toInt) (hT : TyA 30 l [] [tb]) (k : ∀ S', Fr [] [] [22] [] S S' → post (rkV g a b t l) S') : w_X12_comesTo S tx lo hi post := by
  unfold w_X12_comesTo
  refine lr5 (fun (T : GS) (tx' hi' top i : Int32) => tx' = tx ∧ hi' = hi ∧ Fr [] [] [22] [] S T ∧ ∃ (rest : List (Int32 × Int32)) (st : List Int32) (ts : List Bool), (i.toInt = hi.toInt - (rest.length : Int) ∧ rest.length ≤ l.length) ∧ (∀ (u : Nat) (y : Int32 × Int32), rest[u]? = some y → sx S tx.toInt.toNat (2 * (i.toInt.toNat + u)) = mS y.1 ∧ (y.1.toInt ≠ 14 → sx S tx.toInt.toNat (2 * (i.toInt.toNat + u) + 1) = y.2)) ∧ TyA 30 rest ts [tb] ∧ VT ts st ∧ ts.length ≤ 30 ∧ AG (ar T 22) st ∧ top.toInt = (st.length : Int) ∧ rkA g a b t rest st = rkA g a b t l []) (fun _ _ _ _ i => (hi.toInt - i.toInt).toNat) ?_ _ _ _ _ _ ⟨rfl, rfl, Fr.rf, l, [], [], ⟨by omega, Nat.le_refl _⟩, hS, hT, trivial, by decide, trivial, li_0, rfl⟩
  rintro kk T tx' hi' top i ⟨rfl, rfl, hF, rest, st, ts, ⟨hi1, hr⟩, hop, hTy, hVT, hts, hAG, hm, hV⟩ hk
  unfold w_X12_comesTo_F6 w_X12_comesTo_B145 w_X12_comesTo_B139
  have hvl := VT_l hVT
  refine ⟨fun gx => ?_, fun gx => ?_⟩
  · rcases rest with _ | ⟨y, rest⟩
    · have eT0 : [tb] = ts := hTy
      have hV2 : rkV g a b t l = hd0 st := by
        unfold rkV
        rw [← hV]
        all_goals rfl
      rw [hV2] at k
      rw [← eT0] at hVT
      obtain ⟨v, s, rfl, -, -⟩ := VT_1 hVT
      rw [← eT0] at hvl
      simp only [List.length_cons, List.length_nil] at hvl
      have s0 : s = [] := by
        rcases s with _ | ⟨z, s⟩
        · rfl
        · simp only [List.length_cons] at hvl
          exfalso; omega
      subst s0
      show post (ar T 22 0) T
      rw [show ar T 22 0 = v from hAG.1]
      exact k T hF
    · simp only [List.length_cons] at hi1 hr
      exfalso; omega
  · rcases rest with _ | ⟨y, rest⟩
    · simp only [List.length_nil] at hi1
      exfalso; omega
    obtain ⟨t1, hs, ht1, hTy'⟩ := hTy
    obtain ⟨o1, o2⟩ := hop 0 y rfl
    have o1' : sx S tx'.toInt.toNat (2 * i.toInt.toNat) = mS y.1 := o1
    have o2' : y.1.toInt ≠ 14 → sx S tx'.toInt.toNat (2 * i.toInt.toNat + 1) = y.2 := o2
    clear o1 o2
    simp only [List.length_cons] at hi1 hr
    have ex := inc1 (x := i) (by omega)
    have x1 : ar T 5 ((1440 : Int32) * tx' + (2 : Int32) * i).toNatClampNeg = mS y.1 := by
      have e9 : (1440 * tx'.toInt + 2 * i.toInt).toNat = 1440 * tx'.toInt.toNat + 2 * i.toInt.toNat := by omega
      rw [← o1']
      show T.2.2.1 5 _ = S.2.2.1 5 (1440 * tx'.toInt.toNat + 2 * i.toInt.toNat)
      rw [hF.2.2.1 5 (by decide), tnc, step1 (by omega) (by omega), e9]
    have x2 : y.1.toInt ≠ 14 → ar T 5 (((1440 : Int32) * tx' + (2 : Int32) * i) + 1).toNatClampNeg = y.2 := by
      intro h
      have e9 : (1440 * tx'.toInt + 2 * i.toInt + 1).toNat = 1440 * tx'.toInt.toNat + (2 * i.toInt.toNat + 1) := by omega
      rw [← o2' h]
      show T.2.2.1 5 _ = S.2.2.1 5 (1440 * tx'.toInt.toNat + (2 * i.toInt.toNat + 1))
      rw [hF.2.2.1 5 (by decide), tnc, step2 (by omega) (by omega), e9]
    generalize ar T 5 (((1440 : Int32) * tx' + (2 : Int32) * i) + 1).toNatClampNeg = y2 at x2 ⊢
    rw [x1, step1 (by omega) (by omega), step2 (by omega) (by omega)]
    have go : ∀ (U : GS) (m2 : Int32), Fr [] [] [22] [] S U → AG (ar U 22) (rk1 g a b t y st) → m2.toInt = ((rk1 g a b t y st).length : Int) → kk U tx' hi' m2 (i + 1) := by
      intro U m2 hU hA hm2
      refine hk _ _ _ _ _ ⟨rfl, rfl, hU, rest, _, t1, ⟨by rw [ex]; omega, by omega⟩, fun u y' hy => ?_, hTy', VT_s hs hVT, ht1, hA, hm2, hV⟩ (by rw [ex]; omega)
      have := hop (u + 1) y' hy
      have e : (i + 1).toInt.toNat + u = i.toInt.toNat + (u + 1) := by rw [ex]; omega
      rw [e]
      exact this
    refine ⟨by omega, by omega, ?_⟩
    clear ex hop o1' o2' x1
    rcases TS1_k hs hVT with ⟨c1, c2, r, l', s, rfl⟩ | ⟨c1, v, s, rfl⟩ | ⟨c1, c2, c3⟩
    · simp only [List.length_cons] at hm hvl
      have em : 8 ≤ (mS y.1).toInt ∧ (mS y.1).toInt ≠ 14 := by
        rcases c2 with e | e | e | e | e | e | e | e
        · rw [mS_e (n := 15) (by decide) e]; decide
        · rw [mS_e (n := 16) (by decide) e]; decide
        · rw [mS_e (n := 24) (by decide) e]; decide
        · rw [mS_e (n := 25) (by decide) e]; decide
        · rw [mS_e (n := 26) (by decide) e]; decide
        · rw [mS_e (n := 29) (by decide) e]; decide
        · rw [mS_e (n := 30) (by decide) e]; decide
        · rw [mS_e (n := 31) (by decide) e]; decide
      refine ⟨fun _ => ⟨fun _ => ?_, fun q => absurd q em.2⟩, fun q => by exfalso; omega⟩
      generalize hm1 : top + -1 = m1
      have d1 : m1.toInt = top.toInt - 1 := by rw [← hm1]; exact dec1 (by omega)
      clear hm1
      generalize hm2 : m1 - 1 = m2
      have d2 : m2.toInt = top.toInt - 2 := by rw [← hm2, sub1 (by omega), d1]; omega
      clear hm2
      have n1 : m1.toNatClampNeg = s.length + 1 := by rw [tnc, d1]; omega
      have n2 : m2.toNatClampNeg = s.length := by rw [tnc, d2]; omega
      rw [d1, d2, n1, n2]
      clear n1 n2
      refine ⟨by omega, by omega, q_bothE _ _ _ _ _ c2 ⟨by omega, go _ _ (Fr.su (by decide) hF) ?_ ?_⟩⟩
      · rw [rk1_j c1]
        have eA : ∀ z, ar (su T 22 s.length z) 22 = upd (ar T 22) s.length z := fun z => su_at _ _ _ _
        rw [eA, show ar T 22 (s.length + 1) = r from hAG.1, show ar T 22 s.length = l' from hAG.2.1]
        exact AG_push hAG.2.2
      · rw [rk1_j c1, d1]
        simp only [List.length_cons]
        omega
    · simp only [List.length_cons] at hm hvl
      have em : (mS y.1).toInt = 14 := mS_e (n := 17) (by decide) c1
      refine ⟨fun _ => ⟨fun q => absurd em q, fun _ => ?_⟩, fun q => by exfalso; omega⟩
      generalize hm1 : top - 1 = m1
      have d1 : m1.toInt = top.toInt - 1 := by rw [← hm1]; exact sub1 (by omega)
      clear hm1
      have n1 : m1.toNatClampNeg = s.length := by rw [tnc, d1]; omega
      rw [d1, n1]
      clear n1
      refine ⟨by omega, by omega, go _ _ (Fr.su (by decide) hF) ?_ ?_⟩
      · rw [rk1_n c1]
        have eA : ∀ z, ar (su T 22 s.length z) 22 = upd (ar T 22) s.length z := fun z => su_at _ _ _ _
        rw [eA, show ar T 22 s.length = v from hAG.1]
        exact AG_push hAG.2
      · rw [rk1_n c1]
        simp only [List.length_cons]
        omega
    · have em : (mS y.1).toInt < 8 := by
        rcases c3 with e | e | e | e | e | e | e | e
        · rw [mS_e (n := 2) (by decide) e]; decide
        · rw [mS_e (n := 14) (by decide) e]; decide
        · rw [mS_e (n := 7) (by decide) e]; decide
        · rw [mS_e (n := 8) (by decide) e]; decide
        · rw [mS_e (n := 11) (by decide) e]; decide
        · rw [mS_e (n := 18) (by decide) e]; decide
        · rw [mS_e (n := 19) (by decide) e]; decide
        · rw [mS_e (n := 20) (by decide) e]; decide
      refine ⟨fun q => by exfalso; omega, fun _ => ?_⟩
      have n1 : top.toNatClampNeg = st.length := by rw [tnc]; omega
      rw [n1]
      refine q_factE T y.1 y.2 y2 _ g a b t (RS_cg hR (hF.1 0 (by decide)) (fun j hj => hF.2.2.1 j (by revert hj; revert j; decide))) hG ((hF.1 18 (by decide)).trans ea) ((hF.1 19 (by decide)).trans eb) ((hF.1 20 (by decide)).trans et) ra rb rt hne c3 x2 ⟨by omega, go _ _ (Fr.su (by decide) hF) ?_ ?_⟩
      · rw [rk1_u c1 c2]
        have eA : ∀ z, ar (su T 22 st.length z) 22 = upd (ar T 22) st.length z := fun z => su_at _ _ _ _
        rw [eA]
        exact AG_push hAG
      · rw [rk1_u c1 c2, inc1 (by omega)]
        simp only [List.length_cons]
        omega
