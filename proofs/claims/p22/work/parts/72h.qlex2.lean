theorem sg_c {c : Int32} (h : 0 ≤ c.toInt ∧ c.toInt ≤ 255) : (sgK c = 1 → c.toInt ≠ 59 ∧ c.toInt ≠ 43 ∧ c.toInt ≠ 45 ∧ c.toInt ≠ 42 ∧ c.toInt ≠ 40 ∧ c.toInt ≠ 41 ∧ c.toInt ≠ 60 ∧ c.toInt ≠ 61 ∧ c.toInt ≠ 62) ∧ (sgK c ≠ 1 → (c.toInt = 59 ∨ c.toInt = 43 ∨ c.toInt = 45 ∨ c.toInt = 42 ∨ c.toInt = 40 ∨ c.toInt = 41 ∨ c.toInt = 60 ∨ c.toInt = 61 ∨ c.toInt = 62) ∧ mkT (sgK c) = c) := by
  have e := sg_all c.toInt.toNat (by omega)
  rw [cd_n h] at e
  simp only [List.mem_cons, List.not_mem_nil, or_false] at e
  rcases e with ⟨e1, e2, e3⟩ | ⟨e1, e2⟩
  · exact ⟨fun g => absurd g e2, fun _ => ⟨by omega, e3⟩⟩
  · exact ⟨fun _ => by omega, fun g => absurd e2 g⟩
theorem sg_3 {c : Int32} (h : 0 ≤ c.toInt ∧ c.toInt ≤ 255) : (sgK c).toInt ≠ 2 := by
  have hh : ∀ c, c < 256 → (sgK (nI c)).toInt ≠ 2 := by decide +kernel
  have e := hh c.toInt.toNat (by omega)
  rw [cd_n h] at e
  exact e
set_option maxHeartbeats 1600000 in
theorem q_next0E (S : GS) (post : GS → Prop) (t : Nat → Int32) (n p q e : Nat) (k : Int32) (v : Int64) (hT : TPa t n S) (hp : (fi S 2).toInt = (p : Int)) (hA : TkA t (sm 85).2 n p q e k v) (kk : ∀ M', Fr [2, 3, 4, 5] [] [] [] S M' → (fi M' 2).toInt = (e : Int) → (fi M' 4).toInt = (q : Int) → fi M' 3 = mkT k → (k.toInt = 2 → fi M' 5 = nuF t q (e - q)) → post M') : w_X12_next0 S post := by
  obtain ⟨hpq, hqn, hbl, hA⟩ := hA
  have hn7 := hT.2.1
  unfold w_X12_next0
  refine lr1 (fun (T : GS) => Fr [2, 3, 4, 5] [] [] [] S T ∧ ∃ a : Nat, (fi T 2).toInt = (a : Int) ∧ p ≤ a ∧ a ≤ q) (fun T => (700 - (fi T 2).toInt).toNat) ?_ _ ⟨Fr.rf, p, hp, Nat.le_refl _, hpq⟩
  rintro k0 T ⟨hF, a, ha, hpa, haq⟩ hk
  have hTT := hT.fr hF (by decide) (by decide)
  unfold w_X12_next0_F0
  by_cases hq : a < q
  · have hb := hbl a hpa hq
    have go : w_X12_next0_B26 post k0 (w_X12_next0_B39 post) T := by
      unfold w_X12_next0_B26
      have e2 : (fi (si T 2 (fi T 2 + 1)) 2).toInt = ((a + 1 : Nat) : Int) := by
        rw [si_g, inc1 (by omega)]; omega
      exact hk _ ⟨Fr.si (by decide) hF, a + 1, e2, by omega, by omega⟩ (by rw [e2]; omega)
    refine q_seeE T _ _ t n a hTT ha (fun g => by exfalso; omega) (fun g g0 => ⟨fun _ => go, fun g32 => q_seeE T _ _ t n a hTT ha (fun g => by exfalso; omega) (fun _ _ => ⟨fun g10 => ?_, fun _ => go⟩)⟩)
    exfalso
    rcases hb with h | h
    · exact g32 h
    · exact g10 h
  have eaq : a = q := by omega
  rw [eaq] at ha
  have nb : q < n → ¬ isB (t q) := by
    intro g hb
    rcases hA with ⟨h1, -⟩ | ⟨-, ⟨h1, -⟩ | ⟨h1, -⟩ | ⟨-, -, h1, -⟩⟩
    · omega
    · unfold isL at h1; unfold isB at hb; omega
    · unfold isD at h1; unfold isB at hb; omega
    · exact h1 hb
  have out : w_X12_next0_B39 post T := by
    unfold w_X12_next0_B39
    have hU : Fr [2, 3, 4, 5] [] [] [] S (si T 4 (fi T 2)) := Fr.si (by decide) hF
    have u2 : (fi (si T 4 (fi T 2)) 2).toInt = (q : Int) := by rw [si_f (by decide)]; exact ha
    have u4 : (fi (si T 4 (fi T 2)) 4).toInt = (q : Int) := by rw [si_g]; exact ha
    have hTU := hT.fr hU (by decide) (by decide)
    generalize si T 4 (fi T 2) = U at hU u2 u4 hTU ⊢
    refine q_seeE U _ _ t n q hTU ha (fun g => ⟨fun g2 => absurd (by decide) g2, fun _ => ?_⟩) (fun g gc => ⟨fun _ => ?_, fun g2 => by exfalso; omega⟩)
    · rcases hA with ⟨h1, h2, h3⟩ | ⟨h1, -⟩
      · unfold w_X12_next0_B297
        refine kk _ (Fr.si (by decide) hU) (by rw [si_f (by decide), u2]; omega) (by rw [si_f (by decide)]; exact u4) (by rw [si_g, h3]; decide) (fun h => by rw [h3] at h; exact absurd h (by decide))
      · omega
    have hA2 : (isL (t q) ∧ q < e ∧ e ≤ n ∧ (∀ i, q ≤ i → i < e → isL (t i)) ∧ (e = n ∨ ¬ isL (t e)) ∧ v = pkF t q (e - q) ∧ KW (sm 85).2 v (e - q) k) ∨ (isD (t q) ∧ q < e ∧ e ≤ n ∧ (∀ i, q ≤ i → i < e → isD (t i)) ∧ (e = n ∨ ¬ isD (t e)) ∧ v = (nuF t q (e - q)).toInt64 ∧ ((e - q ≤ 3 ∧ k = 2) ∨ (3 < e - q ∧ k = 1))) ∨ (¬ isL (t q) ∧ ¬ isD (t q) ∧ ¬ isB (t q) ∧ e = q + 1 ∧ k = sgK (t q)) := by
      rcases hA with ⟨h1, -⟩ | ⟨-, h⟩
      · omega
      · exact h
    clear hA
    refine q_isLetter U _ _ (fun r3 _ hb3 => ⟨fun g3 => ?_, fun g3 => ?_⟩)
    · have nL : ¬ isL (t q) := by unfold isL; omega
      refine q_isDigit U _ _ (fun r4 _ hb4 => ⟨fun g4 => ?_, fun g4 => ?_⟩)
      · have nD : ¬ isD (t q) := by unfold isD; omega
        rcases hA2 with ⟨h1, -⟩ | ⟨h1, -⟩ | ⟨-, -, -, he, hkk⟩
        · exact absurd h1 nL
        · exact absurd h1 nD
        have hs := sg_c gc
        have e2 : ∀ y, (fi (si (si U 2 (fi U 2 + 1)) 3 y) 2).toInt = (e : Int) := by
          intro y
          rw [si_f (by decide), si_g, inc1 (by omega), u2]; omega
        have e4 : ∀ y, (fi (si (si U 2 (fi U 2 + 1)) 3 y) 4).toInt = (q : Int) := by
          intro y
          rw [si_f (by decide), si_f (by decide)]; exact u4
        have fin : ∀ y, y = mkT k → post (si (si U 2 (fi U 2 + 1)) 3 y) := fun y hy => kk _ (Fr.si (by decide) (Fr.si (by decide) hU)) (e2 y) (e4 y) (by rw [si_g]; exact hy) (fun h => by rw [hkk] at h; exact absurd h (sg_3 gc))
        have f278 : ((t q).toInt = 59 ∨ (t q).toInt = 43 ∨ (t q).toInt = 45 ∨ (t q).toInt = 42 ∨ (t q).toInt = 40 ∨ (t q).toInt = 41 ∨ (t q).toInt = 60 ∨ (t q).toInt = 61 ∨ (t q).toInt = 62) → w_X12_next0_B278 post (si U 2 (fi U 2 + 1)) (t q) := by
          intro h
          refine ⟨fun g => absurd g (by decide), fun _ => fin _ ?_⟩
          rw [hkk]
          refine ((hs.2 (fun h1 => ?_)).2).symm
          have := hs.1 h1
          omega
        refine ⟨fun h => f278 (by omega), fun _ => ⟨fun h => f278 (by omega), fun _ => ⟨fun h => f278 (by omega), fun _ => ⟨fun h => f278 (by omega), fun _ => ⟨fun h => f278 (by omega), fun _ => ⟨fun h => f278 (by omega), fun _ => ⟨fun h => f278 (by omega), fun _ => ⟨fun h => f278 (by omega), fun _ => ⟨fun h => ?_, fun h => f278 (by omega)⟩⟩⟩⟩⟩⟩⟩⟩⟩
        refine ⟨fun _ => fin _ ?_, fun g => absurd li_0 g⟩
        have h1 : sgK (t q) = 1 := Classical.byContradiction (fun h1 => by have := (hs.2 h1).1; omega)
        rw [hkk, h1]
        decide
      · have yD : isD (t q) := by unfold isD; omega
        rcases hA2 with ⟨h1, -⟩ | ⟨-, hqe, hen, hDs, hend, -, hkk⟩ | ⟨-, h1, -⟩
        · exact absurd h1 nL
        case inr.inr => exact absurd yD h1
        have w2 : (fi (si U 5 0) 2).toInt = (q : Int) := by rw [si_f (by decide)]; exact u2
        have w4 : (fi (si U 5 0) 4).toInt = (q : Int) := by rw [si_f (by decide)]; exact u4
        refine lr1 (fun (V : GS) => Fr [2, 3, 4, 5] [] [] [] S V ∧ (fi V 4).toInt = (q : Int) ∧ ∃ c : Nat, (fi V 2).toInt = (c : Int) ∧ q ≤ c ∧ c ≤ e ∧ fi V 5 = nuF t q (min (c - q) 3)) (fun V => (700 - (fi V 2).toInt).toNat) ?_ _ ⟨Fr.si (by decide) hU, w4, q, w2, Nat.le_refl _, by omega, by rw [si_g, Nat.sub_self]; rfl⟩
        rintro k2 V ⟨hV, v4, c, vc, hqc, hce, v5⟩ hk2
        have hTV := hT.fr hV (by decide) (by decide)
        have e43 : (fi V 4 + 3).toInt = (q : Int) + 3 := by
          rw [ad_ab (by rw [li_3]; omega) (by rw [li_3]; omega), li_3, v4]
        have es : (fi V 2 - fi V 4).toInt = (c : Int) - (q : Int) := by
          rw [i_sub (by omega) (by omega), vc, v4]
        unfold w_X12_next0_F126
        have fin : c = e → w_X12_next0_B189 post V := by
          intro hc
          unfold w_X12_next0_B189 w_X12_next0_B208 w_X12_next0_B297
          rw [es]
          have hm : ∀ y, y = mkT k → post (si V 3 y) := fun y hy => kk _ (Fr.si (by decide) hV) (by rw [si_f (by decide), vc, hc]) (by rw [si_f (by decide)]; exact v4) (by rw [si_g]; exact hy) (fun h2 => by
            rw [si_f (by decide), v5, hc]
            rcases hkk with ⟨h3, -⟩ | ⟨-, h3⟩
            · rw [Nat.min_eq_left h3]
            · rw [h3] at h2; exact absurd h2 (by decide))
          refine ⟨fun g => hm _ ?_, fun g => hm _ ?_⟩
          · rcases hkk with ⟨h3, -⟩ | ⟨-, h3⟩
            · omega
            · rw [h3]; decide
          · rcases hkk with ⟨-, h3⟩ | ⟨h3, -⟩
            · rw [h3]; decide
            · omega
        have adv : c < e → ∀ W, Fr [2, 3, 4, 5] [] [] [] S W → (fi W 4).toInt = (q : Int) → (fi W 2).toInt = (c : Int) → fi W 5 = nuF t q (min (c + 1 - q) 3) → w_X12_next0_B176 post k2 (w_X12_next0_B189 post) W := by
          intro hlt W hW x4 x2 x5
          unfold w_X12_next0_B176
          have y2 : (fi (si W 2 (fi W 2 + 1)) 2).toInt = ((c + 1 : Nat) : Int) := by
            rw [si_g, inc1 (by omega), x2]; omega
          exact hk2 _ ⟨Fr.si (by decide) hW, by rw [si_f (by decide)]; exact x4, c + 1, y2, by omega, by omega, by rw [si_f (by decide)]; exact x5⟩ (by rw [y2]; omega)
        refine q_seeE V _ _ t n c hTV vc (fun g => ?_) (fun g gc2 => ?_)
        · refine q_isDigit V _ _ (fun r5 _ hb5 => ⟨fun _ => fin (by omega), fun g5 => ?_⟩)
          exfalso
          have e1 : (-1 : Int32).toInt = -1 := by decide
          omega
        · refine q_isDigit V _ _ (fun r5 _ hb5 => ⟨fun g5 => ?_, fun g5 => ?_⟩)
          · refine fin (Classical.byContradiction (fun hc => ?_))
            have := hDs c hqc (by omega)
            unfold isD at this
            omega
          · have hlt : c < e := Classical.byContradiction (fun hc => by
              have hce2 : c = e := by omega
              rcases hend with h | h
              · omega
              · apply h
                rw [← hce2]
                unfold isD
                omega)
            rw [e43, vc]
            refine ⟨fun g6 => adv hlt V hV v4 vc ?_, fun g6 => q_seeE V _ _ t n c hTV vc (fun g7 => by exfalso; omega) (fun _ _ => adv hlt _ (Fr.si (by decide) hV) (by rw [si_f (by decide)]; exact v4) (by rw [si_f (by decide)]; exact vc) ?_)⟩
            · rw [v5, Nat.min_eq_right (by omega), Nat.min_eq_right (by omega)]
            · have e8 : c + 1 - q = (c - q) + 1 := by omega
              rw [si_g, Nat.min_eq_left (show c + 1 - q ≤ 3 by omega), e8]
              unfold nuF
              rw [v5, Nat.min_eq_left (show c - q ≤ 3 by omega)]
              have e9 : q + (c - q) = c := by omega
              rw [e9]
    · have yL : isL (t q) := by unfold isL; omega
      rcases hA2 with ⟨-, hqe, hen, hLs, hend, hv, hkk⟩ | ⟨h1, -⟩ | ⟨h1, -⟩
      case inr.inl =>
        exfalso
        unfold isD at h1
        omega
      case inr.inr => exact absurd yL h1
      refine lr1 (fun (V : GS) => Fr [2, 3, 4, 5] [] [] [] S V ∧ (fi V 4).toInt = (q : Int) ∧ ∃ c : Nat, (fi V 2).toInt = (c : Int) ∧ q ≤ c ∧ c ≤ e) (fun V => (700 - (fi V 2).toInt).toNat) ?_ _ ⟨hU, u4, q, u2, Nat.le_refl _, by omega⟩
      rintro k2 V ⟨hV, v4, c, vc, hqc, hce⟩ hk2
      have hTV := hT.fr hV (by decide) (by decide)
      unfold w_X12_next0_F76
      have fin : c = e → w_X12_next0_B103 post V := by
        intro hc
        rw [hc] at vc
        unfold w_X12_next0_B103 w_X12_next0_B297
        have hm : ∀ y, y = mkT k → post (si V 3 y) := fun y hy => kk _ (Fr.si (by decide) hV) (by rw [si_f (by decide)]; exact vc) (by rw [si_f (by decide)]; exact v4) (by rw [si_g]; exact hy) (fun h2 => by
          exfalso
          rcases hkk with ⟨-, rfl⟩ | ⟨-, ⟨i, hi, -, -, rfl⟩ | ⟨-, ⟨-, rfl⟩ | ⟨-, rfl⟩⟩⟩
          · exact absurd h2 (by decide)
          · have hh : ∀ i, i < 19 → ((4 : Int32) + nI i).toInt ≠ 2 := by decide +kernel
            exact hh i hi h2
          · exact absurd h2 (by decide)
          · exact absurd h2 (by decide))
        rw [hv] at hkk
        have hM := KW_mk hLs hqe hkk
        refine q_wordE V _ t n q e hTV vc v4 (by omega) hen (fun i hi hC hN => hm _ ?_) (fun hN h28 => hm _ ?_) (fun hN h28 => hm _ ?_)
        · rcases hM with ⟨i', hi', hC', hN', e'⟩ | ⟨hN', -⟩ | ⟨hN', -⟩
          · have : i = i' := by
              rcases Nat.lt_trichotomy i i' with h | h | h
              · exact absurd hC (hN' i h)
              · exact h
              · exact absurd hC' (hN i' h)
            rw [this]; exact e'.symm
          · exact absurd hC (hN' i hi)
          · exact absurd hC (hN' i hi)
        · rcases hM with ⟨i', hi', hC', -⟩ | ⟨-, -, e'⟩ | ⟨-, h', -⟩
          · exact absurd hC' (hN i' hi')
          · exact e'.symm
          · exact absurd h' h28
        · rcases hM with ⟨i', hi', hC', -⟩ | ⟨-, h', -⟩ | ⟨-, -, e'⟩
          · exact absurd hC' (hN i' hi')
          · exact absurd h28 h'
          · exact e'.symm
      refine q_seeE V _ _ t n c hTV vc (fun g => ?_) (fun g gc2 => ?_)
      · refine q_isLetter V _ _ (fun r5 _ hb5 => ⟨fun _ => fin (by omega), fun g5 => ?_⟩)
        exfalso
        have e1 : (-1 : Int32).toInt = -1 := by decide
        omega
      · refine q_isLetter V _ _ (fun r5 _ hb5 => ⟨fun g5 => ?_, fun g5 => ?_⟩)
        · refine fin (Classical.byContradiction (fun hc => ?_))
          have := hLs c hqc (by omega)
          unfold isL at this
          omega
        · have hlt : c < e := Classical.byContradiction (fun hc => by
            have hce2 : c = e := by omega
            rcases hend with h | h
            · omega
            · apply h
              rw [← hce2]
              unfold isL
              omega)
          have y2 : (fi (si V 2 (fi V 2 + 1)) 2).toInt = ((c + 1 : Nat) : Int) := by
            rw [si_g, inc1 (by omega), vc]; omega
          exact hk2 _ ⟨Fr.si (by decide) hV, by rw [si_f (by decide)]; exact v4, c + 1, y2, by omega, by omega⟩ (by rw [y2]; omega)
  refine q_seeE T _ _ t n q hTT ha (fun g => ⟨fun g32 => absurd g32 (by decide), fun _ => q_seeE T _ _ t n q hTT ha (fun _ => ⟨fun _ => out, fun g10 => absurd g10 (by decide)⟩) (fun g2 _ => by exfalso; omega)⟩) (fun g g0 => ⟨fun g32 => absurd (Or.inl g32) (nb g), fun _ => q_seeE T _ _ t n q hTT ha (fun g2 => by exfalso; omega) (fun _ _ => ⟨fun _ => out, fun g10 => absurd (Or.inr g10) (nb g)⟩)⟩)
