theorem ypW_in {Z : TS} {a b : Int} {f : Nat → YR} {acc : YR} {n : Nat} (h : (Z.1 acc.2.1).toInt = a ∨ (Z.1 acc.2.1).toInt = b) : ypBn acc (ypWh Z a b f (n + 1)) = ypBn (ypBn acc (fun i => ypBn (f (i + 1)) (ypEm (Z.1 i) 0))) (ypWh Z a b f n) := by
  rw [ypBn_as]
  exact ypBn_c (fun _ => ypWh_y h)
theorem ypW_no {Z : TS} {a b : Int} {f : Nat → YR} {acc : YR} {n : Nat} (h : ¬ ((Z.1 acc.2.1).toInt = a ∨ (Z.1 acc.2.1).toInt = b)) : ypBn acc (ypWh Z a b f n) = acc := ypBn_r2 (fun _ => ypWh_n h)
theorem ypPe_y {Z : TS} {j : Nat} (h : (ypPe Z false j).1 = 0) : ((Z.1 j).toInt = 21 ∨ (Z.1 j).toInt = 22) ∧ ypPe Z false j = ypFl (decide ((Z.1 j).toInt = 22)) false (j + 1) := by
  by_cases e : (Z.1 j).toInt = 21 ∨ (Z.1 j).toInt = 22
  · refine ⟨e, ?_⟩
    unfold ypPe
    rw [if_pos e, if_neg (by decide)]
  · unfold ypPe at h
    rw [if_neg e] at h
    exact ypNo_x h
theorem ypPe_n {Z : TS} {j : Nat} (h : (ypPe Z false j).1 ≠ 0) : ¬ ((Z.1 j).toInt = 21 ∨ (Z.1 j).toInt = 22) ∧ ypPe Z false j = ypNo 1 j := by
  by_cases e : (Z.1 j).toInt = 21 ∨ (Z.1 j).toInt = 22
  · exfalso
    apply h
    unfold ypPe
    rw [if_pos e, if_neg (by decide)]
    rfl
  · refine ⟨e, ?_⟩
    unfold ypPe
    rw [if_neg e]
set_option maxHeartbeats 800000 in
theorem q_personsE (S : GS) (post : Int32 → GS → Prop) (hL : Lx S) (Z : TS) (Y : YT) (j : Nat) (hz : MZ Z Y j S) (k : ∀ (r : Int32) (S' : GS), EE S S' → (r = 0 ∨ r = 1) → (r.toInt ≠ 0 → GOx S S' ∧ (((fi S' 10).toInt = 0 ∧ (fi S' 11).toInt = 1) ∨ ((fi S' 10).toInt = 1 ∧ (fi S' 11).toInt = 0)) ∧ fi S' 14 = 1) → MX Z Y S S' r (ypPe Z true j) → (r.toInt ≠ 0 → fi S' 10 = Z.1 j - 21 ∧ fi S' 11 = Z.1 (j + 1) - 21) → post r S') : w_X12_persons S post := by
  have hk := MZ_k hz
  have hn0 := hL.2.2.2.2.2.1
  have e21 : (21 : Int32).toInt = 21 := by decide
  have l318 : (318 : Int32).toInt = 318 := by decide
  have es : (Z.1 j - 21).toInt = (Z.1 j).toInt - 21 := by rw [i_sub (by omega) (by omega), e21]
  unfold w_X12_persons
  refine q_personE S _ hL Z Y j hz (fun r1 S2 hE2 _ h2 hM2 h10e => ⟨fun g1 => ?_, fun g1 => k 0 S2 hE2 (Or.inl rfl) no0 (Or.inr ⟨rfl, ?_⟩) no0⟩)
  case refine_2 =>
    have hB := MX_0 hM2 g1
    obtain ⟨a, c⟩ := ypPe_n hB.1
    have e : ypPe Z true j = ypNo 1 j := by
      unfold ypPe
      rw [if_neg a]
    rw [e, ← c]
    exact hB
  obtain ⟨hG2, h10, h14, -⟩ := h2 g1
  have hG := MX_1 hM2 g1
  obtain ⟨ht, ePe⟩ := ypPe_y hG.1
  have e10 := h10e g1
  rw [ePe] at hG
  have hz2 : MZ Z Y (j + 1) S2 := hG.2.1
  have hk2 := MZ_k hz2
  have t21 := MZ_t hz2 21 318 (by decide) (by decide)
  have t22 := MZ_t hz2 22 319 (by decide) (by decide)
  have e318 : ((318 : Int32) + fi S2 10).toInt = 318 + ((Z.1 j).toInt - 21) := by
    rw [e10, ad_ab (by rw [l318, es]; omega) (by rw [l318, es]; omega), l318, es]
  rw [e318]
  clear e318
  refine ⟨fun g2 => ?_, fun g2 => ⟨Or.inl rfl, k 0 _ (EE_tr hE2 (EE_bad S2 1)) (Or.inl rfl) no0 (Or.inr ⟨rfl, ?_⟩) no0⟩⟩
  case refine_2 =>
    have e : ypPe Z true j = ypNo 1 (j + 1) := by
      unfold ypPe
      rw [if_pos ht, if_pos rfl, if_neg (by omega)]
    rw [e]
    exact MB_bad hz2 1 1 (by decide) (by decide)
  refine q_personE S2 _ hG2.1 Z Y (j + 1) hz2 (fun r3 S4 hE4 _ h4 hM4 h10f => ⟨fun g3 => ?_, fun g3 => k 0 S4 (EE_tr hE2 hE4) (Or.inl rfl) no0 (Or.inr ⟨rfl, ?_⟩) no0⟩)
  case refine_2 =>
    have hB := MX_0 hM4 g3
    obtain ⟨a, c⟩ := ypPe_n hB.1
    have e : ypPe Z true j = ypNo 1 (j + 1) := by
      unfold ypPe
      rw [if_pos ht, if_pos rfl, if_neg (by omega)]
    rw [e, ← c]
    exact hB
  obtain ⟨hG4, i10, i14, i3⟩ := h4 g3
  have hGG := MX_1 hM4 g3
  have f10e := h10f g3
  obtain ⟨ht4, ePe4⟩ := ypPe_y hGG.1
  rw [ePe4] at hGG
  have eF : Fr [10, 11] [] [] [] S4 (si (si S4 11 (fi S4 10)) 10 (fi S2 10)) := Fr.si (by decide) (Fr.si (by decide) Fr.rf)
  have f10 : fi (si (si S4 11 (fi S4 10)) 10 (fi S2 10)) 10 = fi S2 10 := by
    show (si (si S4 11 (fi S4 10)) 10 (fi S2 10)).1 10 = _
    rw [si_at]
  have f11 : fi (si (si S4 11 (fi S4 10)) 10 (fi S2 10)) 11 = fi S4 10 := by
    show (si (si S4 11 (fi S4 10)) 10 (fi S2 10)).1 11 = _
    rw [si_ne (by decide), si_at]
  generalize si (si S4 11 (fi S4 10)) 10 (fi S2 10) = T at eF f10 f11 ⊢
  have t1 : fi T 1 = fi S4 1 := eF.1 1 (by decide)
  have t2 : fi T 2 = fi S4 2 := eF.1 2 (by decide)
  have t3 : fi T 3 = fi S4 3 := eF.1 3 (by decide)
  have t4 : fi T 4 = fi S4 4 := eF.1 4 (by decide)
  have t9 : fi T 9 = fi S4 9 := eF.1 9 (by decide)
  have t14 : fi T 14 = fi S4 14 := eF.1 14 (by decide)
  have tn := nn_fr eF (by decide)
  have hGO := GO_tr hG2 hG4
  have hGT : GOx S T := by
    obtain ⟨a, b, c, d, e⟩ := hGO
    refine ⟨?_, tn.trans b, by rw [t4]; exact c, t9.trans d, BM_tr e (BM_fr eF (by decide) (by decide))⟩
    unfold Lx at a ⊢
    rw [t1, t2, t3, t4, tn]; exact a
  have hT14 : fi T 14 = 1 := by
    rw [t14]
    by_cases g : (fi S4 10).toInt = 1
    · exact i14 g
    · have g5 : (fi S2 10).toInt = 1 := by
        rw [e10, es]
        rw [f10e] at g
        have es2 : (Z.1 (j + 1) - 21).toInt = (Z.1 (j + 1)).toInt - 21 := by rw [i_sub (by omega) (by omega), e21]
        rw [es2] at g
        omega
      have g6 := h14 g5
      rcases hG4.2.2.2.2.1 with e | e
      · rw [e]; exact g6
      · exact e
  have eT : ypPe Z true j = ypFl true false (j + 2) := by
    unfold ypPe
    rw [if_pos ht, if_pos rfl, if_pos (by omega)]
  refine k 1 T (EE_tr hE2 (EE_tr hE4 (EE_fr (eF.wk (by decide))))) (Or.inr rfl) (fun _ => ⟨hGT, ?_, hT14⟩) (Or.inl ⟨rfl, ?_⟩) (fun _ => ⟨by rw [f10]; exact e10, by rw [f11]; exact f10e⟩)
  · have es2 : (Z.1 (j + 1) - 21).toInt = (Z.1 (j + 1)).toInt - 21 := by rw [i_sub (by omega) (by omega), e21]
    rw [f10, f11, e10, f10e, es, es2]; omega
  · rw [eT]
    have hh := MG_fr (MG_tr (f := fun _ => ypFl (decide ((Z.1 (j + 1)).toInt = 22)) false (j + 2)) hn0 hG hGG hE4) eF (by decide) (by decide)
    have hh2 : MG Z Y S T (0, j + 2, [], decide ((Z.1 j).toInt = 22) || decide ((Z.1 (j + 1)).toInt = 22), false) := hh
    have ed : (decide ((Z.1 j).toInt = 22) || decide ((Z.1 (j + 1)).toInt = 22)) = true := by
      rcases ht with e | e
      · rw [decide_eq_true (p := (Z.1 (j + 1)).toInt = 22) (by omega), Bool.or_true]
      · rw [decide_eq_true (p := (Z.1 j).toInt = 22) e, Bool.true_or]
    rw [ed] at hh2
    exact hh2
theorem MG_15 {Z : TS} {Y : YT} {S T : GS} {r : YR} (h : MG Z Y S T r) : MG Z Y S (si T 15 1) (r.1, r.2.1, r.2.2.1, r.2.2.2.1, r.2.2.2.2 || true) := by
  obtain ⟨a, c, d, x, y⟩ := h
  have eF : Fr [15] [] [] [] T (si T 15 1) := Fr.si (by decide) Fr.rf
  have f15 : fi (si T 15 1) 15 = 1 := si_at _ _ _
  have e14 : fi (si T 15 1) 14 = fi T 14 := eF.1 14 (by decide)
  refine ⟨a, MZ_fr c eF (by decide) (by rw [e14]; exact c.2.2.2.2.2.2.2.1) (Or.inr f15), ?_, by rw [e14]; exact x, ?_⟩
  · obtain ⟨d1, d2, d3⟩ := d
    exact ⟨d1, d2, (eF.1 6 (by decide)).trans d3⟩
  · rw [f15, Bool.or_true]; rfl
set_option maxHeartbeats 800000 in
theorem q_unitE (S : GS) (post : Int32 → GS → Prop) (hL : Lx S) (Z : TS) (Y : YT) (j : Nat) (hz : MZ Z Y j S) (k : ∀ (r : Int32) (S' : GS), EE S S' → (r = 0 ∨ r = 1) → (r.toInt ≠ 0 → OKx S S') → MX Z Y S S' r (ypOp Z j) → post r S') : w_X12_unit S post := by
  have hkz := MZ_k hz
  have hn : 0 ≤ nn S ∧ nn S ≤ 700 := by
    obtain ⟨a1, a2, a3, a4, a5, a6, a7⟩ := hL
    omega
  have b31 : (fi S 3).toInt ≠ 0 → ∀ y v0 : Int32, y.toInt < 8 → y = mS (Z.1 j) → ((Z.1 j).toInt ≠ 14 → fi S 5 = v0) → ypOp Z j = ypEm (Z.1 j) v0 (j + 1) → w_X12_unit_B31 post S y := by
    intro ht y v0 hy hyS hv he
    have hk0 : (Z.1 j).toInt ≠ 0 := fun g => ht ((MZ_0 hz).mpr g)
    unfold w_X12_unit_B31
    refine q_layE S y (fi S 5) (Z.1 j) v0 _ (by omega) hyS hv Z Y j hz (fun T hE hF h1 h2 hGT => ?_)
    refine q_nextE _ _ Z Y j hGT.2.1 hk0 (fun T' hN hzN => ?_)
    refine k 1 _ (EE_tr hE (NX_ee hN)) (Or.inr rfl) (fun _ => OK_ln hL ht hF h1 h2 hy hN) (Or.inl ⟨rfl, ?_⟩)
    rw [he]
    have hh := MG_tr (f := fun i => ypOk (i + 1)) hn.1 hGT (MG_nx hzN hN) (NX_ee hN)
    exact hh
  have b172 : ∀ (T : GS) (y v0 : Int32) (rr : YR), EE S T → GOx S T → y.toInt < 8 → y = mS (Z.1 j) → fi T 10 = v0 → MG Z Y S T rr → ypOp Z j = ypBn rr (ypEm (Z.1 j) v0) → w_X12_unit_B172 post T y := by
    intro T y v0 rr hE hG hy hyS hv hM he
    unfold w_X12_unit_B172
    have hb := hG.2.1
    refine q_layE T y (fi T 10) (Z.1 j) v0 _ (by omega) hyS (fun _ => hv) Z Y rr.2.1 hM.2.1 (fun T' hE' hF h1 h2 hGT => ?_)
    refine k 1 _ (EE_tr hE hE') (Or.inr rfl) (fun _ => OK_ly hL hG hF h1 h2 hy) (Or.inl ⟨rfl, ?_⟩)
    rw [he]
    exact MG_tr hn.1 hM hGT hE'
  have b162 : ∀ (T : GS) (y v0 : Int32) (rr : YR), EE S T → GOx S T → y.toInt < 8 → y = mS (Z.1 j) → (y.toInt = 5 ↔ (Z.1 j).toInt = 19) → fi T 10 = v0 → MG Z Y S T rr → ypOp Z j = ypBn rr (fun i => (0, i, [(Z.1 j, v0)], false, decide ((Z.1 j).toInt = 19))) → w_X12_unit_B162 post T y := by
    intro T y v0 rr hE hG hy hyS h5 hv hM he
    unfold w_X12_unit_B162
    refine ⟨fun g => b172 T y v0 rr hE hG hy hyS hv hM ?_, fun g => ?_⟩
    · rw [he]
      refine ypBn_c (fun _ => ?_)
      rw [decide_eq_false (fun h => g (h5.mpr h))]
      rfl
    have eF : Fr [15] [] [] [] T (si T 15 1) := Fr.si (by decide) Fr.rf
    have f15 : fi (si T 15 1) 15 = 1 := si_at _ _ _
    have hMU := MG_15 hM
    generalize si T 15 1 = U at eF f15 hMU ⊢
    have t1 : fi U 1 = fi T 1 := eF.1 1 (by decide)
    have t2 : fi U 2 = fi T 2 := eF.1 2 (by decide)
    have t3 : fi U 3 = fi T 3 := eF.1 3 (by decide)
    have t4 : fi U 4 = fi T 4 := eF.1 4 (by decide)
    have t9 : fi U 9 = fi T 9 := eF.1 9 (by decide)
    have t10 : fi U 10 = fi T 10 := eF.1 10 (by decide)
    have t14 : fi U 14 = fi T 14 := eF.1 14 (by decide)
    have tn := nn_fr eF (by decide)
    refine b172 U y v0 _ (EE_tr hE (EE_fr (eF.wk (by decide)))) ?_ hy hyS (t10.trans hv) hMU ?_
    · obtain ⟨a, b, c, d, e⟩ := hG
      refine ⟨?_, tn.trans b, by rw [t4]; exact c, t9.trans d, BM_tr e ⟨Or.inl t14, Or.inr f15⟩⟩
      unfold Lx at a ⊢
      rw [t1, t2, t3, t4, tn]; exact a
    · rw [he, decide_eq_true (h5.mp g), ypBn_g hM.1, ypBn_g hMU.1]
      simp only [ypEm, Bool.or_false, Bool.or_true]
  have bNo : ¬ ((Z.1 j).toInt = 2 ∨ (Z.1 j).toInt = 14 ∨ (Z.1 j).toInt = 7 ∨ (Z.1 j).toInt = 19 ∨ (Z.1 j).toInt = 20 ∨ (Z.1 j).toInt = 8 ∨ (Z.1 j).toInt = 11 ∨ (Z.1 j).toInt = 18) → w_X12_unit_B112 post S (-1) := by
    intro hno
    unfold w_X12_unit_B112
    refine ⟨fun g => absurd (by decide) g, fun _ => ⟨Or.inl rfl, k 0 _ (EE_bad S 1) (Or.inl rfl) no0 (Or.inr ⟨rfl, ?_⟩)⟩⟩
    have e : ypOp Z j = ypNo 1 j := by
      unfold ypOp
      rw [if_neg (by omega), if_neg (by omega), if_neg (by omega), if_neg (by omega)]
    rw [e]
    exact MB_bad hz 1 1 (by decide) (by decide)
  have bTwo : ∀ y : Int32, (y.toInt = 2 ∨ y.toInt = 3 ∨ y.toInt = 4) → ((Z.1 j).toInt = 8 ∨ (Z.1 j).toInt = 11 ∨ (Z.1 j).toInt = 18) → y = mS (Z.1 j) → w_X12_unit_B112 post S y := by
    intro y hy hkk hyS
    have he : ypOp Z j = ypBn (ypPe Z true (j + 1)) (fun i => (0, i, [(Z.1 j, Z.1 (j + 1) - 21)], false, decide ((Z.1 j).toInt = 19))) := by
      unfold ypOp
      rw [if_neg (by omega), if_neg (by omega), if_neg (by omega), if_pos hkk]
    unfold w_X12_unit_B112 w_X12_unit_B143 w_X12_unit_B160
    have ht : (fi S 3).toInt ≠ 0 := fun g => by
      have := (MZ_0 hz).mp g
      omega
    refine ⟨fun g => q_nextE _ _ Z Y j hz (by omega) (fun T hN hzN => ?_), fun g => by exfalso; omega⟩
    have hG := GO_nx hL ht hN
    have hE := NX_ee hN
    have hMN := MG_nx hzN hN
    have pp : w_X12_persons T (fun r7 S8 => (r7.toInt ≠ 0 → w_X12_unit_B162 post S8 y) ∧ (r7.toInt = 0 → post 0 S8)) := by
      refine q_personsE T _ hG.1 Z Y (j + 1) hzN (fun r7 S8 hE8 _ h8 hM8 h10 => ⟨fun g7 => b162 S8 y _ _ (EE_tr hE hE8) (GO_tr hG (h8 g7).1) (by omega) hyS (by omega) (h10 g7).1 (MG_t0 hn.1 hMN (MX_1 hM8 g7) hE8) he, fun g7 => k 0 _ (EE_tr hE hE8) (Or.inl rfl) no0 (Or.inr ⟨rfl, ?_⟩)⟩)
      rw [he]
      exact MB_l (MX_0 hM8 g7)
    exact ⟨fun _ => pp, fun _ => ⟨fun _ => pp, fun _ => ⟨fun g => by exfalso; omega, fun _ => pp⟩⟩⟩
  have bOne : ∀ y : Int32, (y.toInt = 1 ∨ y.toInt = 5 ∨ y.toInt = 6) → ((Z.1 j).toInt = 7 ∨ (Z.1 j).toInt = 19 ∨ (Z.1 j).toInt = 20) → y = mS (Z.1 j) → (y.toInt = 5 ↔ (Z.1 j).toInt = 19) → w_X12_unit_B112 post S y := by
    intro y hy hkk hyS h5
    have he : ypOp Z j = ypBn (ypPe Z false (j + 1)) (fun i => (0, i, [(Z.1 j, Z.1 (j + 1) - 21)], false, decide ((Z.1 j).toInt = 19))) := by
      unfold ypOp
      rw [if_neg (by omega), if_neg (by omega), if_pos hkk]
    unfold w_X12_unit_B112 w_X12_unit_B143 w_X12_unit_B160
    have ht : (fi S 3).toInt ≠ 0 := fun g => by
      have := (MZ_0 hz).mp g
      omega
    refine ⟨fun g => q_nextE _ _ Z Y j hz (by omega) (fun T hN hzN => ?_), fun g => by exfalso; omega⟩
    have hG := GO_nx hL ht hN
    have hE := NX_ee hN
    have hMN := MG_nx hzN hN
    refine ⟨fun g => by exfalso; omega, fun _ => ⟨fun g => by exfalso; omega, fun _ => ⟨fun _ => ?_, fun g => by exfalso; omega⟩⟩⟩
    refine q_personE T _ hG.1 Z Y (j + 1) hzN (fun r7 S8 hE8 _ h8 hM8 h10 => ⟨fun g7 => b162 S8 y _ _ (EE_tr hE hE8) (GO_tr hG (h8 g7).1) (by omega) hyS h5 (h10 g7) (MG_t0 hn.1 hMN (MX_1 hM8 g7) hE8) he, fun g7 => k 0 _ (EE_tr hE hE8) (Or.inl rfl) no0 (Or.inr ⟨rfl, ?_⟩)⟩)
    rw [he]
    exact MB_l (MX_0 hM8 g7)
  have t2 := MZ_t hz 2 2 (by decide) (by decide)
  have t14 := MZ_t hz 14 311 (by decide) (by decide)
  have t7 := MZ_t hz 7 304 (by decide) (by decide)
  have t8 := MZ_t hz 8 305 (by decide) (by decide)
  have t11 := MZ_t hz 11 308 (by decide) (by decide)
  have t18 := MZ_t hz 18 315 (by decide) (by decide)
  have t19 := MZ_t hz 19 316 (by decide) (by decide)
  have t20 := MZ_t hz 20 317 (by decide) (by decide)
  have lit : ∀ m : Int32, (Z.1 j).toInt = m.toInt → Z.1 j = m := fun m g => i_eq g
  unfold w_X12_unit w_X12_unit_B17
  have h2 : (fi S 3).toInt = 2 → ((fi S 3).toInt ≠ 311 → w_X12_unit_B31 post S 0) ∧ ((fi S 3).toInt = 311 → w_X12_unit_B31 post S 7) := by
    intro g
    have g2 : (Z.1 j).toInt = 2 := t2.mp g
    refine ⟨fun _ => b31 (by omega) 0 (Z.2.1 j).toInt32 (by decide) (by rw [lit 2 g2]; decide) (fun _ => hz.2.2.2.2.2.2.1 g2) ?_, fun g3 => by exfalso; omega⟩
    unfold ypOp
    rw [if_pos g2]
  have h14 : (fi S 3).toInt = 311 → ((fi S 3).toInt ≠ 311 → w_X12_unit_B31 post S 0) ∧ ((fi S 3).toInt = 311 → w_X12_unit_B31 post S 7) := by
    intro g
    have g2 : (Z.1 j).toInt = 14 := t14.mp g
    refine ⟨fun g3 => absurd g g3, fun _ => b31 (by omega) 7 0 (by decide) (by rw [lit 14 g2]; decide) (fun g3 => absurd g2 g3) ?_⟩
    unfold ypOp
    rw [if_neg (by omega), if_pos g2]
  refine ⟨h2, fun n2 => ⟨fun n14 => ⟨fun n7 => ⟨fun n8 => ⟨fun n11 => ⟨fun n18 => ⟨fun n19 => ⟨fun n20 => bNo (by omega), fun g => ?_⟩, fun g => ?_⟩, fun g => ?_⟩, fun g => ?_⟩, fun g => ?_⟩, fun g => ?_⟩, h14⟩⟩
  · exact bOne 6 (by decide) (by omega) (by rw [lit 20 (t20.mp g)]; decide) (by rw [lit 20 (t20.mp g)]; decide)
  · exact bOne 5 (by decide) (by omega) (by rw [lit 19 (t19.mp g)]; decide) (by rw [lit 19 (t19.mp g)]; decide)
  · exact bTwo 4 (by decide) (by omega) (by rw [lit 18 (t18.mp g)]; decide)
  · exact bTwo 3 (by decide) (by omega) (by rw [lit 11 (t11.mp g)]; decide)
  · exact bTwo 2 (by decide) (by omega) (by rw [lit 8 (t8.mp g)]; decide)
  · exact bOne 1 (by decide) (by omega) (by rw [lit 7 (t7.mp g)]; decide) (by rw [lit 7 (t7.mp g)]; decide)

set_option maxHeartbeats 800000 in
theorem q_productE (S : GS) (post : Int32 → GS → Prop) (hL : Lx S) (Z : TS) (Y : YT) (j : Nat) (hz : MZ Z Y j S) (k : ∀ (r : Int32) (S' : GS), EE S S' → (r = 0 ∨ r = 1) → (r.toInt ≠ 0 → OKx S S') → MX Z Y S S' r (ypLs Z 26 26 (ypOp Z) j) → post r S') : w_X12_product S post := by
  have hn0 := hL.2.2.2.2.2.1
  have hgo : ypGo (ypOp Z) := fun _ h => ypOp_lt h
  have e0 : ypLs Z 26 26 (ypOp Z) j = ypBn (ypOp Z j) (ypWh Z 26 26 (ypOp Z) 800) := rfl
  generalize ypLs Z 26 26 (ypOp Z) j = RES at e0 k
  unfold w_X12_product
  refine q_unitE S _ hL Z Y j hz (fun r1 S2 hE2 _ h2 hM2 => ⟨fun g1 => ?_, fun g1 => k 0 S2 hE2 (Or.inl rfl) no0 (Or.inr ⟨rfl, by rw [e0]; exact MB_l (MX_0 hM2 g1)⟩)⟩)
  refine lr1 (fun (T : GS) => EE S T ∧ OKx S T ∧ ∃ (acc : YR) (nt : Nat), MG Z Y S T acc ∧ RES = ypBn acc (ypWh Z 26 26 (ypOp Z) nt) ∧ 800 ≤ nt + acc.2.1) (fun T => (700 - (fi T 4).toInt).toNat) ?_ _ ⟨hE2, h2 g1, _, 800, MX_1 hM2 g1, e0, by omega⟩
  rintro kk T ⟨hE, hO, acc, nt, hM, hR, hnt⟩ hk
  have hzT : MZ Z Y acc.2.1 T := hM.2.1
  have tt := MZ_t hzT 26 42 (by decide) (by decide)
  have hc7 := hzT.1.2.2
  have hjc := hzT.2.1
  unfold w_X12_product_F9 w_X12_product_B41
  refine ⟨fun g => k 1 T hE (Or.inr rfl) (fun _ => hO) (Or.inl ⟨rfl, by rw [hR, ypW_no (by omega)]; exact hM⟩), fun g => ?_⟩
  have gk : (Z.1 acc.2.1).toInt = 26 := tt.mp g
  obtain ⟨n, hn⟩ : ∃ n, nt = n + 1 := ⟨nt - 1, by omega⟩
  rw [hn] at hR
  have hR2 := hR.trans (ypW_in (Or.inl gk))
  refine q_nextE _ _ Z Y acc.2.1 hzT (by omega) (fun S4 hN hz4 => ?_)
  have g4 := GO_nx hO.1 (by omega) hN
  have e4 := NX_ee hN
  have hTn : 0 ≤ nn T := hO.1.2.2.2.2.2.1
  refine q_unitE S4 _ g4.1 Z Y (acc.2.1 + 1) hz4 (fun r5 S6 hE6 _ h6 hM6 => ⟨fun g5 => ?_, fun g5 => k 0 S6 (EE_tr hE (EE_tr e4 hE6)) (Or.inl rfl) no0 (Or.inr ⟨rfl, ?_⟩)⟩)
  case refine_2 =>
    have hB : MB Z S6 (ypBn acc (fun i => ypBn (ypOp Z (i + 1)) (ypEm (Z.1 i) 0))) := MB_tr hM (MB_l (MX_0 hM6 g5))
    rw [hR2]
    exact MB_l hB
  have o6 := h6 g5
  have hG6 := MX_1 hM6 g5
  have eL : Z.1 acc.2.1 = 26 := i_eq (by rw [gk]; decide)
  refine q_layE S6 10 0 (Z.1 acc.2.1) 0 _ (nn_lx o6.1) (by rw [eL]; decide) (fun _ => rfl) Z Y _ hG6.2.1 (fun S8 e8 hF h1 h2 hG8 => ?_)
  have o8 := OK_bin hL hO e4 g4 hE6 o6 e8 hF h1 h2 (by decide)
  have q4 : fi S8 4 = fi S6 4 := hF.1 4 (by decide)
  have y1 := o6.2.1
  have y2 := hE6.2.2.2
  have y3 := g4.2.2.1
  have y4 := o8.1.2.1
  have y5 := o8.1.2.2.1
  have y6 := o8.1.2.2.2.1
  have hXT : MG Z Y T S8 (ypBn (ypOp Z (acc.2.1 + 1)) (ypEm (Z.1 acc.2.1) 0)) := MG_tr hTn (MG_t0 hTn (MG_nx hz4 hN) hG6 hE6) hG8 e8
  have hXS : MG Z Y S S8 (ypBn acc (fun i => ypBn (ypOp Z (i + 1)) (ypEm (Z.1 i) 0))) := MG_tr hn0 hM hXT (EE_tr e4 (EE_tr hE6 e8))
  have hpp : (ypBn acc (fun i => ypBn (ypOp Z (i + 1)) (ypEm (Z.1 i) 0))).2.1 = (ypOp Z (acc.2.1 + 1)).2.1 := by
    rw [ypBn_2 hXS.1, ypBn_2 hXT.1]
    rfl
  have hlt := hgo _ hG6.1
  exact hk _ ⟨EE_tr hE (EE_tr e4 (EE_tr hE6 e8)), o8, _, n, hXS, hR2, by omega⟩ (by rw [q4] at *; omega)

set_option maxHeartbeats 800000 in
theorem q_sumUpE (S : GS) (post : Int32 → GS → Prop) (hL : Lx S) (Z : TS) (Y : YT) (j : Nat) (hz : MZ Z Y j S) (k : ∀ (r : Int32) (S' : GS), EE S S' → (r = 0 ∨ r = 1) → (r.toInt ≠ 0 → OKx S S') → MX Z Y S S' r (ypSum Z j) → post r S') : w_X12_sumUp S post := by
  have hn0 := hL.2.2.2.2.2.1
  have hgo : ypGo (ypLs Z 26 26 (ypOp Z)) := ypLs_lt (fun _ h => ypOp_lt h)
  have e0 : ypSum Z j = ypBn (ypLs Z 26 26 (ypOp Z) j) (ypWh Z 24 25 (ypLs Z 26 26 (ypOp Z)) 800) := rfl
  generalize ypSum Z j = RES at e0 k
  unfold w_X12_sumUp
  refine q_productE S _ hL Z Y j hz (fun r1 S2 hE2 _ h2 hM2 => ⟨fun g1 => ?_, fun g1 => k 0 S2 hE2 (Or.inl rfl) no0 (Or.inr ⟨rfl, by rw [e0]; exact MB_l (MX_0 hM2 g1)⟩)⟩)
  refine lr1 (fun (T : GS) => EE S T ∧ OKx S T ∧ ∃ (acc : YR) (nt : Nat), MG Z Y S T acc ∧ RES = ypBn acc (ypWh Z 24 25 (ypLs Z 26 26 (ypOp Z)) nt) ∧ 800 ≤ nt + acc.2.1) (fun T => (700 - (fi T 4).toInt).toNat) ?_ _ ⟨hE2, h2 g1, _, 800, MX_1 hM2 g1, e0, by omega⟩
  rintro kk T ⟨hE, hO, acc, nt, hM, hR, hnt⟩ hk
  have hzT : MZ Z Y acc.2.1 T := hM.2.1
  have tp := MZ_t hzT 24 43 (by decide) (by decide)
  have tm := MZ_t hzT 25 45 (by decide) (by decide)
  have hc7 := hzT.1.2.2
  have hjc := hzT.2.1
  have lit : ∀ m : Int32, (Z.1 acc.2.1).toInt = m.toInt → Z.1 acc.2.1 = m := fun m g => i_eq g
  have b43 : ∀ y : Int32, ((Z.1 acc.2.1).toInt = 24 ∨ (Z.1 acc.2.1).toInt = 25) → y = mS (Z.1 acc.2.1) → 8 ≤ y.toInt ∧ y.toInt ≠ 14 → w_X12_sumUp_B43 post kk (w_X12_sumUp_B66 post) T y := by
    intro y gk hyS hy
    have ht : (fi T 3).toInt ≠ 0 := fun g => by
      have := (MZ_0 hzT).mp g
      omega
    unfold w_X12_sumUp_B43
    obtain ⟨n, hn⟩ : ∃ n, nt = n + 1 := ⟨nt - 1, by omega⟩
    rw [hn] at hR
    have hR2 := hR.trans (ypW_in gk)
    refine q_nextE _ _ Z Y acc.2.1 hzT (by omega) (fun S4 hN hz4 => ?_)
    have g4 := GO_nx hO.1 ht hN
    have e4 := NX_ee hN
    have hTn : 0 ≤ nn T := hO.1.2.2.2.2.2.1
    refine q_productE S4 _ g4.1 Z Y (acc.2.1 + 1) hz4 (fun r5 S6 hE6 _ h6 hM6 => ⟨fun g5 => ?_, fun g5 => k 0 S6 (EE_tr hE (EE_tr e4 hE6)) (Or.inl rfl) no0 (Or.inr ⟨rfl, ?_⟩)⟩)
    case refine_2 =>
      have hB : MB Z S6 (ypBn acc (fun i => ypBn (ypLs Z 26 26 (ypOp Z) (i + 1)) (ypEm (Z.1 i) 0))) := MB_tr hM (MB_l (MX_0 hM6 g5))
      rw [hR2]
      exact MB_l hB
    have o6 := h6 g5
    have hG6 := MX_1 hM6 g5
    refine q_layE S6 y 0 (Z.1 acc.2.1) 0 _ (nn_lx o6.1) hyS (fun _ => rfl) Z Y _ hG6.2.1 (fun S8 e8 hF h1 h2 hG8 => ?_)
    have o8 := OK_bin hL hO e4 g4 hE6 o6 e8 hF h1 h2 hy
    have q4 : fi S8 4 = fi S6 4 := hF.1 4 (by decide)
    have y1 := o6.2.1
    have y2 := hE6.2.2.2
    have y3 := g4.2.2.1
    have y4 := o8.1.2.1
    have y5 := o8.1.2.2.1
    have y6 := o8.1.2.2.2.1
    have hXT : MG Z Y T S8 (ypBn (ypLs Z 26 26 (ypOp Z) (acc.2.1 + 1)) (ypEm (Z.1 acc.2.1) 0)) := MG_tr hTn (MG_t0 hTn (MG_nx hz4 hN) hG6 hE6) hG8 e8
    have hXS : MG Z Y S S8 (ypBn acc (fun i => ypBn (ypLs Z 26 26 (ypOp Z) (i + 1)) (ypEm (Z.1 i) 0))) := MG_tr hn0 hM hXT (EE_tr e4 (EE_tr hE6 e8))
    have hpp : (ypBn acc (fun i => ypBn (ypLs Z 26 26 (ypOp Z) (i + 1)) (ypEm (Z.1 i) 0))).2.1 = (ypLs Z 26 26 (ypOp Z) (acc.2.1 + 1)).2.1 := by
      rw [ypBn_2 hXS.1, ypBn_2 hXT.1]
      rfl
    have hlt := hgo _ hG6.1
    exact hk _ ⟨EE_tr hE (EE_tr e4 (EE_tr hE6 e8)), o8, _, n, hXS, hR2, by omega⟩ (by rw [q4] at *; omega)
  unfold w_X12_sumUp_F9 w_X12_sumUp_B66 w_X12_sumUp_B27
  have bp : (fi T 3).toInt = 43 → ((fi T 3).toInt ≠ 43 → w_X12_sumUp_B43 post kk (w_X12_sumUp_B66 post) T 9) ∧ ((fi T 3).toInt = 43 → w_X12_sumUp_B43 post kk (w_X12_sumUp_B66 post) T 8) := fun g => ⟨fun g2 => absurd g g2, fun _ => b43 8 (Or.inl (tp.mp g)) (by rw [lit 24 (tp.mp g)]; decide) (by decide)⟩
  have bm : (fi T 3).toInt = 45 → ((fi T 3).toInt ≠ 43 → w_X12_sumUp_B43 post kk (w_X12_sumUp_B66 post) T 9) ∧ ((fi T 3).toInt = 43 → w_X12_sumUp_B43 post kk (w_X12_sumUp_B66 post) T 8) := fun g => ⟨fun _ => b43 9 (Or.inr (tm.mp g)) (by rw [lit 25 (tm.mp g)]; decide) (by decide), fun g2 => by exfalso; omega⟩
  exact ⟨bp, fun g1 => ⟨fun g2 => k 1 T hE (Or.inr rfl) (fun _ => hO) (Or.inl ⟨rfl, by rw [hR, ypW_no (by omega)]; exact hM⟩), bm⟩⟩

