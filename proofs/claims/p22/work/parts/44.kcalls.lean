set_option maxHeartbeats 400000 in
theorem r_11_coin (cy : Nat → ClassId) (tE : Nat) (S : KS) (p v : Int32) (post : Int32 → KS → Prop) (k1 : (0 ≤ p.toInt ∧ p.toInt ≤ 2) ∧ (0 ≤ v.toInt ∧ v.toInt ≤ 15) → ∀ S', KF [32] stR [] S S' → post 1 S') (k0 : ¬ ((0 ≤ p.toInt ∧ p.toInt ≤ 2) ∧ (0 ≤ v.toInt ∧ v.toInt ≤ 15)) → post 0 S) : w_X11_coin cy tE S p v post := by
  unfold w_X11_coin w_X11_coin_B16
  refine r_11_isPerson _ _ _ _ _ (fun r1 _ h1 => ⟨fun _ => k0 (by omega), fun _ => r_11_isWithin _ _ _ _ _ _ (fun r2 _ h2 => ?_)⟩)
  rw [li_15] at h2
  exact ⟨fun _ => r_9_set _ _ _ _ _ _ _ (by decide) (fun S6 h6 => k1 (by omega) _ (KF_si (by decide) (KF_wk h6 (by decide)))), fun _ => k0 (by omega)⟩
set_option maxHeartbeats 400000 in
theorem r_11_owner (cy : Nat → ClassId) (tE : Nat) (S : KS) (p v : Int32) (post : Int32 → KS → Prop) (k1 : (0 ≤ p.toInt ∧ p.toInt ≤ 2) ∧ (0 ≤ v.toInt ∧ v.toInt ≤ 3) → ∀ S', KF [32] stR [] S S' → post 1 S') (k0 : ¬ ((0 ≤ p.toInt ∧ p.toInt ≤ 2) ∧ (0 ≤ v.toInt ∧ v.toInt ≤ 3)) → post 0 S) : w_X11_owner cy tE S p v post := by
  unfold w_X11_owner w_X11_owner_B15
  refine r_11_isThing _ _ _ _ _ (fun r1 _ h1 => ⟨fun _ => k0 (by omega), fun _ => r_11_isWithin _ _ _ _ _ _ (fun r2 _ h2 => ?_)⟩)
  rw [li_3] at h2
  exact ⟨fun _ => r_9_set _ _ _ _ _ _ _ (by decide) (fun S6 h6 => k1 (by omega) _ (KF_si (by decide) (KF_wk h6 (by decide)))), fun _ => k0 (by omega)⟩
set_option maxHeartbeats 400000 in
theorem r_11_day (cy : Nat → ClassId) (tE : Nat) (S : KS) (v : Int32) (post : Int32 → KS → Prop) (k1 : (0 ≤ v.toInt ∧ v.toInt ≤ 15) → ∀ S', KF [32] stR [] S S' → post 1 S') (k0 : ¬ ((0 ≤ v.toInt ∧ v.toInt ≤ 15)) → post 0 S) : w_X11_day cy tE S v post := by
  unfold w_X11_day
  refine r_11_isWithin _ _ _ _ _ _ (fun r2 _ h2 => ?_)
  rw [li_15] at h2
  exact ⟨fun _ => r_9_set _ _ _ _ _ _ _ (by decide) (fun S6 h6 => k1 (by omega) _ (KF_si (by decide) (KF_wk h6 (by decide)))), fun _ => k0 (by omega)⟩
set_option maxHeartbeats 400000 in
theorem r_11_debt (cy : Nat → ClassId) (tE : Nat) (S : KS) (p q v : Int32) (post : Int32 → KS → Prop) (k1 : (0 ≤ p.toInt ∧ p.toInt ≤ 2) ∧ (0 ≤ q.toInt ∧ q.toInt ≤ 2) ∧ p.toInt ≠ q.toInt ∧ (0 ≤ v.toInt ∧ v.toInt ≤ 7) → ∀ S', KF [32] stR [] S S' → post 1 S') (k0 : ¬ ((0 ≤ p.toInt ∧ p.toInt ≤ 2) ∧ (0 ≤ q.toInt ∧ q.toInt ≤ 2) ∧ p.toInt ≠ q.toInt ∧ (0 ≤ v.toInt ∧ v.toInt ≤ 7)) → post 0 S) : w_X11_debt cy tE S p q v post := by
  unfold w_X11_debt w_X11_debt_B17
  refine r_11_arePair _ _ _ _ _ _ (fun r1 _ h1 => ⟨fun _ => k0 (by omega), fun _ => r_11_isWithin _ _ _ _ _ _ (fun r2 _ h2 => ?_)⟩)
  rw [li_7] at h2
  exact ⟨fun _ => r_9_set _ _ _ _ _ _ _ (by decide) (fun S6 h6 => k1 (by omega) _ (KF_si (by decide) (KF_wk h6 (by decide)))), fun _ => k0 (by omega)⟩
set_option maxHeartbeats 400000 in
theorem r_11_kin (cy : Nat → ClassId) (tE : Nat) (S : KS) (p q v z : Int32) (post : Int32 → KS → Prop) (k1 : (0 ≤ p.toInt ∧ p.toInt ≤ 2) ∧ (0 ≤ q.toInt ∧ q.toInt ≤ 2) ∧ p.toInt ≠ q.toInt ∧ (0 ≤ v.toInt ∧ v.toInt ≤ 1) → ∀ S', KF [32] stR [] S S' → post 1 S') (k0 : ¬ ((0 ≤ p.toInt ∧ p.toInt ≤ 2) ∧ (0 ≤ q.toInt ∧ q.toInt ≤ 2) ∧ p.toInt ≠ q.toInt ∧ (0 ≤ v.toInt ∧ v.toInt ≤ 1)) → post 0 S) : w_X11_kin cy tE S p q v z post := by
  unfold w_X11_kin w_X11_kin_B16
  refine r_11_arePair _ _ _ _ _ _ (fun r1 _ h1 => ⟨fun _ => k0 (by omega), fun _ => r_11_isWithin _ _ _ _ _ _ (fun r2 _ h2 => ?_)⟩)
  rw [li_1] at h2
  refine ⟨fun _ => ?_, fun _ => k0 (by omega)⟩
  have b28 : ∀ y, w_X11_kin_B28 cy tE post S p q v y := by
    intro y
    unfold w_X11_kin_B28 w_X11_kin_B88
    exact ⟨fun _ => r_9_set _ _ _ _ _ _ _ (by decide) (fun S6 h6 => k1 (by omega) _ (KF_si (by decide) (KF_wk h6 (by decide)))), fun _ => r_9_set _ _ _ _ _ _ _ (by decide) (fun S5 h5 => r_9_set _ _ _ _ _ _ _ (by decide) (fun S6 h6 => k1 (by omega) _ (KF_si (by decide) (KF_wk (KF_tr h5 h6) (by decide)))))⟩
  exact ⟨fun _ => b28 _, fun _ => b28 _⟩
set_option maxHeartbeats 400000 in
theorem r_11_end (cy : Nat → ClassId) (tE : Nat) (S : KS) (n : Int32) (post : Int32 → KS → Prop) (k1 : (0 ≤ n.toInt ∧ n.toInt ≤ (fi S.1 0).toInt) → post 1 (ksi S 0 n)) (k0 : ¬ (0 ≤ n.toInt ∧ n.toInt ≤ (fi S.1 0).toInt) → post 0 S) : w_X11_end cy tE S n post := by
  unfold w_X11_end
  exact r_11_isWithin _ _ _ _ _ _ (fun r _ h => ⟨fun _ => k1 (by omega), fun _ => k0 (by omega)⟩)
set_option maxHeartbeats 400000 in
theorem r_11_feedFour (cy : Nat → ClassId) (tE : Nat) (S : KS) (x : Int32) (post : KS → Prop) (h0 : 0 ≤ (fi S.1 0).toInt ∧ (fi S.1 0).toInt ≤ 696) (k : ∀ S', KF [0] [0] [] S S' → (fi S'.1 0).toInt = (fi S.1 0).toInt + 4 → post S') : w_X11_feedFour cy tE S x post := by
  unfold w_X11_feedFour
  refine lr3 (fun (T : KS) (_ s : Int32) => KF [0] [0] [] S T ∧ (s.toInt = 24 ∨ s.toInt = 16 ∨ s.toInt = 8 ∨ s.toInt = 0 ∨ s.toInt = -8) ∧ 8 * (fi T.1 0).toInt = 8 * (fi S.1 0).toInt + (24 - s.toInt)) (fun _ _ s => (s.toInt + 8).toNat) ?_ _ _ _ ⟨KF_rf S, Or.inl (by decide), by rw [li_24]; omega⟩
  rintro kk T x s ⟨hT, hs, hc⟩ hk
  unfold w_X11_feedFour_F3 w_X11_feedFour_B51 w_X11_feedFour_B45
  have e8 : (s + -8).toInt = s.toInt - 8 := by
    simp (disch := omega) only [Int32.toInt_add, Int32.toInt_sub, Int32.toInt_mul, Int32.toInt_neg, Int32.toInt_div, li_0, li_1, li_2, li_3, li_4, li_5, li_6, li_7, li_8, li_9, li_10, li_11, li_12, li_13, li_14, li_15, li_16, li_20, li_21, li_22, li_23, li_24, li_25, li_26, li_27, li_28, li_29, li_30, li_31, li_32, li_35, li_36, li_40, li_41, li_42, li_43, li_45, li_48, li_50, li_51, li_57, li_59, li_60, li_61, li_62, li_63, li_64, li_97, li_99, li_100, li_122, li_200, li_255, li_302, li_303, li_304, li_305, li_306, li_307, li_308, li_309, li_310, li_311, li_312, li_313, li_314, li_315, li_316, li_317, li_318, li_319, li_400, li_700, li_701, li_720, li_767, li_768, li_999, li_1000, li_1023, li_1024, li_1440, li_18720, tdv, bm, tnc]
    omega
  refine ⟨fun g => k _ hT (by omega), fun g => ⟨fun g2 => by omega, fun g2 => ⟨by omega, hk _ _ _ ⟨KF_si (by decide) (KF_su (by decide) hT), by rw [e8]; omega, ?_⟩ (by rw [e8]; omega)⟩⟩⟩
  have e : fi (ksi (ksu T 0 (fi T.1 0).toNatClampNeg (((x).toUInt32 >>> ((s : Int32).toUInt32 &&& Int32.toUInt32 31)).toInt32 &&& 255)) 0 (fi T.1 0 + 1)).1 0 = fi T.1 0 + 1 := si_at _ _ _
  rw [e, e8]
  clear e8
  rw [inc1 (by omega)]
  omega
set_option maxHeartbeats 400000 in
theorem r_11_feed (cy : Nat → ClassId) (tE : Nat) (S : KS) (a b c d e : Int32) (post : Int32 → KS → Prop) (h0 : 0 ≤ (fi S.1 0).toInt ∧ (fi S.1 0).toInt ≤ 700) (k0 : 680 < (fi S.1 0).toInt → post (-1) S) (k1 : (fi S.1 0).toInt ≤ 680 → ∀ S', KF [0] [0] [] S S' → (fi S'.1 0).toInt = (fi S.1 0).toInt + 20 → post (fi S'.1 0) S') : w_X11_feed cy tE S a b c d e post := by
  unfold w_X11_feed
  have e20 : (fi S.1 0 + 20).toInt = (fi S.1 0).toInt + 20 := by
    rw [ad_ab (by rw [li_20]; omega) (by rw [li_20]; omega), li_20]
  rw [e20]
  clear e20
  refine ⟨fun g => ?_, fun g => k0 (by omega)⟩
  refine r_11_feedFour _ _ _ _ _ (by omega) (fun S1 h1 c1 => r_11_feedFour _ _ _ _ _ (by omega) (fun S2 h2 c2 => r_11_feedFour _ _ _ _ _ (by omega) (fun S3 h3 c3 => r_11_feedFour _ _ _ _ _ (by omega) (fun S4 h4 c4 => r_11_feedFour _ _ _ _ _ (by omega) (fun S5 h5 c5 => ?_)))))
  exact k1 (by omega) _ (KF_tr h1 (KF_tr h2 (KF_tr h3 (KF_tr h4 h5)))) (by omega)
set_option maxHeartbeats 400000 in
theorem r_11_put (cy : Nat → ClassId) (tE : Nat) (S : KS) (r c : Int32) (post : Int32 → KS → Prop) (k0 : ¬ ((0 ≤ r.toInt ∧ r.toInt ≤ 5) ∧ (0 ≤ c.toInt ∧ c.toInt ≤ 767) ∧ (0 ≤ (fi S.1 (1 + 2 * r.toNatClampNeg)).toInt ∧ (fi S.1 (1 + 2 * r.toNatClampNeg)).toInt < 12)) → post (-1) S) (k1 : ((0 ≤ r.toInt ∧ r.toInt ≤ 5) ∧ (0 ≤ c.toInt ∧ c.toInt ≤ 767) ∧ (0 ≤ (fi S.1 (1 + 2 * r.toNatClampNeg)).toInt ∧ (fi S.1 (1 + 2 * r.toNatClampNeg)).toInt < 12)) → post (fi S.1 (1 + 2 * r.toNatClampNeg) + 1) (ksi (ksu S (6 + r.toNatClampNeg) (fi S.1 (1 + 2 * r.toNatClampNeg)).toNatClampNeg c) (1 + 2 * r.toNatClampNeg) (fi S.1 (1 + 2 * r.toNatClampNeg) + 1))) : w_X11_put cy tE S r c post := by
  unfold w_X11_put w_X11_put_B17
  refine r_11_isRow _ _ _ _ _ (fun r1 _ h1 => ⟨fun _ => k0 (by omega), fun _ => r_11_isWithin _ _ _ _ _ _ (fun r2 _ h2 => ?_)⟩)
  rw [li_767] at h2
  refine ⟨fun _ => ⟨by omega, by rw [tnc]; omega, ?_⟩, fun _ => k0 (by omega)⟩
  have hr : rowN r.toNatClampNeg = 12 := by
    unfold rowN
    rw [if_neg (by rw [tnc]; omega)]
  refine r_7_add _ _ _ _ _ _ (by rw [tnc]; omega) (fun g => k0 ?_) (fun g => k1 ⟨by omega, by omega, ?_⟩)
  · rw [hr] at g; omega
  · rw [hr] at g; omega
set_option maxHeartbeats 400000 in
theorem r_11_past (cy : Nat → ClassId) (tE : Nat) (S : KS) (c : Int32) (post : Int32 → KS → Prop) (k0 : ¬ ((0 ≤ c.toInt ∧ c.toInt ≤ 767) ∧ (0 ≤ (fi S.1 13).toInt ∧ (fi S.1 13).toInt < 200)) → post (-1) S) (k1 : ((0 ≤ c.toInt ∧ c.toInt ≤ 767) ∧ (0 ≤ (fi S.1 13).toInt ∧ (fi S.1 13).toInt < 200)) → post (fi S.1 13 + 1) (ksi (ksu S 12 (fi S.1 13).toNatClampNeg c) 13 (fi S.1 13 + 1))) : w_X11_past cy tE S c post := by
  unfold w_X11_past w_X11_past_B22
  refine r_11_isWithin _ _ _ _ _ _ (fun r1 _ h1 => ?_)
  rw [li_767] at h1
  refine ⟨fun _ => k0 (by omega), fun _ => r_7_add cy tE S 6 c _ (by decide) (fun g => k0 ?_) (fun g => k1 ⟨by omega, ?_⟩)⟩
  · intro q; exact g q.2
  · exact g
set_option maxHeartbeats 400000 in
theorem r_11_clear (cy : Nat → ClassId) (tE : Nat) (S : KS) (r : Int32) (post : Int32 → KS → Prop) (k0 : ¬ (0 ≤ r.toInt ∧ r.toInt ≤ 5) → post 0 S) (k1 : (0 ≤ r.toInt ∧ r.toInt ≤ 5) → post 1 (ksi (ksi S (1 + 2 * r.toNatClampNeg) 0) (2 + 2 * r.toNatClampNeg) 0)) : w_X11_clear cy tE S r post := by
  unfold w_X11_clear
  exact r_11_isRow _ _ _ _ _ (fun r1 _ h1 => ⟨fun _ => ⟨by omega, by rw [tnc]; omega, by omega, by rw [tnc]; omega, k1 (by omega)⟩, fun _ => k0 (by omega)⟩)
set_option maxHeartbeats 400000 in
theorem r_11_honest (cy : Nat → ClassId) (tE : Nat) (S : KS) (r z : Int32) (post : Int32 → KS → Prop) (hz : z = 0 ∨ z = 1) (k0 : ¬ ((0 ≤ r.toInt ∧ r.toInt ≤ 5) ∧ (fi S.1 (2 + 2 * r.toNatClampNeg)).toInt ≠ z.toInt) → post 0 S) (k1 : ((0 ≤ r.toInt ∧ r.toInt ≤ 5) ∧ (fi S.1 (2 + 2 * r.toNatClampNeg)).toInt ≠ z.toInt) → post 1 (ksi S (2 + 2 * r.toNatClampNeg) z)) : w_X11_honest cy tE S r z post := by
  unfold w_X11_honest w_X11_honest_B20
  exact r_11_isRow _ _ _ _ _ (fun r1 _ h1 => ⟨fun _ => k0 (by omega), fun _ => ⟨by omega, by rw [tnc]; omega, fun g => ⟨by omega, hz, by rw [tnc]; omega, k1 ⟨by omega, g⟩⟩, fun g => k0 (by omega)⟩⟩)
set_option maxHeartbeats 400000 in
theorem r_11_fault (cy : Nat → ClassId) (tE : Nat) (S : KS) (x : Int32) (post : Int32 → KS → Prop) (k : ∀ r, post r S) : w_X11_fault cy tE S x post := ⟨fun _ => ⟨fun _ => k _, fun _ => k _⟩, fun _ => k _⟩
set_option maxHeartbeats 400000 in
theorem r_11_act (cy : Nat → ClassId) (tE : Nat) (S : KS) (x y : Int32) (post : Int32 → KS → Prop) (hH : HQ cy S) (k : ∀ r, post r S) : w_X11_act cy tE S x y post := by
  obtain ⟨A, -, -, -, hA⟩ := hH
  unfold w_X11_act w_X11_act_B60 w_X11_act_B73
  refine r_4_actAt _ _ _ _ _ (fun r hr => ⟨fun _ => k _, fun q hq => ?_⟩)
  have hAq : ACp cy A S.2.2.2 q := by
    rcases hr with h | ⟨i, hi, h⟩
    · rw [h] at hq; exact absurd hq (by simp)
    · exact hA i hi q (h.symm.trans hq)
  obtain ⟨i, nm, nd, mk, wo, wt, -, hc, ⟨i2, m2, e2, n2, -, hc2, -⟩, ⟨i3, m3, e3, n3, -, hc3, -⟩⟩ := hAq
  exact ⟨fun _ => ⟨i, nm, .ref nd, .ref mk, wo, wt, hc, fun _ => k _, fun _ => k _⟩, fun _ => ⟨i, nm, .ref nd, .ref mk, wo, wt, hc, fun _ => k _, fun _ => k _⟩, fun _ => ⟨i, nm, nd, .ref mk, wo, wt, hc, i2, _, hc2, r_size cy tE S nd i2 m2 n2 (.ref e2) _ hc2 (k _)⟩, fun _ => ⟨i, nm, .ref nd, mk, wo, wt, hc, i3, _, hc3, r_size cy tE S mk i3 m3 n3 (.ref e3) _ hc3 (k _)⟩, fun _ => k _⟩
set_option maxHeartbeats 400000 in
theorem r_9_has (cy : Nat → ClassId) (tE : Nat) (S : KS) (x : Int32) (post : Int32 → KS → Prop) (k : ∀ r, post r S) : w_X9_has cy tE S x post := by
  unfold w_X9_has w_X9_has_B23 w_X9_has_B37
  exact r_11_isPerson _ _ _ _ _ (fun _ _ _ => ⟨fun _ => k _, fun _ => r_11_isThing _ _ _ _ _ (fun _ _ _ => ⟨fun _ => k _, fun _ => ⟨fun _ => ⟨fun _ => k _, fun _ => ⟨fun _ => r_11_arePair _ _ _ _ _ _ (fun _ hr _ => ⟨hr, k _⟩), fun _ => k _⟩⟩, fun _ => k _⟩⟩)⟩)
set_option maxHeartbeats 400000 in
theorem r_11_isNever (cy : Nat → ClassId) (tE : Nat) (S : KS) (x : Int32) (post : Int32 → KS → Prop) (hH : HQ cy S) (k : ∀ r, (r = 0 ∨ r = 1) → post r S) : w_X11_isNever cy tE S x post := by
  obtain ⟨A, -, ⟨i2, m2, e2, n2, -, hc2, -⟩, -, -⟩ := hH
  unfold w_X11_isNever w_X11_isNever_B22 w_X11_isNever_B23
  exact ⟨fun _ => ⟨Or.inl rfl, k _ (Or.inl rfl)⟩, fun _ => ⟨i2, _, hc2, r_size cy tE S _ i2 m2 n2 (.ref e2) _ hc2 ⟨fun _ => ⟨Or.inl rfl, k _ (Or.inl rfl)⟩, fun _ => ⟨Or.inr rfl, k _ (Or.inr rfl)⟩⟩⟩⟩
set_option maxHeartbeats 400000 in
theorem r_11_lawful (cy : Nat → ClassId) (tE : Nat) (S : KS) (r l s x : Int32) (post : Int32 → KS → Prop) (hH : HQ cy S) (hs : SQ S) (k : ∀ r S', KQs S S' → SQ S' → post r S') : w_X11_lawful cy tE S r l s x post := by
  have no := k (-1) S (KF_rf S) hs
  unfold w_X11_lawful w_X11_lawful_B32 w_X11_lawful_B72
  refine r_11_isRow _ _ _ _ _ (fun r1 _ h1 => ⟨fun _ => no, fun _ => r_11_areLaws _ _ _ _ _ (fun _ _ _ => ⟨fun _ => no, fun _ => r_11_isWithin _ _ _ _ _ _ (fun _ _ _ => ⟨fun _ => no, fun _ => r_11_isWithin _ _ _ _ _ _ (fun _ _ _ => ⟨fun _ => ⟨by omega, ?_⟩, fun _ => no⟩)⟩)⟩)⟩)
  refine r_2_follow cy tE S _ 0 _ _ _ (by rw [tnc]; omega) (by decide) hH (fun v T hT => ?_)
  have hy : ∀ v, post v T := fun v => k _ _ (KF_wk hT (by decide)) (SQ_kf hs hT (by decide))
  exact ⟨fun _ => hy _, fun _ => hy _⟩
set_option maxHeartbeats 400000 in
theorem r_11_after (cy : Nat → ClassId) (tE : Nat) (S : KS) (r x : Int32) (post : Int32 → KS → Prop) (hH : HQ cy S) (hs : SQ S) (k : ∀ r S', KQs S S' → SQ S' → post r S') : w_X11_after cy tE S r x post := by
  have no := k (-1) S (KF_rf S) hs
  unfold w_X11_after w_X11_after_B14
  refine r_11_isRow _ _ _ _ _ (fun r1 _ h1 => ⟨fun _ => no, fun _ => r_9_has _ _ _ _ _ (fun _ => ⟨fun _ => ⟨by omega, ?_⟩, fun _ => no⟩)⟩)
  refine r_2_follow cy tE S _ 0 _ _ _ (by rw [tnc]; omega) (by decide) hH (fun v T hT => r_9_get _ _ _ _ _ _ (by decide) (fun v => k _ _ (KF_wk hT (by decide)) (SQ_kf hs hT (by decide))))
set_option maxHeartbeats 400000 in
theorem r_11_hasHole (cy : Nat → ClassId) (tE : Nat) (S : KS) (n l d : Int32) (post : Int32 → KS → Prop) (hH : HQ cy S) (hs : SQ S) (k : ∀ r S', KQs S S' → SQ S' → post r S') : w_X11_hasHole cy tE S n l d post := by
  unfold w_X11_hasHole w_X11_hasHole_B42
  refine r_8_begin cy tE S _ _ _ _ _ hH hs (fun T hT hsT => r_8_first cy tE T _ _ (HQ_kf hH hT) hsT (fun r U hU hsU => ?_))
  have hy : ∀ v, post v U := fun v => k _ _ (KF_tr hT hU) hsU
  exact ⟨fun _ => ⟨fun _ => hy _, fun _ => hy _⟩, fun _ => hy _⟩
set_option maxHeartbeats 400000 in
theorem r_11_only (cy : Nat → ClassId) (tE : Nat) (S : KS) (n d : Int32) (post : Int32 → KS → Prop) (hH : HQ cy S) (hs : SQ S) (k : ∀ r S', KQs S S' → SQ S' → post r S') : w_X11_only cy tE S n d post := by
  have no := k (-1) S (KF_rf S) hs
  unfold w_X11_only w_X11_only_B15 w_X11_only_B63 w_X11_only_B85 w_X11_only_B86
  refine r_11_isNever _ _ _ _ _ hH (fun _ _ => ⟨fun _ => no, fun _ => r_11_isDepth _ _ _ _ _ (fun _ _ _ => ⟨fun _ => ?_, fun _ => no⟩)⟩)
  refine r_11_hasHole cy tE S _ _ _ _ hH hs (fun a T hT hsT => r_11_hasHole cy tE T _ _ _ _ (HQ_kf hH hT) hsT (fun b U hU hsU => r_11_hasHole cy tE U _ _ _ _ (HQ_kf hH (KF_tr hT hU)) hsU (fun c V hV hsV => ?_)))
  have hy : ∀ v, post v V := fun v => k _ _ (KF_tr hT (KF_tr hU hV)) hsV
  exact ⟨fun _ => hy _, fun _ => ⟨fun _ => hy _, fun _ => ⟨fun _ => ⟨fun _ => hy _, fun _ => ⟨fun _ => hy _, fun _ => ⟨fun _ => hy _, fun _ => hy _⟩⟩⟩, fun _ => hy _⟩⟩⟩
set_option maxHeartbeats 400000 in
theorem r_11_friends (cy : Nat → ClassId) (tE : Nat) (S : KS) (n l d : Int32) (post : Int32 → KS → Prop) (hH : HQ cy S) (hs : SQ S) (k : ∀ r S', KQs S S' → SQ S' → post r S') : w_X11_friends cy tE S n l d post := by
  have no := k (-1) S (KF_rf S) hs
  unfold w_X11_friends w_X11_friends_B22
  refine r_11_isNever _ _ _ _ _ hH (fun _ _ => ⟨fun _ => no, fun _ => r_11_areLaws _ _ _ _ _ (fun _ _ _ => ⟨fun _ => no, fun _ => r_11_isDepth _ _ _ _ _ (fun _ _ _ => ⟨fun _ => ?_, fun _ => no⟩)⟩)⟩)
  refine lr5 (fun (T : KS) (_ _ _ m : Int32) => KQs S T ∧ SQ T ∧ 0 ≤ m.toInt ∧ m.toInt ≤ 4) (fun _ _ _ _ m => (4 - m.toInt).toNat) ?_ _ _ _ _ _ ⟨KF_rf S, hs, by decide, by decide⟩
  rintro kk T n' l' d' m ⟨hT, hsT, m0, m4⟩ hk
  unfold w_X11_friends_F27 w_X11_friends_B95
  refine ⟨fun _ => k _ _ hT hsT, fun g => ?_⟩
  refine lr6 (fun (U : KS) (_ _ _ m' s : Int32) => m' = m ∧ KQs S U ∧ SQ U ∧ 0 ≤ s.toInt ∧ s.toInt ≤ 8) (fun _ _ _ _ _ s => (8 - s.toInt).toNat) ?_ _ _ _ _ _ _ ⟨rfl, hT, hsT, by decide, by decide⟩
  rintro kk2 U n2 l2 d2 m' s ⟨rfl, hU, hsU, s0, s8⟩ hk2
  unfold w_X11_friends_F36 w_X11_friends_B89 w_X11_friends_B83 w_J6_bitCount_0f7a4
  have go : s.toInt ≤ 7 → ∀ V, KQs S V → SQ V → kk2 V n2 l2 d2 m' (s + 1) := fun g V hV hsV => hk2 _ _ _ _ _ _ ⟨rfl, hV, hsV, by rw [inc1 (by omega)]; omega, by rw [inc1 (by omega)]; omega⟩ (by rw [inc1 (by omega)]; omega)
  refine ⟨fun _ => hk _ _ _ _ _ ⟨hU, hsU, by rw [inc1 (by omega)]; omega, by rw [inc1 (by omega)]; omega⟩ (by rw [inc1 (by omega)]; omega), fun g2 => ⟨fun _ => ?_, fun _ => go g2 _ hU hsU⟩⟩
  refine r_8_begin cy tE U _ _ _ _ _ (HQ_kf hH hU) hsU (fun V hV hsV => r_8_first cy tE V _ _ (HQ_kf hH (KF_tr hU hV)) hsV (fun r W hW hsW => ?_))
  have hW2 := KF_tr hU (KF_tr hV hW)
  exact ⟨fun _ => go g2 _ hW2 hsW, fun _ => k _ _ hW2 hsW⟩
set_option maxHeartbeats 400000 in
theorem r_11_met (cy : Nat → ClassId) (tE : Nat) (S : KS) (l d z : Int32) (post : Int32 → KS → Prop) (hH : HQ cy S) (hs : SQ S) (k : ∀ r S', KQs S S' → SQ S' → post r S') : w_X11_met cy tE S l d z post := by
  have no := k (-1) S (KF_rf S) hs
  unfold w_X11_met w_X11_met_B14 w_X11_met_B69
  refine r_11_areLaws _ _ _ _ _ (fun _ _ _ => ⟨fun _ => no, fun _ => r_11_isDepth _ _ _ _ _ (fun _ _ _ => ⟨fun _ => ?_, fun _ => no⟩)⟩)
  refine r_8_begin cy tE S _ _ _ _ _ hH hs (fun T hT hsT => r_8_finish cy tE T _ (HQ_kf hH hT) hsT (fun U hU hsU => ?_))
  have hU2 := KF_tr hT hU
  exact ⟨fun _ => ⟨fun _ => k _ _ hU2 hsU, fun _ => r_8_unlike cy tE U _ hsU (fun r V hV => k _ _ (KF_tr hU2 (KF_wk hV (by decide))) (SQ_kf hsU hV (by decide)))⟩, fun _ => k _ _ hU2 hsU⟩
set_option maxHeartbeats 400000 in
theorem r_11_gain (cy : Nat → ClassId) (tE : Nat) (S : KS) (p l d x : Int32) (post : Int32 → KS → Prop) (hH : HQ cy S) (hs : SQ S) (k : ∀ r S', KQs S S' → SQ S' → post r S') : w_X11_gain cy tE S p l d x post := by
  have no := k (-100) S (KF_rf S) hs
  unfold w_X11_gain w_X11_gain_B26 w_X11_gain_B131
  refine r_11_isPerson _ _ _ _ _ (fun _ _ _ => ⟨fun _ => no, fun _ => r_11_areLaws _ _ _ _ _ (fun _ _ _ => ⟨fun _ => no, fun _ => r_11_isDepth _ _ _ _ _ (fun _ _ _ => ⟨fun _ => no, fun _ => ⟨fun _ => ?_, fun _ => no⟩⟩)⟩)⟩)
  refine r_8_begin cy tE S _ _ _ _ _ hH hs (fun T hT hsT => r_8_finish cy tE T _ (HQ_kf hH hT) hsT (fun U hU hsU => ?_))
  have hU2 := KF_tr hT hU
  refine ⟨fun _ => r_8_richest cy tE U _ _ hsU (fun r V hV => ?_), fun _ => k _ _ hU2 hsU⟩
  have hV2 : KQs S V := KF_tr hU2 (KF_wk hV (by decide))
  have hsV : SQ V := SQ_kf hsU hV (by decide)
  have hy : ∀ v, post v V := fun v => k _ _ hV2 hsV
  refine ⟨fun _ => ⟨fun _ => r_8_code cy tE V _ _ _ hsV.1.2 (fun _ => ⟨fun _ => hy _, fun _ => hy _⟩), fun _ => r_8_acts cy tE V _ _ hsV.1.2 (fun _ => hy _)⟩, fun _ => r_8_wealth cy tE V _ _ _ hsV (fun r W hW => k _ _ (KF_tr hV2 (KF_wk hW (by decide))) (SQ_kf hsV hW (by decide)))⟩
set_option maxHeartbeats 400000 in
theorem r_11_stopsWith (cy : Nat → ClassId) (tE : Nat) (S : KS) (n d s : Int32) (post : Int32 → KS → Prop) (hH : HQ cy S) (hs : SQ S) (k : ∀ r S', KQs S S' → SQ S' → post r S') : w_X11_stopsWith cy tE S n d s post := by
  unfold w_X11_stopsWith
  refine lr5 (fun (T : KS) (_ _ _ x : Int32) => KQs S T ∧ SQ T ∧ 0 ≤ x.toInt ∧ x.toInt ≤ 6) (fun _ _ _ _ x => (6 - x.toInt).toNat) ?_ _ _ _ _ _ ⟨KF_rf S, hs, by decide, by decide⟩
  rintro kk T n d s x ⟨hT, hsT, x0, x6⟩ hk
  unfold w_X11_stopsWith_F3 w_X11_stopsWith_B64 w_X11_stopsWith_B102 w_X11_stopsWith_B103 w_X11_stopsWith_B58
  have go : x.toInt < 6 → ∀ V, KQs S V → SQ V → kk V n d s (x + 1) := fun g V hV hsV => hk _ _ _ _ _ ⟨hV, hsV, by rw [inc1 (by omega)]; omega, by rw [inc1 (by omega)]; omega⟩ (by rw [inc1 (by omega)]; omega)
  refine ⟨fun _ => ?_, fun g => ⟨by omega, by rw [tnc]; omega, fun _ => go g _ hT hsT, fun _ => ⟨by omega, ?_⟩⟩⟩
  · refine r_8_begin cy tE T _ _ _ _ _ (HQ_kf hH hT) hsT (fun V hV hsV => r_8_first cy tE V _ _ (HQ_kf hH (KF_tr hT hV)) hsV (fun r W hW hsW => ?_))
    have hW2 := KF_tr hT (KF_tr hV hW)
    exact ⟨fun _ => ⟨Or.inl rfl, k _ _ hW2 hsW⟩, fun _ => ⟨fun _ => ⟨Or.inl rfl, k _ _ hW2 hsW⟩, fun _ => ⟨Or.inr rfl, k _ _ hW2 hsW⟩⟩⟩
  · refine r_2_follow cy tE T _ 0 _ _ _ (by rw [tnc]; omega) (by decide) (HQ_kf hH hT) (fun v U hU => ⟨by omega, by rw [tnc]; omega, fun _ => go g _ (KF_tr hT (KF_wk hU (by decide))) (SQ_kf hsT hU (by decide)), fun _ => k _ _ (KF_tr hT (KF_wk hU (by decide))) (SQ_kf hsT hU (by decide))⟩)
set_option maxHeartbeats 400000 in
theorem r_11_stop (cy : Nat → ClassId) (tE : Nat) (S : KS) (n d x : Int32) (post : Int32 → KS → Prop) (hH : HQ cy S) (hs : SQ S) (k : ∀ r S', KQs S S' → SQ S' → post r S') : w_X11_stop cy tE S n d x post := by
  have no := k (-1) S (KF_rf S) hs
  have hH0 := hH
  obtain ⟨A, -, -, ⟨i2, m2, e2, n2, -, hc2, n0, n10, -⟩, -⟩ := hH
  unfold w_X11_stop w_X11_stop_B23
  refine r_11_isNever _ _ _ _ _ hH0 (fun _ _ => ⟨fun _ => no, fun _ => r_11_isDepth _ _ _ _ _ (fun _ _ _ => ⟨fun _ => no, fun _ => r_11_isWithin _ _ _ _ _ _ (fun _ _ _ => ⟨fun _ => ⟨i2, _, hc2, r_size cy tE S _ i2 m2 n2 (.ref e2) _ hc2 ?_⟩, fun _ => no⟩)⟩)⟩)
  refine lr6 (fun (T : KS) (_ _ _ _ m : Int32) => KQs S T ∧ SQ T ∧ 0 ≤ m.toInt ∧ m.toInt ≤ 11) (fun _ _ _ _ _ m => (11 - m.toInt).toNat) ?_ _ _ _ _ _ _ ⟨KF_rf S, hs, by decide, by decide⟩
  rintro kk T n' d' x' z m ⟨hT, hsT, m0, m1⟩ hk
  unfold w_X11_stop_F42 w_X11_stop_B112
  have eL : T.2.2.2 = S.2.2.2 := by rw [hT.2.1]
  have eA : T.2.1 2 = S.2.1 2 := hT.2.2.1 2 (by decide)
  rw [eL, eA]
  refine ⟨i2, _, hc2, r_size cy tE T _ i2 m2 n2 (.ref e2) _ (by rw [eL]; exact hc2) ⟨fun _ => k _ _ hT hsT, fun g => ?_⟩⟩
  have hz := i_rng z
  refine lr7 (fun (U : KS) (_ _ _ z' m' s : Int32) => z' = z ∧ m' = m ∧ KQs S U ∧ SQ U ∧ 0 ≤ s.toInt) (fun _ _ _ _ _ _ s => (z.toInt - s.toInt).toNat) ?_ _ _ _ _ _ _ _ ⟨rfl, rfl, hT, hsT, by decide⟩
  rintro kk2 U n2' d2 x2 z' m' s ⟨rfl, rfl, hU, hsU, s0⟩ hk2
  unfold w_X11_stop_F60 w_X11_stop_B106 w_X11_stop_B100 w_X11_stop_B99 w_J6_bitCount_0f7a4
  have go : s.toInt < z'.toInt → ∀ V, KQs S V → SQ V → kk2 V n2' d2 x2 z' m' (s + 1) := fun g V hV hsV => hk2 _ _ _ _ _ _ _ ⟨rfl, rfl, hV, hsV, by rw [inc1 (by omega)]; omega⟩ (by rw [inc1 (by omega)]; omega)
  refine ⟨fun _ => hk _ _ _ _ _ _ ⟨hU, hsU, by rw [inc1 (by omega)]; omega, by rw [inc1 (by omega)]; omega⟩ (by rw [inc1 (by omega)]; omega), fun g2 => ⟨fun _ => go g2 _ hU hsU, fun _ => ?_⟩⟩
  refine r_11_stopsWith cy tE U _ _ _ _ (HQ_kf hH0 hU) hsU (fun r V hV hsV => ?_)
  have hV2 := KF_tr hU hV
  exact ⟨fun _ => go g2 _ hV2 hsV, fun _ => ⟨fun _ => k _ _ hV2 hsV, fun _ => k _ _ hV2 hsV⟩⟩
set_option maxHeartbeats 400000 in
theorem r_7_endOf (cy : Nat → ClassId) (tE : Nat) (S : KS) (i j : Nat) (x y : Int32) (post : Int32 → KS → Prop) (hi : i < 7) (hj : j < 7) (k : ∀ r, post r S) : w_X7_endOf cy tE S i j x y post := by
  unfold w_X7_endOf
  have hr := i_rng (fi S.1 (1 + 2 * i))
  have hr2 := i_rng (fi S.1 (1 + 2 * j))
  refine lr7 (fun (T : KS) (i' j' : Nat) (_ _ f z : Int32) => T = S ∧ i' = i ∧ j' = j ∧ 0 ≤ z.toInt) (fun _ _ _ _ _ _ z => ((fi S.1 (1 + 2 * i)).toInt - z.toInt).toNat) ?_ _ _ _ _ _ _ _ ⟨rfl, rfl, rfl, by decide⟩
  rintro kk T i' j' x y f z ⟨rfl, rfl, rfl, z0⟩ hk
  unfold w_X7_endOf_F6 w_X7_endOf_B65 w_X7_endOf_B59
  have go : z.toInt < (fi T.1 (1 + 2 * i')).toInt → ∀ f, kk T i' j' x y f (z + 1) := fun g f => hk _ _ _ _ _ _ _ ⟨rfl, rfl, rfl, by rw [inc1 (by omega)]; omega⟩ (by rw [inc1 (by omega)]; omega)
  exact ⟨hi, fun _ => k _, fun g => ⟨hj, fun _ => go g _, fun _ => ⟨hi, r_7_get _ _ _ _ _ _ hi (fun _ => ⟨hj, r_7_get _ _ _ _ _ _ hj (fun _ => r_7_renamed _ _ _ _ _ _ _ (fun _ => ⟨fun _ => go g _, fun _ => ⟨hj, fun _ => go g _, fun _ => k _⟩⟩))⟩)⟩⟩⟩
set_option maxHeartbeats 400000 in
theorem r_11_through (cy : Nat → ClassId) (tE : Nat) (S : KS) (r x : Int32) (post : Int32 → KS → Prop) (k : ∀ v, post v S) : w_X11_through cy tE S r x post := by
  unfold w_X11_through w_X11_through_B27
  refine r_11_isRow _ _ _ _ _ (fun r1 _ h1 => ⟨fun _ => k _, fun _ => ⟨by omega, by rw [tnc]; omega, fun _ => k _, fun _ => r_11_isWithin _ _ _ _ _ _ (fun _ _ _ => ⟨fun _ => ?_, fun _ => k _⟩)⟩⟩)
  refine lr6 (fun (T : KS) (r' _ _ _ m : Int32) => T = S ∧ r' = r ∧ 0 ≤ m.toInt ∧ m.toInt ≤ 36) (fun _ _ _ _ _ m => (36 - m.toInt).toNat) ?_ _ _ _ _ _ _ ⟨rfl, rfl, by decide, by decide⟩
  rintro kk T r' x' e b m ⟨rfl, rfl, m0, m6⟩ hk
  unfold w_X11_through_F37 w_X11_through_B99 w_X11_through_B108 w_X11_through_B93 w_X11_through_B86 w_X11_through_B93
  have go : m.toInt < 36 → ∀ e b, kk T r' x' e b (m + 1) := fun g e b => hk _ _ _ _ _ _ ⟨rfl, rfl, by rw [inc1 (by omega)]; omega, by rw [inc1 (by omega)]; omega⟩ (by rw [inc1 (by omega)]; omega)
  exact ⟨fun _ => ⟨fun _ => k _, fun _ => ⟨fun _ => r_11_digits _ _ _ _ _ (fun _ => r_11_digits _ _ _ _ _ (fun _ => k _)), fun _ => k _⟩⟩, fun g => ⟨by omega, r_7_endOf _ _ _ _ _ _ _ _ (by decide) (by rw [tnc]; omega) (fun _ => ⟨fun _ => go g _ _, fun _ => ⟨fun _ => go g _ _, fun _ => ⟨fun _ => go g _ _, fun _ => go g _ _⟩⟩⟩)⟩⟩
