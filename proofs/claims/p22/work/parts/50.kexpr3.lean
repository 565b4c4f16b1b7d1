set_option maxHeartbeats 400000 in
theorem r_5_readAmount (cy : Nat → ClassId) (tE : Nat) (S : KS) (z : Int32) (post : Int32 → KS → Prop) (b : Int) (h : RD b S) (h1 : (fi S.1 16).toInt + 1 ≤ pn S) (k0 : ∀ S', KFr S S' → post 0 S') (k1 : ∀ S' d l, 1 ≤ l → l ≤ d + 1 → Mv b S S' d l → post 1 S') : w_X5_readAmount cy tE S z post := by
  have b38 : (kn S).toInt ≠ 0 → ∀ y, w_X5_readAmount_B38 cy tE post S y := by
    intro hk y
    have hN := RD_nx h hk
    have hw := wdt_ge (kn S).toInt
    have hNc := Mv_c hN
    unfold w_X5_readAmount_B38
    have b58 : ∀ (U : KS) (d2 l2 : Int), Mv b S U d2 l2 → 1 ≤ d2 → 0 ≤ l2 → (y.toInt = 0 → l2 ≤ 0) → (y.toInt ≠ 0 → l2 ≤ 1) → w_X5_readAmount_B58 cy tE post U y := by
      intro U d2 l2 hU a1 a0 a2 a3
      unfold w_X5_readAmount_B58 w_X5_readAmount_B78
      refine r_5_readSum cy tE U _ b hU.2.1 (fun V hV => ⟨fun g => absurd li_0 g, fun _ => k0 _ (KF_tr hU.1 hV)⟩) (fun V d' l' c1 c2 c3 hV => ⟨fun _ => ⟨fun g => ?_, fun g => ?_⟩, fun g => absurd g (by decide)⟩)
      · have a4 := a2 g
        exact k1 _ _ _ (by omega) (by omega) (Mv_tr hU hV)
      · have a4 := a3 g
        have hV2 := Mv_tr hU hV
        have hVc := Mv_c hV2
        exact r_5_emit cy tE V _ _ _ b hV.2.1 (by omega) (fun W hW => k1 _ _ _ (by omega) (by omega) (Mv_tr hV2 hW))
    refine ⟨fun g => b58 _ _ _ hN (by omega) (by omega) (fun _ => by omega) (fun _ => by omega), fun g => r_5_emit cy tE _ _ _ _ b hN.2.1 (by omega) (fun W hW => b58 _ _ _ (Mv_tr hN hW) (by omega) (by omega) (fun g2 => absurd g2 g) (fun _ => by omega))⟩
  have b18 : ∀ y : Int32, (y.toInt ≠ 0 → (kn S).toInt ≠ 0) → w_X5_readAmount_B18 cy tE post S y := by
    intro y hy
    unfold w_X5_readAmount_B18
    exact r_5_kind cy tE S _ b h ⟨fun g => b38 (by omega) y, fun _ => ⟨fun g => b38 (hy g) y, fun _ => r_5_refuse cy tE S _ _ b h (fun V hV => ⟨Or.inl rfl, k0 _ hV⟩)⟩⟩
  have b17 : w_X5_readAmount_B17 cy tE post S := b18 0 (fun g => absurd li_0 g)
  unfold w_X5_readAmount
  exact ⟨fun _ => b17, fun _ => r_5_kind cy tE S _ b h ⟨fun _ => b17, fun g => b18 1 (fun _ => by omega)⟩⟩
set_option maxHeartbeats 400000 in
theorem r_5_readChanged (cy : Nat → ClassId) (tE : Nat) (S : KS) (post : Int32 → KS → Prop) (b : Int) (h : RD b S) (k0 : ∀ S', KFr S S' → post (-1) S') (k1 : ∀ r S' d, (0 ≤ r.toInt ∧ r.toInt ≤ 2) → 1 ≤ d → Mv b S S' d 0 → post r S') : w_X5_readChanged cy tE S (kn S) post := by
  have no : w_X5_readChanged_B134 cy tE post S := r_5_refuse cy tE S _ _ b h (fun V hV => k0 _ hV)
  have hw := wdt_ge (kn S).toInt
  have pr : ∀ m : Int32, (kn S).toInt ≠ 0 → w_X5_readPersons cy tE (ksi S 15 (fi S.1 15 + 1)) m (fun r S' => post r S') := by
    intro m hk
    have hN := RD_nx h hk
    exact r_5_readPersons cy tE _ _ _ b hN.2.1 (fun T hT => k0 _ (KF_tr hN.1 hT)) (fun r T d hr hd hT => k1 _ _ _ (by omega) (by omega) (Mv_tr hN hT))
  unfold w_X5_readChanged w_X5_readChanged_B118
  refine ⟨fun g => pr _ (by omega), fun g => pr _ (by omega), fun g => ?_, fun _ => no, fun g => pr _ (by omega), fun g => pr _ (by omega), fun g => pr _ (by omega), fun g => k1 _ _ _ (by decide) hw.1 (RD_nx h (by omega)), fun _ => no⟩
  have hN := RD_nx h (by omega)
  have hY := Mv_tr hN (RD_18 (y := 1) hN.2.1 (Or.inr rfl))
  generalize ksi (ksi S 15 (fi S.1 15 + 1)) 18 1 = U at hY ⊢
  refine r_5_kind cy tE U _ b hY.2.1 ⟨fun _ => r_5_readPersons cy tE U _ _ b hY.2.1 (fun T hT => k0 _ (KF_tr hY.1 hT)) (fun r T d hr hd hT => k1 _ _ _ (by omega) (by omega) (Mv_tr hY hT)), fun g2 => ?_⟩
  have hV := Mv_tr hY (RD_nx hY.2.1 (by omega))
  have hw2 := wdt_ge (kn U).toInt
  exact k1 _ _ _ (by decide) (by omega) hV

