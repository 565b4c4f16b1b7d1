theorem Mv_c {b : Int} {S S' : KS} {d l : Int} (h : Mv b S S' d l) : (fi S'.1 16).toInt = (fi S.1 16).toInt + l ∧ pn S + d ≤ pn S' := ⟨h.2.2.2, h.2.2.1⟩
theorem RD_l {b : Int} {S : KS} (h : RD b S) : (fi S.1 16).toInt ≤ pn S := h.2.2.1.2
set_option maxHeartbeats 400000 in
theorem r_5_readOperand (cy : Nat → ClassId) (tE : Nat) (S : KS) (post : Int32 → KS → Prop) (b : Int) (h : RD b S) (k0 : ∀ S', KFr S S' → post 0 S') (k1 : ∀ S' d, 1 ≤ d → Mv b S S' d 1 → post 1 S') : w_X5_readOperand cy tE S post := by
  unfold w_X5_readOperand
  refine r_5_kind cy tE S _ b h ?_
  have no : w_X5_readOperand_B170 cy tE post S := r_5_refuse cy tE S _ _ b h (fun W hW => ⟨Or.inl rfl, k0 _ hW⟩)
  have hl := RD_l h
  have b176 : ∀ (T : KS) (d : Int) (x y : Int32), 1 ≤ d → Mv b S T d 0 → w_X5_readOperand_B176 cy tE post T x y := by
    intro T d x y hd hT
    unfold w_X5_readOperand_B176
    have b202 : ∀ z : Int32, (z = 0 ∨ z = 1) → w_X5_readOperand_B202 cy tE post T x y z := by
      intro z hz
      unfold w_X5_readOperand_B202
      have hZ := Mv_tr hT (RD_18 hT.2.1 hz)
      have hZc := Mv_c hZ
      refine ⟨hz, r_5_emit cy tE _ _ _ _ b hZ.2.1 (by omega) (fun V hV => k1 V (d + 0 + 0) (by omega) ?_)⟩
      have hV2 := Mv_tr hZ hV
      exact hV2
    have b197 : w_X5_readOperand_B197 cy tE post T x y := b202 1 (Or.inr rfl)
    exact ⟨fun _ => ⟨fun _ => b197, fun _ => ⟨fun _ => b202 0 (Or.inl rfl), fun _ => b197⟩⟩, fun _ => k0 _ hT.1⟩
  have hw := wdt_ge (kn S).toInt
  have p1 : (kn S).toInt ≠ 0 → w_X5_readOperand_B132 cy tE post S (kn S) := by
    intro hk
    have hN := RD_nx h hk
    unfold w_X5_readOperand_B132
    refine r_5_readPersons cy tE _ _ _ b hN.2.1 (fun T hT => ?_) (fun r T d _ hd hT => b176 _ _ _ _ (by omega) (Mv_tr hN hT))
    have hT2 := KF_tr hN.1 hT
    exact ⟨fun g => absurd (by decide) g, fun _ => k0 _ hT2⟩
  have p2 : (kn S).toInt ≠ 0 → w_X5_readOperand_B151 cy tE post S (kn S) := by
    intro hk
    have hN := RD_nx h hk
    unfold w_X5_readOperand_B151
    refine r_5_readPersons cy tE _ _ _ b hN.2.1 (fun T hT => ?_) (fun r T d _ hd hT => b176 _ _ _ _ (by omega) (Mv_tr hN hT))
    have hT2 := KF_tr hN.1 hT
    exact ⟨fun g => absurd (by decide) g, fun _ => k0 _ hT2⟩
  exact ⟨fun g => r_5_value cy tE S _ b h (fun v => b176 _ _ _ _ hw.1 (RD_nx h (by omega))), fun _ => no, fun _ => no, fun _ => no, fun _ => no, fun g => p1 (by omega), fun g => p2 (by omega), fun _ => no, fun _ => no, fun g => p2 (by omega), fun _ => no, fun _ => no, fun g => b176 _ _ _ _ hw.1 (RD_nx h (by omega)), fun _ => no, fun _ => no, fun _ => no, fun g => p2 (by omega), fun g => p1 (by omega), fun g => p1 (by omega), fun _ => no⟩
set_option maxHeartbeats 400000 in
theorem r_5_readSum (cy : Nat → ClassId) (tE : Nat) (S : KS) (post : Int32 → KS → Prop) (b : Int) (h : RD b S) (k0 : ∀ S', KFr S S' → post 0 S') (k1 : ∀ S' d l, 1 ≤ l → l ≤ d → (l = d → l % 2 = 1) → Mv b S S' d l → post 1 S') : w_X5_readSum cy tE S post := by
  have hl := RD_l h
  have hcS := (RD_c h).1
  unfold w_X5_readSum
  refine r_5_readOperand cy tE S _ b h (fun T hT => ⟨fun g => absurd li_0 g, fun _ => k0 _ hT⟩) (fun T d hd hT => ⟨fun _ => ?_, fun g => absurd g (by decide)⟩)
  refine lr3 (fun (U : KS) (w i : Int32) => (∃ d l e : Int, Mv b S U d l ∧ 1 ≤ l ∧ ((w.toInt = -1 ∧ e = 0) ∨ (w.toInt ≠ -1 ∧ e = 1)) ∧ l + e ≤ d ∧ (l + e = d → (l + e) % 2 = 1)) ∧ 0 ≤ i.toInt ∧ i.toInt ≤ 701) (fun _ _ i => (701 - i.toInt).toNat) ?_ _ _ _ ⟨⟨d, 1, 0, hT, by omega, Or.inl ⟨by decide, rfl⟩, by omega, by omega⟩, by decide, by decide⟩
  clear hT hd d T
  rintro kk T w i ⟨⟨d, l, e, hT, hl1, he, hle, hpar⟩, i0, i1⟩ hk
  have hTc := Mv_c hT
  have cT := (RD_c hT.2.1).1
  have hRT := RD_l hT.2.1
  unfold w_X5_readSum_F13
  have out : w_X5_readSum_B107 cy tE post T w := by
    unfold w_X5_readSum_B107 w_X5_readSum_B118
    refine ⟨fun g => k1 T d l hl1 (by omega) (by omega) hT, fun g => r_5_emit cy tE T _ _ _ b hT.2.1 (by omega) (fun V hV => k1 V (d + 0) (l + 1) (by omega) (by omega) (by omega) (Mv_tr hT hV))⟩
  have b79T : ∀ (U : KS) (w' x : Int32) (d2 l2 e2 : Int), i.toInt < (fi T.1 21).toInt → x.toInt = 26 → Mv b S U d2 l2 → 1 ≤ l2 → ((w'.toInt = -1 ∧ e2 = 0) ∨ (w'.toInt ≠ -1 ∧ e2 = 1)) → l2 + e2 + 1 ≤ d2 → (l2 + e2 + 1 = d2 → (l2 + e2) % 2 = 1) → w_X5_readSum_B79 cy tE post kk (w_X5_readSum_B107 cy tE post) U w' i x := by
    intro U w' x d2 l2 e2 gi gx hU a1 a2 a3 a4
    unfold w_X5_readSum_B79 w_X5_readSum_B101
    refine r_5_readOperand cy tE U _ b hU.2.1 (fun V hV => ⟨fun g => absurd li_0 g, fun _ => k0 _ (KF_tr hU.1 hV)⟩) (fun V d' hd' hV => ⟨fun _ => ⟨fun g => absurd gx g, fun _ => ?_⟩, fun g => absurd g (by decide)⟩)
    have hV2 := Mv_tr hU hV
    have hVc := Mv_c hV2
    refine r_5_emit cy tE V _ _ _ b hV.2.1 (by omega) (fun W hW => hk _ _ _ ⟨⟨_, _, e2, Mv_tr hV2 hW, by omega, a2, by omega, by omega⟩, by rw [inc1 (by omega)]; omega, by rw [inc1 (by omega)]; omega⟩ (by rw [inc1 (by omega)]; omega))
  have b79P : ∀ (U : KS) (x : Int32) (d2 l2 : Int), i.toInt < (fi T.1 21).toInt → (x.toInt = 24 ∨ x.toInt = 25) → Mv b S U d2 l2 → 1 ≤ l2 → l2 + 1 ≤ d2 → (l2 + 1 = d2 → l2 % 2 = 1) → w_X5_readSum_B79 cy tE post kk (w_X5_readSum_B107 cy tE post) U x i x := by
    intro U x d2 l2 gi gx hU a1 a3 a4
    unfold w_X5_readSum_B79 w_X5_readSum_B101
    refine r_5_readOperand cy tE U _ b hU.2.1 (fun V hV => ⟨fun g => absurd li_0 g, fun _ => k0 _ (KF_tr hU.1 hV)⟩) (fun V d' hd' hV => ⟨fun _ => ⟨fun g => ?_, fun g => by omega⟩, fun g => absurd g (by decide)⟩)
    exact hk _ _ _ ⟨⟨_, _, 1, Mv_tr hU hV, by omega, Or.inr ⟨by omega, rfl⟩, by omega, by omega⟩, by rw [inc1 (by omega)]; omega, by rw [inc1 (by omega)]; omega⟩ (by rw [inc1 (by omega)]; omega)
  have b50 : i.toInt < (fi T.1 21).toInt → ((kn T).toInt = 24 ∨ (kn T).toInt = 25 ∨ (kn T).toInt = 26) → w_X5_readSum_B50 cy tE post kk (w_X5_readSum_B107 cy tE post) T w i (kn T) := by
    intro gi gk
    have hN := Mv_tr hT (RD_nx hT.2.1 (by omega))
    have hw := wdt_ge (kn T).toInt
    have hNc := Mv_c hN
    unfold w_X5_readSum_B50 w_X5_readSum_B77
    refine ⟨fun g => b79T _ _ _ _ _ e gi g hN (by omega) he (by omega) (by omega), fun g => ⟨fun g2 => b79P _ _ _ _ gi (by omega) hN (by omega) (by omega) (by omega), fun g2 => ?_⟩⟩
    refine r_5_emit cy tE _ _ _ _ b hN.2.1 (by omega) (fun W hW => b79P _ _ _ _ gi (by omega) (Mv_tr hN hW) (by omega) (by omega) (by omega))
  refine ⟨fun _ => out, fun gi => r_5_kind cy tE T _ b hT.2.1 ⟨fun g => b50 gi (Or.inl g), fun _ => ⟨fun g => b50 gi (Or.inr (Or.inl g)), fun _ => ⟨fun g => b50 gi (Or.inr (Or.inr g)), fun _ => out⟩⟩⟩⟩

