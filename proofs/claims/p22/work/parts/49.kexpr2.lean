def SGc (b n : Int) (sg : KS → Int32 → (Int32 → KS → Prop) → Prop) : Prop := ∀ (S : KS) (p : Int32) (post : Int32 → KS → Prop), RD b S → 0 ≤ p.toInt → p.toInt ≤ 8 → 9 - p.toInt ≤ n → (∀ S', KFr S S' → post 0 S') → (∀ S' d l, 1 ≤ l → l ≤ d → (l = d → l % 2 = 1) → Mv b S S' d l → post 1 S') → sg S p post
set_option maxHeartbeats 400000 in
theorem r_5_readEitherR (cy : Nat → ClassId) (tE : Nat) (S : KS) (p : Int32) (post : Int32 → KS → Prop) (b n : Int) (sg : KS → Int32 → (Int32 → KS → Prop) → Prop) (hg : SGc b n sg) (h : RD b S) (p0 : 0 ≤ p.toInt) (p8 : p.toInt ≤ 8) (hn : 9 - p.toInt ≤ n) (k0 : ∀ S', KFr S S' → post 0 S') (k1 : ∀ S' d l, 1 ≤ l → l ≤ d → (l = d → l % 2 = 1) → Mv b S S' d l → post 1 S') : w_X5_readEither_R cy tE sg S p post := by
  have hl := RD_l h
  unfold w_X5_readEither_R
  refine hg S p _ h p0 p8 hn (fun T hT => ⟨fun g => absurd li_0 g, fun _ => k0 _ hT⟩) (fun T d l a1 a2 a3 hT => ⟨fun _ => ?_, fun g => absurd g (by decide)⟩)
  refine lr4 (fun (U : KS) (p' w i : Int32) => p' = p ∧ (∃ d l e : Int, Mv b S U d l ∧ 1 ≤ l ∧ ((w.toInt = 0 ∧ e = 0) ∨ (w.toInt ≠ 0 ∧ e = 1)) ∧ l + e ≤ d ∧ (l + e = d → (l + e) % 2 = 1)) ∧ 0 ≤ i.toInt ∧ i.toInt ≤ 701) (fun _ _ _ i => (701 - i.toInt).toNat) ?_ _ _ _ _ ⟨rfl, ⟨d, l, 0, hT, a1, Or.inl ⟨by decide, rfl⟩, by omega, by omega⟩, by decide, by decide⟩
  clear hT a1 a2 a3 d l T
  rintro kk T p' w i ⟨rfl, ⟨d, l, e, hT, hl1, he, hle, hpar⟩, i0, i1⟩ hk
  have hTc := Mv_c hT
  have cT := (RD_c hT.2.1).1
  unfold w_X5_readEither_F14
  have out : w_X5_readEither_B128 cy tE sg post T w := by
    unfold w_X5_readEither_B128 w_X5_readEither_B139
    exact ⟨fun g => k1 T d l hl1 (by omega) (by omega) hT, fun g => r_5_emit cy tE T _ _ _ b hT.2.1 (by omega) (fun V hV => k1 V (d + 0) (l + 1) (by omega) (by omega) (by omega) (Mv_tr hT hV))⟩
  have b99 : ∀ (U : KS) (x y : Int32) (d2 l2 e2 : Int), i.toInt < (fi T.1 21).toInt → Mv b S U d2 l2 → 1 ≤ l2 → ((y.toInt = 0 ∧ e2 = 0) ∨ (y.toInt ≠ 0 ∧ e2 = 1)) → l2 + e2 + 1 ≤ d2 → (x.toInt ≠ 0 → l2 + e2 + 2 ≤ d2) → w_X5_readEither_B99 cy tE sg post kk (w_X5_readEither_B128 cy tE sg post) U p' i x y := by
    intro U x y d2 l2 e2 gi hU a1 a2 a3 a4
    unfold w_X5_readEither_B99 w_X5_readEither_B122
    refine hg U p' _ hU.2.1 p0 p8 hn (fun V hV => ⟨fun g => absurd li_0 g, fun _ => k0 _ (KF_tr hU.1 hV)⟩) (fun V d' l' c1 c2 c3 hV => ⟨fun _ => ⟨fun g => ?_, fun g => ?_⟩, fun g => absurd g (by decide)⟩)
    · exact hk _ _ _ _ ⟨rfl, ⟨_, _, e2, Mv_tr hU hV, by omega, a2, by omega, by omega⟩, by rw [inc1 (by omega)]; omega, by rw [inc1 (by omega)]; omega⟩ (by rw [inc1 (by omega)]; omega)
    · have hV2 := Mv_tr hU hV
      have hVc := Mv_c hV2
      have a5 := a4 g
      exact r_5_emit cy tE V _ _ _ b hV.2.1 (by omega) (fun W hW => hk _ _ _ _ ⟨rfl, ⟨_, _, e2, Mv_tr hV2 hW, by omega, a2, by omega, by omega⟩, by rw [inc1 (by omega)]; omega, by rw [inc1 (by omega)]; omega⟩ (by rw [inc1 (by omega)]; omega))
  have b43 : i.toInt < (fi T.1 21).toInt → ((kn T).toInt = 15 ∨ (kn T).toInt = 16) → w_X5_readEither_B43 cy tE sg post kk (w_X5_readEither_B128 cy tE sg post) T p' w i := by
    intro gi gk
    have hw : wdt (kn T).toInt = 2 := by rcases gk with g | g <;> rw [g] <;> decide
    have hN := RD_nx hT.2.1 (by omega)
    rw [hw] at hN
    have hN := Mv_tr hT hN
    have hNc := Mv_c hN
    unfold w_X5_readEither_B43 w_X5_readEither_B57 w_X5_readEither_B85 w_X5_readEither_B94
    refine r_5_kind cy tE T _ b hT.2.1 ⟨fun g => ⟨fun g2 => absurd li_0 g2, fun _ => ⟨fun g3 => ?_, fun g3 => ?_⟩⟩, fun g => ⟨fun _ => ?_, fun g2 => absurd g2 (by decide)⟩⟩
    · exact ⟨fun g4 => absurd g3 g4, fun _ => ⟨fun g4 => absurd li_0 g4, fun _ => b99 _ _ _ _ _ 1 gi hN (by omega) (Or.inr ⟨by decide, rfl⟩) (by omega) (fun g5 => absurd li_0 g5)⟩⟩
    · refine r_5_emit cy tE _ _ _ _ b hN.2.1 (by omega) (fun W hW => ⟨fun _ => b99 _ _ _ _ _ 1 gi (Mv_tr hN hW) (by omega) (Or.inr ⟨by decide, rfl⟩) (by omega) (fun g5 => absurd li_0 g5), fun g4 => absurd g4 g3⟩)
    · refine ⟨fun g3 => b99 _ _ _ _ _ 1 gi hN (by omega) (Or.inr ⟨by decide, rfl⟩) (by omega) (fun _ => by omega), fun g3 => ⟨fun _ => b99 _ _ _ _ _ 0 gi hN (by omega) (Or.inl ⟨by decide, rfl⟩) (by omega) (fun _ => by omega), fun g4 => absurd g4 (by decide)⟩⟩
  exact ⟨fun _ => out, fun gi => r_5_kind cy tE T _ b hT.2.1 ⟨fun g => b43 gi (Or.inr g), fun _ => r_5_kind cy tE T _ b hT.2.1 ⟨fun _ => out, fun g => b43 gi (Or.inl g)⟩⟩⟩
set_option maxHeartbeats 400000 in
theorem r_5_readOpenedR (cy : Nat → ClassId) (tE : Nat) (S : KS) (p : Int32) (post : Int32 → KS → Prop) (b n : Int) (sg : KS → Int32 → (Int32 → KS → Prop) → Prop) (hg : SGc b n sg) (h : RD b S) (hk : (kn S).toInt = 17 ∨ (kn S).toInt = 27) (p0 : 0 ≤ p.toInt) (p8 : p.toInt ≤ 8) (hn : 9 - p.toInt ≤ n) (k0 : ∀ S', KFr S S' → post 0 S') (k1 : ∀ S' d l, 1 ≤ l → l ≤ d → (l = d → l % 2 = 1) → Mv b S S' d l → post 1 S') : w_X5_readOpened_R cy tE sg S (kn S) p post := by
  have hl := RD_l h
  have hN := RD_nx h (by omega)
  unfold w_X5_readOpened_R
  have hw := wdt_ge (kn S).toInt
  have hw3 : (kn S).toInt = 17 → wdt (kn S).toInt = 3 := fun g => by rw [g]; decide
  generalize ksi S 15 (fi S.1 15 + 1) = U at hN ⊢
  have hNc := Mv_c hN
  refine ⟨fun g => ?_, fun g => ?_⟩
  · refine r_5_readEitherR cy tE U p _ b n sg hg hN.2.1 p0 p8 hn (fun T hT => ⟨fun g => absurd li_0 g, fun _ => k0 _ (KF_tr hN.1 hT)⟩) (fun T d l a1 a2 a3 hT => ⟨fun _ => ?_, fun g => absurd g (by decide)⟩)
    have hT2 := Mv_tr hN hT
    refine r_5_kind cy tE T _ b hT.2.1 ⟨fun g2 => ?_, fun _ => r_5_refuse cy tE T _ _ b hT.2.1 (fun V hV => ⟨Or.inl rfl, k0 _ (KF_tr hT2.1 hV)⟩)⟩
    have hV := Mv_tr hT2 (RD_nx hT.2.1 (by omega))
    have hw2 := wdt_ge (kn T).toInt
    exact k1 _ _ _ (by omega) (by omega) (by omega) hV
  · have hw4 := hw3 g
    refine hg U p _ hN.2.1 p0 p8 hn (fun T hT => ⟨fun g => absurd li_0 g, fun _ => k0 _ (KF_tr hN.1 hT)⟩) (fun T d l a1 a2 a3 hT => ⟨fun _ => ?_, fun g => absurd g (by decide)⟩)
    have hT2 := Mv_tr hN hT
    have hTc := Mv_c hT2
    exact r_5_emit cy tE T _ _ _ b hT.2.1 (by omega) (fun V hV => k1 _ _ _ (by omega) (by omega) (by omega) (Mv_tr hT2 hV))
set_option maxHeartbeats 400000 in
theorem r_5_readClaimR (cy : Nat → ClassId) (tE : Nat) (S : KS) (p : Int32) (post : Int32 → KS → Prop) (b n : Int) (sg : KS → Int32 → (Int32 → KS → Prop) → Prop) (hg : SGc b n sg) (h : RD b S) (p0 : 0 ≤ p.toInt) (p8 : p.toInt ≤ 8) (hn : 9 - p.toInt ≤ n + 1) (k0 : ∀ S', KFr S S' → post 0 S') (k1 : ∀ S' d l, 1 ≤ l → l ≤ d → (l = d → l % 2 = 1) → Mv b S S' d l → post 1 S') : w_X5_readClaim_R cy tE sg S p post := by
  have hl := RD_l h
  have b17 : ((kn S).toInt = 17 ∨ (kn S).toInt = 27) → w_X5_readClaim_B17 cy tE sg post S p (kn S) := by
    intro hk
    unfold w_X5_readClaim_B17 w_X5_readClaim_B39
    refine ⟨fun _ => r_5_refuse cy tE S _ _ b h (fun V hV => ⟨Or.inl rfl, k0 _ hV⟩), fun g => ?_⟩
    have e1 := inc1 (x := p) (by omega)
    exact r_5_readOpenedR cy tE S _ _ b n sg hg h hk (by rw [e1]; omega) (by rw [e1]; omega) (by rw [e1]; omega) (fun V hV => ⟨Or.inl rfl, k0 _ hV⟩) (fun V d l a1 a2 a3 hV => ⟨Or.inr rfl, k1 _ _ _ a1 a2 a3 hV⟩)
  unfold w_X5_readClaim_R
  refine r_5_kind cy tE S _ b h ⟨fun g => b17 (Or.inl g), fun _ => ⟨fun _ => ?_, fun g => b17 (Or.inr g)⟩⟩
  refine r_5_readSum cy tE S _ b h (fun T hT => ⟨fun g => absurd li_0 g, fun _ => k0 _ hT⟩) (fun T d l a1 a2 a3 hT => ⟨fun _ => ?_, fun g => absurd g (by decide)⟩)
  have b78 : (kn T).toInt ≠ 0 → w_X5_readClaim_B78 cy tE sg post T (kn T) := by
    intro hk
    have hN := Mv_tr hT (RD_nx hT.2.1 hk)
    have hw := wdt_ge (kn T).toInt
    unfold w_X5_readClaim_B78
    generalize ksi T 15 (fi T.1 15 + 1) = U at hN ⊢
    refine r_5_readSum cy tE U _ b hN.2.1 (fun V hV => ⟨fun g => absurd li_0 g, fun _ => k0 _ (KF_tr hN.1 hV)⟩) (fun V d' l' c1 c2 c3 hV => ⟨fun _ => ?_, fun g => absurd g (by decide)⟩)
    have hV2 := Mv_tr hN hV
    have hVc := Mv_c hV2
    exact r_5_emit cy tE V _ _ _ b hV.2.1 (by omega) (fun W hW => k1 _ _ _ (by omega) (by omega) (by omega) (Mv_tr hV2 hW))
  exact r_5_kind cy tE T _ b hT.2.1 ⟨fun g => b78 (by omega), fun _ => ⟨fun g => b78 (by omega), fun _ => ⟨fun g => b78 (by omega), fun _ => r_5_refuse cy tE T _ _ b hT.2.1 (fun V hV => ⟨Or.inl rfl, k0 _ (KF_tr hT.1 hV)⟩)⟩⟩⟩
set_option maxHeartbeats 400000 in
theorem r_5_fuel (cy : Nat → ClassId) (tE : Nat) (b : Int) : ∀ n : Nat, SGc b (n : Int) (lpn (w_X5_readClaim_R cy tE) (fun _ _ _ => False) n) := by
  intro n
  induction n with
  | zero => intro S p post _ h0 h8 hn _ _; exact absurd hn (by omega)
  | succ n ih =>
    intro S p post hR h0 h8 hn k0 k1
    exact r_5_readClaimR cy tE S p post b (n : Int) _ ih hR h0 h8 (by omega) k0 k1
set_option maxHeartbeats 400000 in
theorem r_5_readEither (cy : Nat → ClassId) (tE : Nat) (S : KS) (post : Int32 → KS → Prop) (b : Int) (h : RD b S) (k0 : ∀ S', KFr S S' → post 0 S') (k1 : ∀ S' d l, 1 ≤ l → l ≤ d → (l = d → l % 2 = 1) → Mv b S S' d l → post 1 S') : w_X5_readEither cy tE S 0 post := by
  have hf := r_5_fuel cy tE b 10
  unfold w_X5_readEither
  exact r_5_readEitherR cy tE S 0 post b ((10 : Nat) : Int) _ hf h (by decide) (by decide) (by rw [li_0]; omega) k0 k1
set_option maxHeartbeats 400000 in
theorem r_5_isAtEnd (cy : Nat → ClassId) (tE : Nat) (S : KS) (post : Int32 → KS → Prop) (b : Int) (h : RD b S) (k0 : ∀ S', KFr S S' → post 0 S') (k1 : post 1 S) : w_X5_isAtEnd cy tE S post := by
  unfold w_X5_isAtEnd w_X5_isAtEnd_B15 w_X5_isAtEnd_B20
  exact r_5_kind cy tE S _ b h ⟨fun _ => ⟨Or.inr rfl, k1⟩, fun _ => r_5_refuse cy tE S _ _ b h (fun V hV => ⟨fun _ => ⟨Or.inl rfl, k0 _ hV⟩, fun g => absurd li_0 g⟩)⟩
set_option maxHeartbeats 400000 in
theorem r_5_readCondition (cy : Nat → ClassId) (tE : Nat) (S : KS) (post : Int32 → KS → Prop) (b : Int) (h : RD b S) (k0 : ∀ S', KFr S S' → post 0 S') (k1 : ∀ S' d l, 1 ≤ l → l ≤ d → (l = d → l % 2 = 1) → Mv b S S' d l → post 1 S') : w_X5_readCondition cy tE S post := by
  unfold w_X5_readCondition w_X5_readCondition_B19 w_X5_readCondition_B20
  refine r_5_readEither cy tE S _ b h (fun T hT => ⟨fun _ => ⟨Or.inl rfl, k0 _ hT⟩, fun g => absurd li_0 g⟩) (fun T d l a1 a2 a3 hT => ⟨fun g => absurd g (by decide), fun _ => ?_⟩)
  exact r_5_isAtEnd cy tE T _ b hT.2.1 (fun V hV => ⟨fun _ => ⟨Or.inl rfl, k0 _ (KF_tr hT.1 hV)⟩, fun g => absurd li_0 g⟩) ⟨fun g => absurd g (by decide), fun _ => ⟨Or.inr rfl, k1 _ _ _ a1 a2 a3 hT⟩⟩

