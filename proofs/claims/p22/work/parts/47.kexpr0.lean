abbrev KFr : KS → KS → Prop := KF [15, 16, 17, 18, 19, 20] [15] []
def pn (S : KS) : Int := (ar S.1 14 (fi S.1 15).toNatClampNeg).toInt
def kn (S : KS) : Int32 := ar S.1 13 (fi S.1 15).toNatClampNeg
def RD (b : Int) (S : KS) : Prop := (TKr S b ∧ b ≤ 700) ∧ (0 ≤ (fi S.1 15).toInt ∧ (fi S.1 15).toInt < (fi S.1 21).toInt) ∧ (0 ≤ (fi S.1 16).toInt ∧ (fi S.1 16).toInt ≤ pn S) ∧ (fi S.1 17 = 0 ∨ fi S.1 17 = 1) ∧ (fi S.1 18 = 0 ∨ fi S.1 18 = 1)
def Mv (b : Int) (S S' : KS) (d l : Int) : Prop := KFr S S' ∧ RD b S' ∧ pn S + d ≤ pn S' ∧ (fi S'.1 16).toInt = (fi S.1 16).toInt + l
theorem Mv_tr {b : Int} {S S' S'' : KS} {d l d' l' : Int} (h : Mv b S S' d l) (g : Mv b S' S'' d' l') : Mv b S S'' (d + d') (l + l') := by
  have h3 := h.2.2
  have g3 := g.2.2
  exact ⟨KF_tr h.1 g.1, g.2.1, by omega, by omega⟩
theorem Mv_rf {b : Int} {S : KS} (h : RD b S) : Mv b S S 0 0 := ⟨KF_rf S, h, by omega, by omega⟩
theorem TKr_kf {I A M : List Nat} {S S' : KS} {b : Int} (h : TKr S b) (f : KF I A M S S') (h0 : 21 ∉ I ∧ 13 ∉ A ∧ 14 ∉ A) : TKr S' b := by
  have e21 : fi S'.1 21 = fi S.1 21 := f.1.1 21 h0.1
  have e13 : ar S'.1 13 = ar S.1 13 := f.1.2.2.1 13 h0.2.1
  have e14 : ar S'.1 14 = ar S.1 14 := f.1.2.2.1 14 h0.2.2
  unfold TKr TK0 cnt plc knd at h ⊢
  rw [e21, e13, e14]
  exact h
theorem RD_c {b : Int} {S : KS} (h : RD b S) : (fi S.1 21).toInt ≤ 701 ∧ pn S ≤ 700 ∧ 0 ≤ pn S := by
  obtain ⟨⟨⟨h1, -, -⟩, h2⟩, h3, h4, -⟩ := h
  have c1 : (fi S.1 21).toInt ≤ b + 1 := h1.c1
  have hp : 0 ≤ pn S ∧ pn S + wdt (kn S).toInt ≤ b + 1 := h1.p (fi S.1 15).toNatClampNeg (by show ((fi S.1 15).toNatClampNeg : Int) < (fi S.1 21).toInt; rw [tnc]; omega)
  have := wdt_ge (kn S).toInt
  omega
theorem RD_nx {b : Int} {S : KS} (h : RD b S) (hk : (kn S).toInt ≠ 0) : Mv b S (ksi S 15 (fi S.1 15 + 1)) (wdt (kn S).toInt) 0 := by
  have hc := RD_c h
  obtain ⟨⟨h1, h2⟩, h3, h4, h5, h6⟩ := h
  have hF : KFr S (ksi S 15 (fi S.1 15 + 1)) := KF_si (by decide) (KF_rf S)
  have e1 := inc1 (x := fi S.1 15) (by omega)
  have e15 : fi (ksi S 15 (fi S.1 15 + 1)).1 15 = fi S.1 15 + 1 := si_at _ _ _
  have e16 : fi (ksi S 15 (fi S.1 15 + 1)).1 16 = fi S.1 16 := si_ne (by decide)
  have e17 : fi (ksi S 15 (fi S.1 15 + 1)).1 17 = fi S.1 17 := si_ne (by decide)
  have e18 : fi (ksi S 15 (fi S.1 15 + 1)).1 18 = fi S.1 18 := si_ne (by decide)
  have e21 : fi (ksi S 15 (fi S.1 15 + 1)).1 21 = fi S.1 21 := si_ne (by decide)
  have e14 : ar (ksi S 15 (fi S.1 15 + 1)).1 14 = ar S.1 14 := rfl
  have hT := TKr_kf h1 hF (by decide)
  generalize ksi S 15 (fi S.1 15 + 1) = U at hF e15 e16 e17 e18 e21 e14 hT ⊢
  obtain ⟨n, hn⟩ : ∃ n : Nat, (fi S.1 15).toNatClampNeg = n := ⟨_, rfl⟩
  have hn2 : (n : Int) = (fi S.1 15).toInt := by rw [← hn, tnc]; omega
  have hn3 : (fi U.1 15).toNatClampNeg = n + 1 := by rw [e15, tnc, e1]; omega
  have hlt : (n : Int) + 1 < (fi S.1 21).toInt := by
    apply Classical.byContradiction
    intro hx
    have hl := h1.2.2
    have : (cnt S - 1).toNat = n := by
      show ((fi S.1 21).toInt - 1).toNat = n
      omega
    rw [this] at hl
    apply hk
    unfold kn
    rw [hn, hl]
    decide
  have ha := h1.1.a n hlt
  have hp : pn S + wdt (kn S).toInt ≤ pn U := by
    unfold pn kn
    rw [hn, hn3, e14]
    exact ha
  have := wdt_ge (kn S).toInt
  refine ⟨hF, ⟨⟨hT, h2⟩, ?_, ?_, by rw [e17]; exact h5, by rw [e18]; exact h6⟩, hp, by rw [e16]; omega⟩
  · rw [e15, e21, e1]; omega
  · rw [e16]; omega
theorem RD_kf {b : Int} {S S' : KS} (h : RD b S) (hF : KFr S S') (e15 : fi S'.1 15 = fi S.1 15) (e16 : fi S'.1 16 = fi S.1 16) (e17 : fi S'.1 17 = 0 ∨ fi S'.1 17 = 1) (e18 : fi S'.1 18 = 0 ∨ fi S'.1 18 = 1) : Mv b S S' 0 0 := by
  obtain ⟨⟨h1, h2⟩, h3, h4, h5, h6⟩ := h
  have e21 : fi S'.1 21 = fi S.1 21 := hF.1.1 21 (by decide)
  have e14 : ar S'.1 14 = ar S.1 14 := hF.1.2.2.1 14 (by decide)
  have ep : pn S' = pn S := by
    unfold pn
    rw [e15, e14]
  refine ⟨hF, ⟨⟨TKr_kf h1 hF (by decide), h2⟩, ?_, ?_, e17, e18⟩, by omega, by rw [e16]; omega⟩
  · rw [e15, e21]; exact h3
  · rw [e16, ep]; exact h4
theorem RD_17 {b : Int} {S : KS} (h : RD b S) {y : Int32} (hy : y = 0 ∨ y = 1) : Mv b S (ksi S 17 y) 0 0 := by
  have e17 : fi (ksi S 17 y).1 17 = y := si_at _ _ _
  have e18 : fi (ksi S 17 y).1 18 = fi S.1 18 := si_ne (by decide)
  exact RD_kf h (KF_sf (by decide) (KF_rf S) hy) (si_ne (by decide)) (si_ne (by decide)) (by rw [e17]; exact hy) (by rw [e18]; exact h.2.2.2.2)
theorem RD_18 {b : Int} {S : KS} (h : RD b S) {y : Int32} (hy : y = 0 ∨ y = 1) : Mv b S (ksi S 18 y) 0 0 := by
  have e18 : fi (ksi S 18 y).1 18 = y := si_at _ _ _
  have e17 : fi (ksi S 18 y).1 17 = fi S.1 17 := si_ne (by decide)
  exact RD_kf h (KF_sf (by decide) (KF_rf S) hy) (si_ne (by decide)) (si_ne (by decide)) (by rw [e17]; exact h.2.2.2.1) (by rw [e18]; exact hy)
set_option maxHeartbeats 400000 in
theorem r_5_kind (cy : Nat → ClassId) (tE : Nat) (S : KS) (post : Int32 → KS → Prop) (b : Int) (h : RD b S) (k : post (kn S) S) : w_X5_kind cy tE S post := by
  have hc := RD_c h
  have h3 := h.2.1
  exact ⟨fun g => by omega, fun g => ⟨by omega, k⟩⟩
set_option maxHeartbeats 400000 in
theorem r_5_value (cy : Nat → ClassId) (tE : Nat) (S : KS) (post : Int64 → KS → Prop) (b : Int) (h : RD b S) (k : ∀ v, post v S) : w_X5_value cy tE S post := by
  have hc := RD_c h
  have h3 := h.2.1
  exact ⟨fun g => by omega, fun g => ⟨by omega, k _⟩⟩
set_option maxHeartbeats 400000 in
theorem r_5_refuse (cy : Nat → ClassId) (tE : Nat) (S : KS) (x : Int32) (post : Int32 → KS → Prop) (b : Int) (h : RD b S) (k : ∀ S', KFr S S' → post 0 S') : w_X5_refuse cy tE S x post := by
  have hc := RD_c h
  have h3 := h.2.1
  exact ⟨fun g => by omega, fun g => ⟨by omega, k _ (KF_si (by decide) (KF_si (by decide) (KF_rf S)))⟩⟩
set_option maxHeartbeats 400000 in
theorem r_5_emit (cy : Nat → ClassId) (tE : Nat) (S : KS) (x y : Int32) (post : KS → Prop) (b : Int) (h : RD b S) (h1 : (fi S.1 16).toInt + 1 ≤ pn S) (k : ∀ S', Mv b S S' 0 1 → post S') : w_X5_emit cy tE S x y post := by
  have hc := RD_c h
  obtain ⟨⟨q1, q2⟩, h3, h4, h5, h6⟩ := h
  unfold w_X5_emit w_X5_emit_B37
  refine ⟨fun g => by omega, fun g => ⟨by omega, k _ ?_⟩⟩
  have hF : KFr S (ksi (ksu S 15 (fi S.1 16).toNatClampNeg (x + ((32 : Int32) * y))) 16 (fi S.1 16 + 1)) := KF_si (by decide) (KF_su (by decide) (KF_rf S))
  have e16 : fi (ksi (ksu S 15 (fi S.1 16).toNatClampNeg (x + ((32 : Int32) * y))) 16 (fi S.1 16 + 1)).1 16 = fi S.1 16 + 1 := si_at _ _ _
  have e15 : fi (ksi (ksu S 15 (fi S.1 16).toNatClampNeg (x + ((32 : Int32) * y))) 16 (fi S.1 16 + 1)).1 15 = fi S.1 15 := si_ne (by decide)
  have e17 : fi (ksi (ksu S 15 (fi S.1 16).toNatClampNeg (x + ((32 : Int32) * y))) 16 (fi S.1 16 + 1)).1 17 = fi S.1 17 := si_ne (by decide)
  have e18 : fi (ksi (ksu S 15 (fi S.1 16).toNatClampNeg (x + ((32 : Int32) * y))) 16 (fi S.1 16 + 1)).1 18 = fi S.1 18 := si_ne (by decide)
  generalize ksi (ksu S 15 (fi S.1 16).toNatClampNeg (x + ((32 : Int32) * y))) 16 (fi S.1 16 + 1) = U at hF e16 e15 e17 e18 ⊢
  have e1 := inc1 (x := fi S.1 16) (by omega)
  have e21 : fi U.1 21 = fi S.1 21 := hF.1.1 21 (by decide)
  have e14 : ar U.1 14 = ar S.1 14 := hF.1.2.2.1 14 (by decide)
  have ep : pn U = pn S := by
    unfold pn
    rw [e15, e14]
  refine ⟨hF, ⟨⟨TKr_kf q1 hF (by decide), q2⟩, ?_, ?_, by rw [e17]; exact h5, by rw [e18]; exact h6⟩, by omega, by rw [e16, e1]⟩
  · rw [e15, e21]; exact h3
  · rw [e16, ep, e1]; omega
set_option maxHeartbeats 400000 in
theorem r_5_readPersons (cy : Nat → ClassId) (tE : Nat) (S : KS) (m : Int32) (post : Int32 → KS → Prop) (b : Int) (h : RD b S) (k0 : ∀ S', KFr S S' → post (-1) S') (k1 : ∀ r S' d, (r.toInt = 0 ∨ r.toInt = 1) → 1 ≤ d → Mv b S S' d 0 → post r S') : w_X5_readPersons cy tE S m post := by
  unfold w_X5_readPersons
  refine r_5_kind cy tE S _ b h ?_
  have b25 : ∀ x : Int32, (x.toInt = 0 ∨ x.toInt = 1) → (kn S).toInt ≠ 0 → w_X5_readPersons_B25 cy tE post S m x := by
    intro x hx hk
    have hN := RD_nx h hk
    have hw := wdt_ge (kn S).toInt
    unfold w_X5_readPersons_B25
    generalize ksi S 15 (fi S.1 15 + 1) = U at hN ⊢
    have b58 : ∀ y : Int32, (y = 0 ∨ y = 1) → w_X5_readPersons_B58 cy tE post U m x y := by
      intro y hy
      unfold w_X5_readPersons_B58
      have hY := Mv_tr hN (RD_17 hN.2.1 hy)
      refine ⟨hy, fun _ => ?_, fun _ => k1 _ _ _ hx (by omega) hY⟩
      generalize ksi U 17 y = V at hY ⊢
      have b83 : ∀ z : Int32, z.toInt ≠ 0 → w_X5_readPersons_B83 cy tE post V x z (kn V) := by
        intro z hz
        unfold w_X5_readPersons_B83
        refine ⟨fun g => ?_, fun _ => r_5_refuse cy tE V _ _ b hY.2.1 (fun W hW => k0 _ (KF_tr hY.1 hW))⟩
        have hV := Mv_tr hY (RD_nx hY.2.1 (by omega))
        have hw2 := wdt_ge (kn V).toInt
        exact k1 _ _ _ hx (by omega) hV
      exact r_5_kind cy tE V _ b hY.2.1 ⟨fun _ => b83 _ (by decide), fun _ => b83 _ (by decide)⟩
    have b53 : w_X5_readPersons_B53 cy tE post U m x := b58 1 (Or.inr rfl)
    exact ⟨fun _ => b53, fun _ => ⟨fun _ => b53, fun _ => ⟨fun _ => b58 0 (Or.inl rfl), fun _ => b53⟩⟩⟩
  have hz : ∀ z : Int, (kn S - 21).toInt = z → 0 ≤ z → (kn S).toInt ≠ 0 := by
    intro z hz hz0 hk
    have : kn S = 0 := i_eq (by rw [hk]; decide)
    rw [this] at hz
    have e : ((0 : Int32) - 21).toInt = -21 := by decide
    omega
  exact ⟨fun g => b25 _ (Or.inl g) (hz _ g (by decide)), fun _ => ⟨fun g => b25 _ (Or.inr g) (hz _ g (by decide)), fun _ => r_5_refuse cy tE S _ _ b h (fun W hW => k0 _ hW)⟩⟩

