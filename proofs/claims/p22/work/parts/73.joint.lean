/-- rows and past alike -/
def JT (S : KS) (M : GS) : Prop := (∀ r, r < 6 → ∀ i : Nat, (i : Int) < (ar M 38 r).toInt → ar S.1 (6 + r) i = ar M 37 (12 * r + i)) ∧ (∀ i : Nat, (i : Int) < (fi M 25).toInt → ar S.1 12 i = ar M 40 i) ∧ RN M
/-- tape, fault and law alike -/
def JE (cy : Nat → ClassId) (tE : Nat) (S : KS) (M : GS) : Prop := al S.1 0 = (sm 85).2 ∧ (∀ i : Nat, (i : Int) < (fi M 1).toInt → ar S.1 0 i = ar M 21 i ∧ 0 ≤ (ar S.1 0 i).toInt ∧ (ar S.1 0 i).toInt ≤ 255) ∧ (fi S.1 19 = fi M 8 ∧ fi S.1 20 = fi M 13) ∧ BF M ∧ ∃ (nv : List OL) (cu : List CuT) (ac : Nat → Option AcT), KIx cy tE S nv cu ac ∧ MIx M nv cu ac ∧ GdL nv cu ac ∧ CJx S cu ac
theorem CJx_kf {S S' : KS} {cu : List CuT} {ac : Nat → Option AcT} {I A N : List Nat} (h : CJx S cu ac) (f : KF I A N S S') (c1 : ∀ i ∈ [26, 27, 28, 29, 30, 31, 32, 33, 34], i ∉ I) (c2 : ∀ j ∈ [1, 5, 17, 20, 21], j ∉ A) (c3 : 2 ∉ N) : CJx S' cu ac :=
  CJx_cg h (fun i hi => f.1.1 i (c1 i hi)) (fun j hj => f.1.2.2.1 j (c2 j hj)) (f.1.2.2.2 2 c3)
theorem CJx_t {S S' : KS} {cu cu' : List CuT} {ac ac' : Nat → Option AcT} (h : CJx S cu ac) (f : FX S S') (z : (fi S'.1 32).toInt = 0 ∨ (fi S'.1 32 = fi S.1 32 ∧ cu' = cu ∧ ac' = ac)) : CJx S' cu' ac' := by
  rcases z with z | ⟨z, e1, e2⟩
  · exact CJx_0 h (f.2.2.1 5 (by decide)) z
  · rw [e1, e2]
    refine CJx_cg h (fun i hi => ?_) (fun j hj => f.2.2.1 j (by revert hj; revert j; decide)) (f.2.2.2 2 (by decide))
    by_cases e : i = 32
    · rw [e]; exact z
    · exact f.1 i (by revert e; revert hi; revert i; decide)
theorem CJx_w {S S' : KS} {cu : List CuT} {ac : Nat → Option AcT} (h : CJx S cu ac) (f : KW2 S S') (r : ar S'.1 1 = ar S.1 1 ∧ ar S'.1 5 = ar S.1 5) : CJx S' cu ac := by
  refine CJx_cg h (fun i hi => f.1.1 i (by revert hi; revert i; decide)) (fun j hj => ?_) (f.1.2.2.2 2 (by decide))
  by_cases e1 : j = 1
  · rw [e1]; exact r.1
  by_cases e5 : j = 5
  · rw [e5]; exact r.2
  · exact f.1.2.2.1 j (by revert e5; revert e1; revert hj; revert j; decide)
theorem CJx_r {S S' : KS} {cu : List CuT} {ac : Nat → Option AcT} (h : CJx S cu ac) (f : KF (List.range 15) (List.range 13) [] S S') (a1 : ar S'.1 1 = ar S.1 1) (a5 : ar S'.1 5 = ar S.1 5) : CJx S' cu ac := by
  refine CJx_cg h (fun i hi => f.1.1 i (by revert hi; revert i; decide)) (fun j hj => ?_) (f.1.2.2.2 2 (by decide))
  by_cases e1 : j = 1
  · rw [e1]; exact a1
  by_cases e5 : j = 5
  · rw [e5]; exact a5
  · exact f.1.2.2.1 j (by revert e5; revert e1; revert hj; revert j; decide)
theorem JE_w {cy : Nat → ClassId} {tE : Nat} {S S' : KS} {M M' : GS} {I A N I2 L2 A2 N2 : List Nat} {nv : List OL} {cu : List CuT} {ac : Nat → Option AcT} (h : JE cy tE S M) (h6 : KIx cy tE S nv cu ac) (h7 : MIx M nv cu ac) (h8 : GdL nv cu ac) (f : KF I A N S S') (a0 : ar S'.1 0 = ar S.1 0) (g : Fr I2 L2 A2 N2 M M') (c : 0 ∉ N ∧ 19 ∉ I ∧ 20 ∉ I) (c1 : ∀ x ∈ [1, 8, 13, 14, 15, 16, 17], x ∉ I2) (c2 : ∀ j ∈ [5, 6, 7, 8, 9, 10, 11, 12, 13, 14, 15, 16, 17, 18, 19, 20, 21, 23], j ∉ A2) (hC : CJx S' cu ac) : JE cy tE S' M' := by
  obtain ⟨h1, h2, ⟨h3, h4⟩, h5, -⟩ := h
  have m1 : fi M' 1 = fi M 1 := g.1 1 (c1 1 (by decide))
  have m8 : fi M' 8 = fi M 8 := g.1 8 (c1 8 (by decide))
  have m13 : fi M' 13 = fi M 13 := g.1 13 (c1 13 (by decide))
  have m21 : ar M' 21 = ar M 21 := g.2.2.1 21 (c2 21 (by decide))
  have e19 : fi S'.1 19 = fi S.1 19 := f.1.1 19 c.2.1
  have e20 : fi S'.1 20 = fi S.1 20 := f.1.1 20 c.2.2
  refine ⟨(f.1.2.2.2 0 c.1).trans h1, fun i hi => ?_, ⟨e19.trans (h3.trans m8.symm), e20.trans (h4.trans m13.symm)⟩, BF_fr h5 g ⟨c1 14 (by decide), c1 15 (by decide)⟩, nv, cu, ac, KIx_kf h6 f, MIx_fr h7 g ⟨c1 16 (by decide), c1 17 (by decide)⟩ (fun j hj => c2 j (by revert hj; revert j; decide)), h8, hC⟩
  rw [m1] at hi
  rw [a0, m21]
  exact h2 i hi
theorem JE_kf {cy : Nat → ClassId} {tE : Nat} {S S' : KS} {M M' : GS} {I A N I2 L2 A2 N2 : List Nat} (h : JE cy tE S M) (f : KF I A N S S') (a0 : ar S'.1 0 = ar S.1 0) (g : Fr I2 L2 A2 N2 M M') (c : 0 ∉ N ∧ 19 ∉ I ∧ 20 ∉ I) (c1 : ∀ x ∈ [1, 8, 13, 14, 15, 16, 17], x ∉ I2) (c2 : ∀ j ∈ [5, 6, 7, 8, 9, 10, 11, 12, 13, 14, 15, 16, 17, 18, 19, 20, 21, 23], j ∉ A2) (hC : ∀ cu ac, CJx S cu ac → CJx S' cu ac) : JE cy tE S' M' := by
  obtain ⟨-, -, -, -, nv, cu, ac, h6, h7, h8, h9⟩ := id h
  exact JE_w h h6 h7 h8 f a0 g c c1 c2 (hC _ _ h9)
theorem JE_t {cy : Nat → ClassId} {tE : Nat} {S S' : KS} {M M' : GS} {nv : List OL} {cu : List CuT} {ac : Nat → Option AcT} (h : JE cy tE S M) (f : FX S S') (t0 : (fi M' 1).toInt = 0) (e : (fi S'.1 19).toInt = (fi M' 8).toInt) (e' : fi S'.1 20 = fi M' 13) (hB : BF M') (hx : KIx cy tE S' nv cu ac) (hy : MIx M' nv cu ac) (hz : GdL nv cu ac) (hc : CJx S' cu ac) : JE cy tE S' M' :=
  ⟨(f.2.2.2 0 (by decide)).trans h.1, fun i hi => by exfalso; omega, ⟨i_eq e, e'⟩, hB, nv, cu, ac, hx, hy, hz, hc⟩
/-- THE BEGINNING alike -/
def JS (S : KS) (M : GS) : Prop := ∃ g : SV, GV g ∧ GW g ∧ (∀ i, i = 0 ∨ i = 4 ∨ i = 8 → g (10 + i) = 0) ∧ AGR (ar S.1 1) g ∧ (fl M 0).toInt = pkI g
theorem JS_kf {S S' : KS} {M M' : GS} (h : JS S M) (a1 : ar S'.1 1 = ar S.1 1) (e0 : fl M' 0 = fl M 0) : JS S' M' := by
  obtain ⟨g, h1, h2, h3, h4, h5⟩ := h
  exact ⟨g, h1, h2, h3, by rw [a1]; exact h4, by rw [e0]; exact h5⟩
/-- class and reference between two calls -/
def JI (cy : Nat → ClassId) (tE : Nat) (S : KS) (M : GS) : Prop := KI cy tE S ∧ (KInv M ∧ SInv M ∧ BR M) ∧ fi S.1 0 = fi M 1 ∧ (∀ r, r < 6 → fi S.1 (1 + 2 * r) = ar M 38 r) ∧ (∀ r, r < 6 → fi S.1 (2 + 2 * r) = ar M 39 r) ∧ fi S.1 13 = fi M 25 ∧ JT S M ∧ JE cy tE S M ∧ JS S M
theorem JI.e {cy : Nat → ClassId} {tE : Nat} {S : KS} {M : GS} (h : JI cy tE S M) : JE cy tE S M := h.2.2.2.2.2.2.2.1
theorem JI.s {cy : Nat → ClassId} {tE : Nat} {S : KS} {M : GS} (h : JI cy tE S M) : JS S M := h.2.2.2.2.2.2.2.2
abbrev tp (S : KS) : Int := (fi S.1 0).toInt
def JP (cy : Nat → ClassId) (tE : Nat) (S : KS) (r : Int32) (S' : KS) (r2 : Int32) (M' : GS) : Prop := r2 = r ∧ JI cy tE S' M' ∧ tp S' ≤ tp S + 20
def JR (cy : Nat → ClassId) (tE : Nat) (r : Int32) (S' : KS) (r2 : Int32) (M' : GS) : Prop := r2 = r ∧ JI cy tE S' M' ∧ fi S'.1 0 = 0
def JQ (cy : Nat → ClassId) (tE : Nat) (S : KS) (S' : KS) (M' : GS) : Prop := JI cy tE S' M' ∧ tp S' ≤ tp S + 20
theorem KInv_rw {M M' : GS} (h : KInv M) (f : Fr [1, 25] [] [21, 37, 38, 39, 40] [] M M') (h1 : 0 ≤ (fi M' 1).toInt ∧ (fi M' 1).toInt ≤ 700) (h38 : ∀ r, r < 6 → 0 ≤ (ar M' 38 r).toInt ∧ (ar M' 38 r).toInt ≤ 12) (h37 : ∀ i, i < 72 → 0 ≤ (ar M' 37 i).toInt ∧ (ar M' 37 i).toInt ≤ 767) (h25 : 0 ≤ (fi M' 25).toInt ∧ (fi M' 25).toInt ≤ 200) : KInv M' := by
  obtain ⟨a, b, c, d, e, g, i, j, k, l, m⟩ := h
  refine ⟨h1, ?_, ?_, ?_, ?_, ?_, ?_, h38, h37, ?_, h25⟩
  · unfold ar at *
    rw [f.2.2.1 7 (by decide)]; exact b
  · unfold ActOK NeedOK MakeOK sx fi ar at *
    rw [f.2.2.1 5 (by decide), f.2.2.1 7 (by decide), f.2.2.1 8 (by decide), f.2.2.1 9 (by decide), f.2.2.1 10 (by decide), f.2.2.1 11 (by decide), f.2.2.1 12 (by decide), f.2.2.1 13 (by decide), f.2.2.1 14 (by decide), f.2.2.1 15 (by decide), f.2.2.1 16 (by decide), f.2.2.1 19 (by decide), f.2.2.1 20 (by decide)]
    exact c
  · unfold fi at *
    rw [f.1 16 (by decide)]; exact d
  · unfold TxtOK sx fi ar at *
    rw [f.1 16 (by decide), f.2.2.1 5 (by decide), f.2.2.1 6 (by decide)]; exact e
  · unfold fi at *
    rw [f.1 17 (by decide)]; exact g
  · unfold TxtOK sx fi ar at *
    rw [f.1 17 (by decide), f.2.2.1 5 (by decide), f.2.2.1 6 (by decide)]; exact i
  · unfold ar at *
    rw [f.2.2.1 31 (by decide)]; exact l
theorem SInv_g {I L A N : List Nat} {M M' : GS} (h : SInv M) (f : Fr I L A N M M') (hI : 21 ∉ I ∧ 22 ∉ I) (hA : 26 ∉ A ∧ 28 ∉ A ∧ 29 ∉ A ∧ 30 ∉ A) : SInv M' := by
  unfold SInv fi ar at *
  rw [f.1 21 hI.1, f.1 22 hI.2, f.2.2.1 26 hA.1, f.2.2.1 28 hA.2.1, f.2.2.1 29 hA.2.2.1, f.2.2.1 30 hA.2.2.2]
  exact h
theorem JI_mk {cy : Nat → ClassId} {tE : Nat} {S S' : KS} {M M' : GS} (h : JI cy tE S M) (hK : KI cy tE S') (hM : KInv M' ∧ SInv M' ∧ BR M') (e0 : fi S'.1 0 = fi M' 1) (hS : ∀ k, 1 ≤ k → k ≤ 14 → fi S'.1 k = fi S.1 k) (e38 : ar M' 38 = ar M 38) (e39 : ar M' 39 = ar M 39) (e25 : fi M' 25 = fi M 25) (a6 : ∀ j, 6 ≤ j → j ≤ 12 → ar S'.1 j = ar S.1 j) (e37 : ar M' 37 = ar M 37) (e40 : ar M' 40 = ar M 40) (e31 : ar M' 31 = ar M 31) (hE : JE cy tE S' M') (hJS : JS S' M') : JI cy tE S' M' := by
  obtain ⟨-, -, -, h1, h2, h3, ⟨h4, h5, h6⟩, -⟩ := h
  refine ⟨hK, hM, e0, fun r hr => ?_, fun r hr => ?_, ?_, ⟨fun r hr i hi => ?_, fun i hi => ?_, ?_⟩, hE, hJS⟩
  · rw [hS _ (by omega) (by omega), e38]; exact h1 r hr
  · rw [hS _ (by omega) (by omega), e39]; exact h2 r hr
  · rw [hS _ (by omega) (by omega), e25]; exact h3
  · rw [e38] at hi
    rw [a6 _ (by omega) (by omega), e37]
    exact h4 r hr i hi
  · rw [e25] at hi
    rw [a6 _ (by omega) (by omega), e40]
    exact h5 i hi
  · unfold RN
    rw [e31]; exact h6
theorem kf_612 {I A N : List Nat} {S S' : KS} (f : Fr I [] A N S.1 S'.1) (h : ∀ x ∈ A, x < 6 ∨ 12 < x) : ∀ j, 6 ≤ j → j ≤ 12 → ar S'.1 j = ar S.1 j := fun j h1 h2 => f.2.2.1 j (fun hk => by have := h j hk; omega)
theorem kf_14 {I A N : List Nat} {S S' : KS} (f : Fr I [] A N S.1 S'.1) (h : ∀ x ∈ I, x = 0 ∨ 15 ≤ x) : ∀ k, 1 ≤ k → k ≤ 14 → fi S'.1 k = fi S.1 k := fun k h1 h2 => f.1 k (fun hk => by have := h k hk; omega)
theorem KInv_fl {S S' : GS} (h : KInv S) (f : Fr [0] [0] [0, 1, 2, 3, 4] [] S S') : KInv S' := by
  unfold KInv ActOK TxtOK NeedOK MakeOK sx fi ar at *
  rw [f.1 1 (by decide), f.1 16 (by decide), f.1 17 (by decide), f.1 25 (by decide), f.2.2.1 5 (by decide), f.2.2.1 6 (by decide), f.2.2.1 7 (by decide), f.2.2.1 8 (by decide), f.2.2.1 9 (by decide), f.2.2.1 10 (by decide), f.2.2.1 11 (by decide), f.2.2.1 12 (by decide), f.2.2.1 13 (by decide), f.2.2.1 14 (by decide), f.2.2.1 15 (by decide), f.2.2.1 16 (by decide), f.2.2.1 19 (by decide), f.2.2.1 20 (by decide), f.2.2.1 31 (by decide), f.2.2.1 37 (by decide), f.2.2.1 38 (by decide)]
  exact h
theorem JI_set {cy : Nat → ClassId} {tE : Nat} {S S' : KS} {M M' : GS} (h : JI cy tE S M) (f : KF [32] [1] [] S S') (z : (fi S'.1 32).toInt = 0) (g : ST M M') (hJS : JS S' M') : JI cy tE S' M' ∧ tp S' ≤ tp S + 20 := by
  have e0 : fi S'.1 0 = fi S.1 0 := f.1.1 0 (by decide)
  obtain ⟨hK, ⟨m1, m2, m3⟩, t0, -⟩ := id h
  refine ⟨JI_mk h (KI_kf hK f (by decide) (SQ_kf hK.2.2.2.1 f (by decide)) (by rw [e0]; exact hK.2.2.1)) ⟨KInv_fl m1 g.1, SInv_g m2 g.1 (by decide) (by decide), g.2 m3⟩ ?_ (kf_14 f.1 (by decide)) (g.1.2.2.1 38 (by decide)) (g.1.2.2.1 39 (by decide)) (g.1.1 25 (by decide)) (kf_612 f.1 (by decide)) (g.1.2.2.1 37 (by decide)) (g.1.2.2.1 40 (by decide)) (g.1.2.2.1 31 (by decide)) (JE_kf h.e f (f.1.2.2.1 0 (by decide)) g.1 (by decide) (by decide) (by decide) (fun _ _ q => CJx_0 q (f.1.2.2.1 5 (by decide)) z)) hJS, by unfold tp; rw [e0]; omega⟩
  rw [e0, t0]
  exact (g.1.1 1 (by decide)).symm
theorem JI_q {cy : Nat → ClassId} {tE : Nat} {S S' : KS} {M M' : GS} (h : JI cy tE S M) (f : KQs S S') (hs : SQ S') (g : SS M M') (hE : JE cy tE S' M') : JQ cy tE S S' M' := by
  have e0 : fi S'.1 0 = fi S.1 0 := f.1.1 0 (by decide)
  obtain ⟨hK, ⟨m1, m2, m3⟩, t0, -⟩ := id h
  refine ⟨JI_mk h (KI_kf hK f (by decide) hs (by rw [e0]; exact hK.2.2.1)) ⟨m1.fr g.1, g.2.2, g.2.1 m3⟩ ?_ (kf_14 f.1 (by decide)) (g.1.2.2.1 38 (by decide)) (g.1.2.2.1 39 (by decide)) (g.1.1 25 (by decide)) (kf_612 f.1 (by decide)) (g.1.2.2.1 37 (by decide)) (g.1.2.2.1 40 (by decide)) (g.1.2.2.1 31 (by decide)) hE (JS_kf h.s (f.1.2.2.1 1 (by decide)) (g.1.2.1 0 (by decide))), by unfold tp; rw [e0]; omega⟩
  rw [e0, t0]
  exact (g.1.1 1 (by decide)).symm
theorem JI_t {cy : Nat → ClassId} {tE : Nat} {S S' : KS} {M M' : GS} (h : JI cy tE S M) (hK : KI cy tE S') (f : FX S S') (e0 : fi S'.1 0 = 0) (g : FT M M') (hM : KInv M') (t0 : (fi M' 1).toInt = 0) (hE : JE cy tE S' M') (hJS : JS S' M') : JI cy tE S' M' ∧ fi S'.1 0 = 0 := by
  obtain ⟨-, ⟨m1, m2, m3⟩, -⟩ := id h
  refine ⟨JI_mk h hK ⟨hM, SInv_g m2 g (by decide) (by decide), BR.fr g (by decide) (by decide) m3⟩ ?_ (kf_14 f (by decide)) (g.2.2.1 38 (by decide)) (g.2.2.1 39 (by decide)) (g.1 25 (by decide)) (kf_612 f (by decide)) (g.2.2.1 37 (by decide)) (g.2.2.1 40 (by decide)) (g.2.2.1 31 (by decide)) hE hJS, e0⟩
  rw [e0]
  exact (Int32.toInt_inj.mp (t0.trans (by decide))).symm
theorem kinG_d {g : SV} {p q w z : Int32} {i : Nat} (hi : i = 0 ∨ i = 4 ∨ i = 8) (hp : 0 ≤ p.toInt ∧ p.toInt ≤ 2) (hq : 0 ≤ q.toInt ∧ q.toInt ≤ 2) : kinG g p q w z (10 + i) = g (10 + i) := by
  unfold kinG
  by_cases e : w.toInt = 1
  · rw [if_pos e, upd_ne (by omega)]
  · rw [if_neg e, upd_ne (by omega), upd_ne (by omega)]
theorem j_coin {cy : Nat → ClassId} {tE : Nat} {S : KS} {M : GS} (hJ : JI cy tE S M) (p v : Int32) : w_X11_coin cy tE S p v (fun r S' => w_X12_coin M p v (fun r2 M' => JP cy tE S r S' r2 M')) := by
  obtain ⟨g, h1, h2, h3, h4, h5⟩ := id hJ.s
  exact r_11_coinE cy tE S p v _ g h4 (fun c S' hF hA => q_coinE M p v _ g h1 h2 h5 (fun _ M' hM => ⟨rfl, JI_set hJ hF.1 hF.2 ⟨hM.1, hM.2.1⟩ ⟨_, GV_lo (by omega) c.2 h1, GW_ne (by omega) h2, fun i hi => by rw [upd_ne (by omega)]; exact h3 i hi, hA, hM.2.2⟩⟩) (fun c2 => absurd c c2)) (fun c => q_coinE M p v _ g h1 h2 h5 (fun c2 => absurd c2 c) (fun _ => ⟨rfl, hJ, by omega⟩))
theorem j_owner {cy : Nat → ClassId} {tE : Nat} {S : KS} {M : GS} (hJ : JI cy tE S M) (p v : Int32) : w_X11_owner cy tE S p v (fun r S' => w_X12_owner M p v (fun r2 M' => JP cy tE S r S' r2 M')) := by
  obtain ⟨g, h1, h2, h3, h4, h5⟩ := id hJ.s
  exact r_11_ownerE cy tE S p v _ g h4 (fun c S' hF hA => q_ownerE M p v _ g h1 h2 h5 (fun _ M' hM => ⟨rfl, JI_set hJ hF.1 hF.2 ⟨hM.1, hM.2.1⟩ ⟨_, GV_own (by omega) c.2 h1, GW_ne (by omega) h2, fun i hi => by rw [upd_ne (by omega)]; exact h3 i hi, hA, hM.2.2⟩⟩) (fun c2 => absurd c c2)) (fun c => q_ownerE M p v _ g h1 h2 h5 (fun c2 => absurd c2 c) (fun _ => ⟨rfl, hJ, by omega⟩))
theorem j_day {cy : Nat → ClassId} {tE : Nat} {S : KS} {M : GS} (hJ : JI cy tE S M) (v : Int32) : w_X11_day cy tE S v (fun r S' => w_X12_day M v (fun r2 M' => JP cy tE S r S' r2 M')) := by
  obtain ⟨g, h1, h2, h3, h4, h5⟩ := id hJ.s
  exact r_11_dayE cy tE S v _ g h4 (fun c S' hF hA => q_dayE M v _ g h1 h2 h5 (fun _ M' hM => ⟨rfl, JI_set hJ hF.1 hF.2 ⟨hM.1, hM.2.1⟩ ⟨_, GV_day c h1, GW_ne (by omega) h2, fun i hi => by rw [upd_ne (by omega)]; exact h3 i hi, hA, hM.2.2⟩⟩) (fun c2 => absurd c c2)) (fun c => q_dayE M v _ g h1 h2 h5 (fun c2 => absurd c2 c) (fun _ => ⟨rfl, hJ, by omega⟩))
theorem j_debt {cy : Nat → ClassId} {tE : Nat} {S : KS} {M : GS} (hJ : JI cy tE S M) (p q v : Int32) : w_X11_debt cy tE S p q v (fun r S' => w_X12_debt M p q v (fun r2 M' => JP cy tE S r S' r2 M')) := by
  obtain ⟨g, h1, h2, h3, h4, h5⟩ := id hJ.s
  exact r_11_debtE cy tE S p q v _ g h4 (fun c S' hF hA => q_debtE M p q v _ g h1 h2 h5 (fun _ M' hM => ⟨rfl, JI_set hJ hF.1 hF.2 ⟨hM.1, hM.2.1⟩ ⟨_, GV_debt (by unfold prI; omega) c.2.2.2 h1, GW_ne (by unfold prI; omega) h2, fun i hi => by rw [upd_ne (by unfold prI; omega)]; exact h3 i hi, hA, hM.2.2⟩⟩) (fun c2 => absurd c c2)) (fun c => q_debtE M p q v _ g h1 h2 h5 (fun c2 => absurd c2 c) (fun _ => ⟨rfl, hJ, by omega⟩))
theorem j_kin {cy : Nat → ClassId} {tE : Nat} {S : KS} {M : GS} (hJ : JI cy tE S M) (p q v z : Int32) (hz : z = 0 ∨ z = 1) : w_X11_kin cy tE S p q v z (fun r S' => w_X12_kin M p q v z (fun r2 M' => JP cy tE S r S' r2 M')) := by
  obtain ⟨g, h1, h2, h3, h4, h5⟩ := id hJ.s
  exact r_11_kinE cy tE S p q v z _ g hz h4 (fun c S' hF hA => q_kinE M p q v z _ g hz h1 h2 h5 (fun _ M' hM => ⟨rfl, JI_set hJ hF.1 hF.2 ⟨hM.1, hM.2.1⟩ ⟨_, (kinG_v c.1 c.2.1 hz h1 h2).1, (kinG_v c.1 c.2.1 hz h1 h2).2, fun i hi => (kinG_d hi c.1 c.2.1).trans (h3 i hi), hA, hM.2.2⟩⟩) (fun c2 => absurd c c2)) (fun c => q_kinE M p q v z _ g hz h1 h2 h5 (fun c2 => absurd c2 c) (fun _ => ⟨rfl, hJ, by omega⟩))
/-- a row's CODES on both sides -/
theorem J_row {cy : Nat → ClassId} {tE : Nat} {S : KS} {M : GS} (hJ : JI cy tE S M) {r : Nat} (hr : r < 6) : ∃ cs : List Int32, cs.length ≤ 12 ∧ fi S.1 (1 + 2 * r) = nI cs.length ∧ ar M 38 r = nI cs.length ∧ (∀ (t : Nat) (c : Int32), cs[t]? = some c → ar S.1 (6 + r) t = c ∧ (0 ≤ c.toInt ∧ c.toInt ≤ 767)) ∧ ∀ (t : Nat) (c : Int32), cs[t]? = some c → ar M 37 (12 * r + t) = c ∧ (0 ≤ c.toInt ∧ c.toInt ≤ 767) := by
  obtain ⟨hK, ⟨m1, m2, m3⟩, t0, h1, h2, h3, ⟨h4, h5, h6⟩, -⟩ := id hJ
  have b38 := m1.2.2.2.2.2.2.2.1 r hr
  have b37 := m1.2.2.2.2.2.2.2.2.1
  have e := h1 r hr
  have en : ar M 38 r = nI (ar M 38 r).toInt.toNat := i_eq (by rw [nI_toInt (by omega)]; omega)
  refine ⟨csO (ar S.1 (6 + r)) (ar M 38 r).toInt.toNat, by rw [csO_l]; omega, by rw [csO_l, e]; exact en, by rw [csO_l]; exact en, fun t c hc => ?_, fun t c hc => ?_⟩
  · obtain ⟨g1, g2⟩ := csO_g hc
    have q := h4 r hr t (by omega)
    refine ⟨g2, ?_⟩
    rw [← g2, q]
    exact b37 _ (by omega)
  · obtain ⟨g1, g2⟩ := csO_g hc
    have q := h4 r hr t (by omega)
    rw [g2] at q
    refine ⟨q.symm, ?_⟩
    rw [q]
    exact b37 _ (by omega)
theorem j_lawful {cy : Nat → ClassId} {tE : Nat} {S : KS} {M : GS} (hJ : JI cy tE S M) (r l s x : Int32) : w_X11_lawful cy tE S r l s x (fun r1 S' => w_X12_lawful M r l s x (fun r2 M' => JP cy tE S r1 S' r2 M')) := by
  obtain ⟨g, h1, h2, h3, h4, h5⟩ := id hJ.s
  obtain ⟨-, -, -, -, nv, cu, ac, hx, hm, hgd, hc⟩ := id hJ.e
  have hK := hJ.1
  obtain ⟨m1, m2, m3⟩ := hJ.2.1
  have hrow : ∃ cs : List Int32, cs.length ≤ 12 ∧ (0 ≤ r.toInt ∧ r.toInt ≤ 5 → fi S.1 (1 + 2 * r.toInt.toNat) = nI cs.length ∧ ar M 38 r.toInt.toNat = nI cs.length ∧ (∀ (t : Nat) (c : Int32), cs[t]? = some c → ar S.1 (6 + r.toInt.toNat) t = c ∧ (0 ≤ c.toInt ∧ c.toInt ≤ 767)) ∧ ∀ (t : Nat) (c : Int32), cs[t]? = some c → ar M 37 (12 * r.toInt.toNat + t) = c ∧ (0 ≤ c.toInt ∧ c.toInt ≤ 767)) := by
    by_cases hr : 0 ≤ r.toInt ∧ r.toInt ≤ 5
    · obtain ⟨cs, q1, q2, q3, q4, q5⟩ := J_row hJ (r := r.toInt.toNat) (by omega)
      exact ⟨cs, q1, fun _ => ⟨q2, q3, q4, q5⟩⟩
    · exact ⟨[], by decide, fun q => absurd q hr⟩
  obtain ⟨cs, q1, q2⟩ := hrow
  have hPM : ∀ c a, (0 ≤ c.toInt ∧ c.toInt ≤ 767) → actO ac c l = some a → ∀ w ∈ a.2.2.2.2, PM c w := fun c a hc h => PM_of hm m1 hgd c l a hc h
  have fin : ∀ {S' : KS} {M' : GS}, KW2 S S' → (ar S'.1 1 = ar S.1 1 ∧ ar S'.1 5 = ar S.1 5) → FW M M' → BR M' → JQ cy tE S S' M' := fun hF hr hQ hB => JI_q hJ (KF_wk hF (by decide)) (SQ_kf hK.2.2.2.1 hF (by decide)) ⟨hQ.wk (by decide), fun _ => hB, SInv_g m2 hQ (by decide) (by decide)⟩ (JE_w hJ.e hx hm hgd hF (hF.1.2.2.1 0 (by decide)) hQ (by decide) (by decide) (by decide) (CJx_w hc hF hr))
  refine r_11_lawfulE cy tE S r l s x _ nv cu ac g cs (HQx_of hx) hgd h4 (fun hr => (q2 hr).1) q1 (fun hr => (q2 hr).2.2.1) hPM (fun c => ?_) (fun c S' hF hr => ?_)
  · exact q_lawfulE M r l s x _ nv cu ac g cs hm hgd h1 h2 h5 m3 h3 (fun hr => (q2 hr).2.1) q1 (fun hr => (q2 hr).2.2.2) hPM (fun _ => ⟨rfl, hJ, by omega⟩) (fun c2 => absurd c2 c)
  · refine ⟨fun hz => q_lawfulE M r l s x _ nv cu ac g cs hm hgd h1 h2 h5 m3 h3 (fun hr => (q2 hr).2.1) q1 (fun hr => (q2 hr).2.2.2) hPM (fun c2 => absurd c c2) (fun _ M' hQ hB => ⟨fun _ => ⟨rfl, fin hF hr hQ hB⟩, fun q => absurd hz q⟩), fun hz => q_lawfulE M r l s x _ nv cu ac g cs hm hgd h1 h2 h5 m3 h3 (fun hr => (q2 hr).2.1) q1 (fun hr => (q2 hr).2.2.2) hPM (fun c2 => absurd c c2) (fun _ M' hQ hB => ⟨fun q => absurd q hz, fun _ => ⟨rfl, fin hF hr hQ hB⟩⟩)⟩
theorem j_after {cy : Nat → ClassId} {tE : Nat} {S : KS} {M : GS} (hJ : JI cy tE S M) (r x : Int32) : w_X11_after cy tE S r x (fun r1 S' => w_X12_after M r x (fun r2 M' => JP cy tE S r1 S' r2 M')) := by
  obtain ⟨g, h1, h2, h3, h4, h5⟩ := id hJ.s
  obtain ⟨-, -, -, -, nv, cu, ac, hx, hm, hgd, hc⟩ := id hJ.e
  have hK := hJ.1
  obtain ⟨m1, m2, m3⟩ := hJ.2.1
  have hrow : ∃ cs : List Int32, cs.length ≤ 12 ∧ (0 ≤ r.toInt ∧ r.toInt ≤ 5 → fi S.1 (1 + 2 * r.toInt.toNat) = nI cs.length ∧ ar M 38 r.toInt.toNat = nI cs.length ∧ (∀ (t : Nat) (c : Int32), cs[t]? = some c → ar S.1 (6 + r.toInt.toNat) t = c ∧ (0 ≤ c.toInt ∧ c.toInt ≤ 767)) ∧ ∀ (t : Nat) (c : Int32), cs[t]? = some c → ar M 37 (12 * r.toInt.toNat + t) = c ∧ (0 ≤ c.toInt ∧ c.toInt ≤ 767)) := by
    by_cases hr : 0 ≤ r.toInt ∧ r.toInt ≤ 5
    · obtain ⟨cs, q1, q2, q3, q4, q5⟩ := J_row hJ (r := r.toInt.toNat) (by omega)
      exact ⟨cs, q1, fun _ => ⟨q2, q3, q4, q5⟩⟩
    · exact ⟨[], by decide, fun q => absurd q hr⟩
  obtain ⟨cs, q1, q2⟩ := hrow
  have hPM : ∀ c a, (0 ≤ c.toInt ∧ c.toInt ≤ 767) → actO ac c 3 = some a → ∀ w ∈ a.2.2.2.2, PM c w := fun c a hc h => PM_of hm m1 hgd c 3 a hc h
  have fin : ∀ {S' : KS} {M' : GS}, KW2 S S' → (ar S'.1 1 = ar S.1 1 ∧ ar S'.1 5 = ar S.1 5) → FW M M' → BR M' → JQ cy tE S S' M' := fun hF hr hQ hB => JI_q hJ (KF_wk hF (by decide)) (SQ_kf hK.2.2.2.1 hF (by decide)) ⟨hQ.wk (by decide), fun _ => hB, SInv_g m2 hQ (by decide) (by decide)⟩ (JE_w hJ.e hx hm hgd hF (hF.1.2.2.1 0 (by decide)) hQ (by decide) (by decide) (by decide) (CJx_w hc hF hr))
  refine r_11_afterE cy tE S r x _ nv cu ac g cs (HQx_of hx) hgd h4 (fun hr => (q2 hr).1) q1 (fun hr => (q2 hr).2.2.1) hPM (fun c => ?_) (fun c S' hF hr => ?_)
  · exact q_afterE M r x _ nv cu ac g cs hm hgd h1 h2 h5 m3 h3 (fun hr => (q2 hr).2.1) q1 (fun hr => (q2 hr).2.2.2) hPM (fun M' _ hQ hB => ⟨rfl, fin (KF_rf S) ⟨rfl, rfl⟩ hQ hB⟩) (fun M' c2 => absurd c2 c)
  · exact q_afterE M r x _ nv cu ac g cs hm hgd h1 h2 h5 m3 h3 (fun hr => (q2 hr).2.1) q1 (fun hr => (q2 hr).2.2.2) hPM (fun M' c2 => absurd c c2) (fun M' _ hQ hB => ⟨rfl, fin hF hr hQ hB⟩)
theorem CX_j {cy : Nat → ClassId} {tE : Nat} {S : KS} {M : GS} (hJ : JI cy tE S M) {nv : List OL} {cu : List CuT} {ac : Nat → Option AcT} (hx : KIx cy tE S nv cu ac) (hm : MIx M nv cu ac) (hgd : GdL nv cu ac) (hc : CJx S cu ac) : CX cy S nv cu ac := by
  obtain ⟨g, h1, h2, h3, h4, h5⟩ := id hJ.s
  exact ⟨HQx_of hx, hgd, hc, ⟨GV_AGR h4 h1, GW_AGR h4 h2⟩, fun laws c a hc' h => PM_of hm hJ.2.1.1 hgd c laws a hc' h, hJ.1.2.2.2.1⟩
theorem RX_j {cy : Nat → ClassId} {tE : Nat} {S : KS} {M : GS} (hJ : JI cy tE S M) {nv : List OL} {cu : List CuT} {ac : Nat → Option AcT} (hm : MIx M nv cu ac) (hgd : GdL nv cu ac) : RX M nv cu ac (cz (ar S.1 1)) := by
  obtain ⟨g, h1, h2, h3, h4, h5⟩ := id hJ.s
  refine ⟨hm, hgd, fun laws c a hc' h => PM_of hm hJ.2.1.1 hgd c laws a hc' h, hJ.2.1.2.1, hJ.2.1.2.2, GJ_cz (GV_AGR h4 h1) (GW_AGR h4 h2), ?_⟩
  rw [h5, cz_AGR h4]
  exact (pkI_cg (EQV_cz g)).symm
theorem RQ_ss {M M' : GS} (h : RQ M M') : SS M M' := ⟨h.1.wk (by decide), fun _ => h.2.2, h.2.1⟩
theorem JQ_s {cy : Nat → ClassId} {tE : Nat} {S : KS} {M : GS} (hJ : JI cy tE S M) {S' : KS} {M' : GS} {nv : List OL} {cu : List CuT} {ac : Nat → Option AcT} (hx : KIx cy tE S nv cu ac) (hm : MIx M nv cu ac) (hgd : GdL nv cu ac) (hQ : CQ S S' cu ac) (hR : SS M M') : JQ cy tE S S' M' :=
  JI_q hJ hQ.1 hQ.2.2.2.1 hR (JE_w hJ.e hx hm hgd hQ.1 (hQ.1.1.2.2.1 0 (by decide)) hR.1 (by decide) (by decide) (by decide) hQ.2.2.1)
theorem j_hole {cy : Nat → ClassId} {tE : Nat} {S : KS} {M : GS} (hJ : JI cy tE S M) (n l d s x : Int32) : w_X11_hole cy tE S n l d s x (fun _ S' => w_X12_hole M n l d s x (fun _ M' => JQ cy tE S S' M')) := by
  obtain ⟨-, -, -, -, nv, cu, ac, hx, hm, hgd, hc⟩ := id hJ.e
  exact r_11_holeJ cy tE S n l d s x _ nv cu ac (CX_j hJ hx hm hgd hc) (fun _ S' hQ => q_hole M n l d s x _ hJ.2.1.1 hJ.2.1.2.1 (fun _ M' hM => JQ_s hJ hx hm hgd hQ hM))
theorem j_gain {cy : Nat → ClassId} {tE : Nat} {S : KS} {M : GS} (hJ : JI cy tE S M) (p l d x : Int32) : w_X11_gain cy tE S p l d x (fun _ S' => w_X12_gain M p l d x (fun _ M' => JQ cy tE S S' M')) := by
  obtain ⟨-, -, -, -, nv, cu, ac, hx, hm, hgd, hc⟩ := id hJ.e
  exact r_11_gainJ cy tE S p l d x _ nv cu ac (CX_j hJ hx hm hgd hc) (fun _ S' hQ => q_gain M p l d x _ hJ.2.1.1 hJ.2.1.2.1 (fun _ M' hM => JQ_s hJ hx hm hgd hQ hM))
theorem j_met {cy : Nat → ClassId} {tE : Nat} {S : KS} {M : GS} (hJ : JI cy tE S M) (l d z : Int32) : w_X11_met cy tE S l d z (fun r S' => w_X12_met M l d z (fun r2 M' => JP cy tE S r S' r2 M')) := by
  obtain ⟨-, -, -, -, nv, cu, ac, hx, hm, hgd, hc⟩ := id hJ.e
  have hR := RX_j hJ hm hgd
  refine r_11_metE cy tE S l d z _ nv cu ac (CX_j hJ hx hm hgd hc) (fun c => ?_) (fun S' c hQ hG => ?_)
  · exact q_metE M l d z _ nv cu ac _ hR (fun _ => ⟨rfl, hJ, by omega⟩) (fun M' c2 => absurd c2 c)
  · exact q_metE M l d z _ nv cu ac _ hR (fun c2 => absurd c c2) (fun M' _ hS => ⟨me_eq hG, JQ_s hJ hx hm hgd hQ hS⟩)
theorem j_friends {cy : Nat → ClassId} {tE : Nat} {S : KS} {M : GS} (hJ : JI cy tE S M) (n l d : Int32) : w_X11_friends cy tE S n l d (fun r S' => w_X12_friends M n l d (fun r2 M' => JP cy tE S r S' r2 M')) := by
  obtain ⟨-, -, -, -, nv, cu, ac, hx, hm, hgd, hc⟩ := id hJ.e
  have hR := RX_j hJ hm hgd
  refine r_11_friendsE cy tE S n l d _ nv cu ac (CX_j hJ hx hm hgd hc) (fun c => ?_) (fun ln o S' c hln hQ hL => ?_)
  · exact q_friendsE M n l d _ nv cu ac _ hR (fun _ => ⟨rfl, hJ, by omega⟩) (fun ln o M' c2 => absurd c2 c)
  · refine q_friendsE M n l d _ nv cu ac _ hR (fun c2 => absurd c c2) (fun ln2 o2 M' c2 hln2 hR2 hL2 => ⟨?_, JQ_s hJ hx hm hgd hQ (RQ_ss hR2)⟩)
    obtain rfl : ln = ln2 := Option.some.inj (hln.symm.trans hln2)
    rw [LXf_u hL2 hL]
theorem j_only {cy : Nat → ClassId} {tE : Nat} {S : KS} {M : GS} (hJ : JI cy tE S M) (n d : Int32) : w_X11_only cy tE S n d (fun r S' => w_X12_only M n d (fun r2 M' => JP cy tE S r S' r2 M')) := by
  obtain ⟨-, -, -, -, nv, cu, ac, hx, hm, hgd, hc⟩ := id hJ.e
  have hR := RX_j hJ hm hgd
  refine r_11_onlyE cy tE S n d _ nv cu ac (CX_j hJ hx hm hgd hc) (fun c => ?_) (fun ln S' c hln hQ => ?_)
  · exact q_onlyE M n d _ nv cu ac _ hR (fun _ => ⟨rfl, hJ, by omega⟩) (fun ln M' c2 => absurd c2 c)
  · refine q_onlyE M n d _ nv cu ac _ hR (fun c2 => absurd c c2) (fun ln2 M' c2 hln2 hR2 => ⟨?_, JQ_s hJ hx hm hgd hQ (RQ_ss hR2)⟩)
    obtain rfl : ln = ln2 := Option.some.inj (hln.symm.trans hln2)
    rfl
/-- the rows on both sides -/
def hnJ (S : KS) (r : Nat) : Bool := decide ((fi S.1 (2 + 2 * r)).toInt ≠ 0)
def csJ (S : KS) (M : GS) (r : Nat) : List Int32 := csO (ar S.1 (6 + r)) (ar M 38 r).toInt.toNat
theorem J_rw {cy : Nat → ClassId} {tE : Nat} {S : KS} {M : GS} (hJ : JI cy tE S M) : RWx S (hnJ S) (csJ S M) ∧ RWm M (hnJ S) (csJ S M) := by
  obtain ⟨hK, ⟨m1, m2, m3⟩, t0, h1, h2, h3, ⟨h4, h5, h6⟩, -⟩ := id hJ
  have b37 := m1.2.2.2.2.2.2.2.2.1
  have en : ∀ r, r < 6 → ar M 38 r = nI (csJ S M r).length ∧ (csJ S M r).length ≤ 12 := by
    intro r hr
    have b38 := m1.2.2.2.2.2.2.2.1 r hr
    unfold csJ
    rw [csO_l]
    exact ⟨i_eq (by rw [nI_toInt (by omega)]; omega), by omega⟩
  refine ⟨fun r hr => ⟨?_, (h1 r hr).trans (en r hr).1, (en r hr).2, fun t c hc => ?_⟩, fun r hr => ⟨?_, (en r hr).1, (en r hr).2, fun t c hc => ?_⟩⟩
  · unfold hnJ
    exact decide_eq_true_iff
  · have b38 := m1.2.2.2.2.2.2.2.1 r hr
    obtain ⟨g1, g2⟩ := csO_g hc
    have q := h4 r hr t (by omega)
    refine ⟨g2, ?_⟩
    rw [← g2, q]
    exact b37 _ (by omega)
  · unfold hnJ
    rw [h2 r hr]
    exact decide_eq_true_iff
  · have b38 := m1.2.2.2.2.2.2.2.1 r hr
    obtain ⟨g1, g2⟩ := csO_g hc
    have q := h4 r hr t (by omega)
    rw [g2] at q
    refine ⟨q.symm, ?_⟩
    rw [q]
    exact b37 _ (by omega)
theorem j_stop {cy : Nat → ClassId} {tE : Nat} {S : KS} {M : GS} (hJ : JI cy tE S M) (n d x : Int32) : w_X11_stop cy tE S n d x (fun r S' => w_X12_stop M n d x (fun r2 M' => JP cy tE S r S' r2 M')) := by
  obtain ⟨-, -, -, -, nv, cu, ac, hx, hm, hgd, hc⟩ := id hJ.e
  have hR := RX_j hJ hm hgd
  obtain ⟨w1, w2⟩ := J_rw hJ
  obtain ⟨g, h1, h2, h3, h4, h5⟩ := id hJ.s
  have hpk : pkI g = pkI (cz (ar S.1 1)) := by
    rw [cz_AGR h4]
    exact (pkI_cg (EQV_cz g)).symm
  refine r_11_stopE cy tE S n d x _ nv cu ac g (hnJ S) (csJ S M) (CX_j hJ hx hm hgd hc) hm.2.1.2.1 w1 h4 (fun c => ?_) (fun ln o S' c hln hQ hL => ?_)
  · exact q_stopE M n d x _ nv cu ac _ g (hnJ S) (csJ S M) hR w2 h1 h2 h3 hpk (fun _ => ⟨rfl, hJ, by omega⟩) (fun ln o M' c2 => absurd c2 c)
  · refine q_stopE M n d x _ nv cu ac _ g (hnJ S) (csJ S M) hR w2 h1 h2 h3 hpk (fun c2 => absurd c c2) (fun ln2 o2 M' c2 hln2 hR2 hL2 => ⟨?_, JQ_s hJ hx hm hgd hQ (RQ_ss hR2)⟩)
    obtain rfl : ln = ln2 := Option.some.inj (hln.symm.trans hln2)
    rw [LXf_u hL2 hL]
theorem j_fault {cy : Nat → ClassId} {tE : Nat} {S : KS} {M : GS} (hJ : JI cy tE S M) (x : Int32) : w_X11_fault cy tE S x (fun r S' => w_X12_fault M x (fun r2 M' => JP cy tE S r S' r2 M')) := by
  obtain ⟨-, -, ⟨h8, h13⟩, -⟩ := hJ.e
  refine ⟨fun g => ⟨fun g1 => ⟨fun _ => ⟨fun _ => ⟨rfl, hJ, by omega⟩, fun q => absurd q g1⟩, fun q => absurd q g⟩, fun g1 => ⟨fun _ => ⟨fun q => absurd g1 q, fun _ => ⟨h13.symm, hJ, by omega⟩⟩, fun q => absurd q g⟩⟩, fun g => ⟨fun q => absurd g q, fun _ => ⟨h8.symm, hJ, by omega⟩⟩⟩
/-- what act tells of an ACT -/
def aoV (y : Int32) (a : AcT) : Int32 := if y.toInt = 0 then (if a.2.1.toInt = 0 then 0 else 1) else if y.toInt = 1 then (if a.2.2.1.toInt = 0 then 0 else 1) else if y.toInt = 2 then nI a.2.2.2.1.length else if y.toInt = 3 then nI a.2.2.2.2.length else (-1)
def aoR (ac : Nat → Option AcT) (x y : Int32) : Int32 := if 0 ≤ x.toInt ∧ x.toInt ≤ 11 then (match ac x.toInt.toNat with | none => (-1) | some a => aoV y a) else (-1)
theorem aoR_n {ac : Nat → Option AcT} {x y : Int32} (h : ¬ (0 ≤ x.toInt ∧ x.toInt ≤ 11)) : aoR ac x y = (-1) := if_neg h
theorem aoR_0 {ac : Nat → Option AcT} {x y : Int32} (h : ac x.toInt.toNat = none) : aoR ac x y = (-1) := by
  unfold aoR
  by_cases g : 0 ≤ x.toInt ∧ x.toInt ≤ 11
  · rw [if_pos g, h]
  · rw [if_neg g]
theorem aoR_1 {ac : Nat → Option AcT} {x y : Int32} {a : AcT} (h : 0 ≤ x.toInt ∧ x.toInt ≤ 11) (g : ac x.toInt.toNat = some a) : aoR ac x y = aoV y a := by
  unfold aoR
  rw [if_pos h, g]
theorem aoV_0 {y : Int32} {a : AcT} {v : Int32} (h : y.toInt = 0) (h0 : a.2.1.toInt = 0 → v = 0) (h1 : a.2.1.toInt ≠ 0 → v = 1) : aoV y a = v := by
  unfold aoV
  rw [if_pos h]
  by_cases g : a.2.1.toInt = 0
  · rw [if_pos g]; exact (h0 g).symm
  · rw [if_neg g]; exact (h1 g).symm
theorem aoV_1 {y : Int32} {a : AcT} {v : Int32} (h : y.toInt = 1) (h0 : a.2.2.1.toInt = 0 → v = 0) (h1 : a.2.2.1.toInt ≠ 0 → v = 1) : aoV y a = v := by
  unfold aoV
  rw [if_neg (by omega), if_pos h]
  by_cases g : a.2.2.1.toInt = 0
  · rw [if_pos g]; exact (h0 g).symm
  · rw [if_neg g]; exact (h1 g).symm
theorem aoV_2 {y : Int32} {a : AcT} (h : y.toInt = 2) : aoV y a = nI a.2.2.2.1.length := by
  unfold aoV
  rw [if_neg (by omega), if_neg (by omega), if_pos h]
theorem aoV_3 {y : Int32} {a : AcT} (h : y.toInt = 3) : aoV y a = nI a.2.2.2.2.length := by
  unfold aoV
  rw [if_neg (by omega), if_neg (by omega), if_neg (by omega), if_pos h]
theorem aoV_4 {y : Int32} {a : AcT} (h : y.toInt ≠ 0 ∧ y.toInt ≠ 1 ∧ y.toInt ≠ 2 ∧ y.toInt ≠ 3) : aoV y a = (-1) := by
  unfold aoV
  rw [if_neg h.1, if_neg h.2.1, if_neg h.2.2.1, if_neg h.2.2.2]
set_option maxHeartbeats 400000 in
theorem r_11_actE (cy : Nat → ClassId) (tE : Nat) (S : KS) (x y : Int32) (post : Int32 → KS → Prop) (nv : List OL) (cu : List CuT) (ac : Nat → Option AcT) (hx : KIx cy tE S nv cu ac) (k : post (aoR ac x y) S) : w_X11_act cy tE S x y post := by
  obtain ⟨A, i0, i1, i2, o0, o1, o2, n0, n1, n2, f0, f1, f2, -, -, -, hA⟩ := hx
  unfold w_X11_act w_X11_act_B60 w_X11_act_B73 w_X4_actAt w_X4_actAt_B22 w_X4_actAt_B23
  have no : ¬ (0 ≤ x.toInt ∧ x.toInt ≤ 11) → post (-1) S := fun g => by rw [aoR_n g] at k; exact k
  refine ⟨fun g => ⟨fun _ => no (by omega), fun q h => (by cases h)⟩, fun g => ⟨fun g2 => ⟨fun _ => no (by omega), fun q h => (by cases h)⟩, fun g2 => ⟨⟨g, g2⟩, fun hq => ?_, fun q hq => ?_⟩⟩⟩
  · rcases hA x.toInt.toNat (by omega) with ⟨h1, h2⟩ | ⟨q, a, h1, h2, h3⟩
    · rw [aoR_0 h2] at k; exact k
    · have hq2 : S.2.2.1 x.toInt.toNat = none := hq
      rw [h1] at hq2; cases hq2
  · rcases hA x.toInt.toNat (by omega) with ⟨h1, h2⟩ | ⟨q', a, h1, h2, h3⟩
    · have hq2 : S.2.2.1 x.toInt.toNat = some q := hq
      rw [h1] at hq2; cases hq2
    · have hq2 : S.2.2.1 x.toInt.toNat = some q := hq
      rw [h1] at hq2
      obtain rfl : q' = q := Option.some.inj hq2
      rw [aoR_1 ⟨g, by omega⟩ h2] at k
      obtain ⟨i, nd, mk, ai, hi, ⟨j2, m2, e2, n2', -, hc2, hn2, b2, -⟩, ⟨j3, m3, e3, n3', -, hc3, hn3, b3, -⟩⟩ := h3
      have l2 : n2' = nI a.2.2.2.1.length := i_eq (by rw [hn2, nI_toInt (by omega)])
      have l3 : n3' = nI a.2.2.2.2.length := i_eq (by rw [hn3, nI_toInt (by omega)])
      exact ⟨fun g0 => ⟨i, _, .ref nd, .ref mk, _, _, hi, fun z => by rw [aoV_0 g0 (fun _ => rfl) (fun q => absurd z q)] at k; exact k, fun z => by rw [aoV_0 g0 (fun q => absurd q z) (fun _ => rfl)] at k; exact k⟩, fun g0 => ⟨i, _, .ref nd, .ref mk, _, _, hi, fun z => by rw [aoV_1 g0 (fun _ => rfl) (fun q => absurd z q)] at k; exact k, fun z => by rw [aoV_1 g0 (fun q => absurd q z) (fun _ => rfl)] at k; exact k⟩, fun g0 => ⟨i, _, nd, .ref mk, _, _, hi, j2, _, hc2, r_size cy tE S nd j2 m2 n2' (.ref e2) _ hc2 (by rw [aoV_2 g0, ← l2] at k; exact k)⟩, fun g0 => ⟨i, _, .ref nd, mk, _, _, hi, j3, _, hc3, r_size cy tE S mk j3 m3 n3' (.ref e3) _ hc3 (by rw [aoV_3 g0, ← l3] at k; exact k)⟩, fun g0 => by rw [aoV_4 g0] at k; exact k⟩
set_option maxHeartbeats 400000 in
theorem q_actE (S : GS) (x y : Int32) (post : Int32 → GS → Prop) (nv : List OL) (cu : List CuT) (ac : Nat → Option AcT) (hm : MIx S nv cu ac) (k : post (aoR ac x y) S) : w_X12_act S x y post := by
  obtain ⟨-, -, hA⟩ := hm
  unfold w_X12_act w_X12_act_B54 w_X12_act_B69
  have e6 : (x.toInt.toNat / 6 : Nat) = (x.toInt / 6).toNat := by omega
  refine q_isAct _ _ _ (fun r _ hb => ⟨fun g => ?_, fun g => ?_⟩)
  · have hx : 0 ≤ x.toInt ∧ x.toInt ≤ 11 := by omega
    rcases hA x.toInt.toNat (by omega) with ⟨h1, h2⟩ | ⟨a, h1, h2, ⟨p1, p2, p3, p4⟩, ⟨p5, -⟩, p6, -⟩
    · exfalso
      rw [e6] at h2
      omega
    · rw [aoR_1 hx h1] at k
      rw [tnc, p1, p2]
      have l2 : ar S 8 x.toInt.toNat = nI a.2.2.2.1.length := i_eq (by rw [p5, nI_toInt (by omega)])
      have l3 : ar S 9 x.toInt.toNat = nI a.2.2.2.2.length := i_eq (by rw [p6, nI_toInt (by omega)])
      exact ⟨fun g0 => ⟨by omega, fun z => by rw [aoV_0 g0 (fun _ => rfl) (fun q => absurd z q)] at k; exact k, fun z => by rw [aoV_0 g0 (fun q => absurd q z) (fun _ => rfl)] at k; exact k⟩, fun g0 => ⟨by omega, fun z => by rw [aoV_1 g0 (fun _ => rfl) (fun q => absurd z q)] at k; exact k, fun z => by rw [aoV_1 g0 (fun q => absurd q z) (fun _ => rfl)] at k; exact k⟩, fun g0 => ⟨by omega, by rw [l2, ← aoV_2 g0]; exact k⟩, fun g0 => ⟨by omega, by rw [l3, ← aoV_3 g0]; exact k⟩, fun g0 => by rw [aoV_4 g0] at k; exact k⟩
  · by_cases hx : 0 ≤ x.toInt ∧ x.toInt ≤ 11
    · rcases hA x.toInt.toNat (by omega) with ⟨h1, h2⟩ | ⟨a, h1, h2, -⟩
      · rw [aoR_0 h1] at k; exact k
      · exfalso
        rw [e6] at h2
        omega
    · rw [aoR_n hx] at k; exact k
theorem j_act {cy : Nat → ClassId} {tE : Nat} {S : KS} {M : GS} (hJ : JI cy tE S M) (x y : Int32) : w_X11_act cy tE S x y (fun r S' => w_X12_act M x y (fun r2 M' => JP cy tE S r S' r2 M')) := by
  obtain ⟨-, -, -, -, nv, cu, ac, hx, hm, -⟩ := hJ.e
  exact r_11_actE cy tE S x y _ nv cu ac hx (q_actE M x y _ nv cu ac hm ⟨rfl, hJ, by omega⟩)
theorem j_through {cy : Nat → ClassId} {tE : Nat} {S : KS} {M : GS} (hJ : JI cy tE S M) (r x : Int32) : w_X11_through cy tE S r x (fun r1 S' => w_X12_through M r x (fun r2 M' => JP cy tE S r1 S' r2 M')) := by
  obtain ⟨hK, ⟨m1, m2, m3⟩, t0, h1, h2, h3, ⟨h4, h5, h6⟩, -⟩ := id hJ
  have b38 := m1.2.2.2.2.2.2.2.1
  have b25 := m1.2.2.2.2.2.2.2.2.2.2
  have tI : (fi S.1 13).toInt = (fi M 25).toInt := by rw [h3]
  refine r_11_throughX cy tE S r x _ (by omega) (fun j hj => by rw [h1 j hj]; exact b38 j hj) (fun g => q_throughX M r x _ m1 h6 (fun _ => ⟨rfl, hJ, by omega⟩) (fun g2 => ?_)) (fun g => q_throughX M r x _ m1 h6 (fun g2 => ?_) (fun _ => ⟨?_, hJ, by omega⟩))
  · exfalso
    have e := h1 r.toNatClampNeg (by rw [tnc]; omega)
    rw [e] at g
    exact g g2
  · exfalso
    have e := h1 r.toNatClampNeg (by rw [tnc]; omega)
    rw [e] at g
    exact g2 g
  · have hr : r.toNatClampNeg < 6 := by rw [tnc]; omega
    have e := h1 r.toNatClampNeg hr
    have b := b38 r.toNatClampNeg hr
    have g1 := g.2.1
    rw [e] at g1
    generalize r.toNatClampNeg = n at *
    have eE : ∀ i, eM M n i = eK S n i := by
      intro i
      unfold eM eK
      rw [e, h3]
      refine endF_cg (n := (fi M 25).toInt.toNat) (fun q hq => (h5 q (by omega)).symm) (fun q hq => ?_) _ _ _ (by omega) (by omega)
      show rcI _ _ _ = rcI _ _ _
      rw [h4 n hr q hq]
    unfold thA
    rw [thF_cg 36 (fun j _ => eE j)]
theorem J_tape {cy : Nat → ClassId} {tE : Nat} {S : KS} {M : GS} (hJ : JI cy tE S M) : (∀ i, i < (fi S.1 0).toInt.toNat → 0 ≤ (ar S.1 0 i).toInt ∧ (ar S.1 0 i).toInt ≤ 255) ∧ TPa (ar S.1 0) (fi S.1 0).toInt.toNat M := by
  obtain ⟨-, hb, -⟩ := hJ.e
  have b0 := hJ.1.2.2.1
  have t0 : (fi S.1 0).toInt = (fi M 1).toInt := by rw [hJ.2.2.1]
  exact ⟨fun i hi => (hb i (by omega)).2, by omega, by omega, fun i hi => ⟨(hb i (by omega)).1.symm, (hb i (by omega)).2⟩⟩
theorem j_never {cy : Nat → ClassId} {tE : Nat} {S : KS} {M : GS} (hJ : JI cy tE S M) : w_X11_never cy tE 259 (7 * (164 + 11 * (fi S.1 0).toInt.toNat)) S (fun r S' => w_X12_never M (fun r2 M' => JR cy tE r S' r2 M')) := by
  obtain ⟨hb, hT⟩ := J_tape hJ
  obtain ⟨hw, -, -, hB, nv, cu, ac, hx, hm, hgd, hc⟩ := hJ.e
  exact r_11_neverE cy tE _ _ S _ nv cu ac hJ.1 hx hw hb ⟨by omega, by omega⟩ (fun U Y Z hK hF e0 hS y1 y2 y3 hx2 u19 u20 u32 => q_neverE M _ Z Y nv cu ac hS y3 (by rw [y1, y2]; exact hT) hB hm hJ.2.1.1 (fun M' g hM t1 hB2 hm2 m8 m13 => ⟨rfl, JI_t hJ hK hF e0 g hM t1 (JE_t hJ.e hF t1 (u19.trans m8.symm) (u20.trans m13.symm) hB2 hx2 hm2 (by
      have v := STm_v hS (fun i hi => by rw [y1]; exact hb i (by rw [y2] at hi; exact hi))
      exact gd_nv v.1 v.2 y3 hgd) (CJx_t hc hF (Or.inr ⟨u32, rfl, rfl⟩))) (JS_kf hJ.s (hF.2.2.1 1 (by decide)) (g.2.1 0 (by decide)))⟩))
theorem j_cure {cy : Nat → ClassId} {tE : Nat} {S : KS} {M : GS} (hJ : JI cy tE S M) (x : Int32) : w_X11_cure cy tE 259 (7 * (164 + 11 * (fi S.1 0).toInt.toNat)) S x (fun r S' => w_X12_cure M x (fun r2 M' => JR cy tE r S' r2 M')) := by
  obtain ⟨hb, hT⟩ := J_tape hJ
  obtain ⟨hw, -, -, hB, nv, cu, ac, hx, hm, hgd, hc⟩ := hJ.e
  exact r_11_cureE cy tE _ _ S x _ nv cu ac hJ.1 hx hw hb ⟨by omega, by omega⟩ (fun U Y Z hK hF e0 hS y1 y2 y3 hx2 u19 u20 u32 => q_cureE M x _ Z Y nv cu ac hS y3 (by rw [y1, y2]; exact hT) hB hm hJ.2.1.1 (fun M' g hM t1 hB2 hm2 m8 m13 => ⟨rfl, JI_t hJ hK hF e0 g hM t1 (JE_t hJ.e hF t1 (u19.trans m8.symm) (u20.trans m13.symm) hB2 hx2 hm2 (by
      have v := STm_v hS (fun i hi => by rw [y1]; exact hb i (by rw [y2] at hi; exact hi))
      exact gd_cu v.1 v.2 y3 hgd) (CJx_t hc hF (u32.imp id (fun q => ⟨q.1, q.2, rfl⟩)))) (JS_kf hJ.s (hF.2.2.1 1 (by decide)) (g.2.1 0 (by decide)))⟩))
theorem j_statute {cy : Nat → ClassId} {tE : Nat} {S : KS} {M : GS} (hJ : JI cy tE S M) (x : Int32) : w_X11_statute cy tE 259 (7 * (164 + 11 * (fi S.1 0).toInt.toNat)) S x (fun r S' => w_X12_statute M x (fun r2 M' => JR cy tE r S' r2 M')) := by
  obtain ⟨hb, hT⟩ := J_tape hJ
  obtain ⟨hw, -, -, hB, nv, cu, ac, hx, hm, hgd, hc⟩ := hJ.e
  exact r_11_statuteE cy tE _ _ S x _ nv cu ac hJ.1 hx hw hb ⟨by omega, Nat.le_refl _⟩ (fun U Y Z hK hF e0 hS y1 y2 y3 hx2 u19 u20 u32 => q_statuteE M x _ Z Y nv cu ac hS y3 (by rw [y1, y2]; exact hT) hB hm hJ.2.1.1 (fun M' g hM t1 hB2 hm2 m8 m13 => ⟨rfl, JI_t hJ hK hF e0 g hM t1 (JE_t hJ.e hF t1 (u19.trans m8.symm) (u20.trans m13.symm) hB2 hx2 hm2 (by
      have v := STm_v hS (fun i hi => by rw [y1]; exact hb i (by rw [y2] at hi; exact hi))
      exact gd_sta v.1 v.2 y3 hgd) (CJx_t hc hF (u32.imp id (fun q => ⟨q.1, rfl, q.2⟩)))) (JS_kf hJ.s (hF.2.2.1 1 (by decide)) (g.2.1 0 (by decide)))⟩))
theorem r_11_feedE (cy : Nat → ClassId) (tE : Nat) (S : KS) (a b c d e : Int32) (post : Int32 → KS → Prop) (h0 : 0 ≤ (fi S.1 0).toInt ∧ (fi S.1 0).toInt ≤ 700) (k0 : 680 < (fi S.1 0).toInt → post (-1) S) (k1 : (fi S.1 0).toInt ≤ 680 → ∀ S', FK S S' a b c d e → post (fi S'.1 0) S') : w_X11_feed cy tE S a b c d e post := by
  unfold w_X11_feed
  have e20 : (fi S.1 0 + 20).toInt = (fi S.1 0).toInt + 20 := by
    rw [ad_ab (by rw [li_20]; omega) (by rw [li_20]; omega), li_20]
  rw [e20]
  clear e20
  refine ⟨fun g => ?_, fun g => k0 (by omega)⟩
  refine r_11_feedFourE _ _ _ _ _ (by omega) (fun S1 h1 => ?_)
  have c1 := h1.2.1
  refine r_11_feedFourE _ _ _ _ _ (by omega) (fun S2 h2 => ?_)
  have c2 := h2.2.1
  refine r_11_feedFourE _ _ _ _ _ (by omega) (fun S3 h3 => ?_)
  have c3 := h3.2.1
  refine r_11_feedFourE _ _ _ _ _ (by omega) (fun S4 h4 => ?_)
  have c4 := h4.2.1
  exact r_11_feedFourE _ _ _ _ _ (by omega) (fun S5 h5 => k1 (by omega) _ (FB_5 h0.1 h1 h2 h3 h4 h5))
theorem j_feed {cy : Nat → ClassId} {tE : Nat} {S : KS} {M : GS} (hJ : JI cy tE S M) (a b c d e : Int32) : w_X11_feed cy tE S a b c d e (fun r S' => w_X12_feed M a b c d e (fun r2 M' => JP cy tE S r S' r2 M')) := by
  obtain ⟨hK, ⟨m1, m2, m3⟩, t0, -⟩ := id hJ
  have tI : (fi S.1 0).toInt = (fi M 1).toInt := by rw [t0]
  refine r_11_feedE cy tE S a b c d e _ hK.2.2.1 (fun g => q_feedE M a b c d e _ m1.1 (fun _ => ⟨rfl, hJ, by omega⟩) (fun g2 => by exfalso; omega)) (fun g S' hFK => q_feedE M a b c d e _ m1.1 (fun g2 => by exfalso; omega) (fun _ M' hM eM oM nM => ?_))
  obtain ⟨hF, eF, oF, nF⟩ := hFK
  have hE' : JE cy tE S' M' := by
    obtain ⟨hw, hb, ⟨h8, h13⟩, hB, nv, cu, ac, hx, hm, hgd, hc⟩ := hJ.e
    have s19 : fi S'.1 19 = fi S.1 19 := hF.1.1 19 (by decide)
    have s20 : fi S'.1 20 = fi S.1 20 := hF.1.1 20 (by decide)
    have m8 : fi M' 8 = fi M 8 := hM.1 8 (by decide)
    have m13 : fi M' 13 = fi M 13 := hM.1 13 (by decide)
    refine ⟨(hF.1.2.2.2 0 (by decide)).trans hw, fun i hi => ?_, ⟨s19.trans (h8.trans m8.symm), s20.trans (h13.trans m13.symm)⟩, BF_fr hB hM (by decide), nv, cu, ac, KIx_kf hx hF, MIx_fr hm hM (by decide) (by decide), hgd, CJx_kf hc hF (by decide) (by decide) (by decide)⟩
    by_cases g1 : (i : Int) < (fi M 1).toInt
    · rw [oF i (by omega), oM i g1]; exact hb i g1
    · have b0 := hK.2.2.1
      have ej : (fi S.1 0).toInt.toNat = (fi M 1).toInt.toNat := by omega
      obtain ⟨q, hq, ei⟩ : ∃ q, q < 20 ∧ i = (fi S.1 0).toInt.toNat + q := ⟨i - (fi S.1 0).toInt.toNat, by omega, by omega⟩
      have n1 := nF q hq
      have n2 := nM q hq
      rw [← ej] at n2
      rw [ei, n1, n2]
      exact ⟨rfl, byM_b _ _⟩
  have eq : fi M' 1 = fi S'.1 0 := Int32.toInt_inj.mp (by omega)
  have b0 := hK.2.2.1
  refine ⟨eq, JI_mk hJ (KI_kf hK hF (by decide) (SQ_kf hK.2.2.2.1 hF (by decide)) (by omega)) ⟨KInv_rw m1 (hM.wk (by decide)) (by omega) ?_ ?_ ?_, SInv_g m2 hM (by decide) (by decide), BR.fr hM (by decide) (by decide) m3⟩ eq.symm (kf_14 hF.1 (by decide)) (hM.2.2.1 38 (by decide)) (hM.2.2.1 39 (by decide)) (hM.1 25 (by decide)) (kf_612 hF.1 (by decide)) (hM.2.2.1 37 (by decide)) (hM.2.2.1 40 (by decide)) (hM.2.2.1 31 (by decide)) hE' (JS_kf hJ.s (hF.1.2.2.1 1 (by decide)) (hM.2.1 0 (by decide))), by unfold tp; omega⟩
  · have e38 : ar M' 38 = ar M 38 := hM.2.2.1 38 (by decide)
    rw [e38]; exact m1.2.2.2.2.2.2.2.1
  · have e37 : ar M' 37 = ar M 37 := hM.2.2.1 37 (by decide)
    rw [e37]; exact m1.2.2.2.2.2.2.2.2.1
  · have e25 : fi M' 25 = fi M 25 := hM.1 25 (by decide)
    rw [e25]; exact m1.2.2.2.2.2.2.2.2.2.2
theorem j_end {cy : Nat → ClassId} {tE : Nat} {S : KS} {M : GS} (hJ : JI cy tE S M) (n : Int32) : w_X11_end cy tE S n (fun r S' => w_X12_end M n (fun r2 M' => JP cy tE S r S' r2 M')) := by
  obtain ⟨hK, ⟨m1, m2, m3⟩, t0, -⟩ := id hJ
  have tI : (fi S.1 0).toInt = (fi M 1).toInt := by rw [t0]
  refine r_11_end cy tE S n _ (fun g => q_end M n _ (fun g2 => by exfalso; omega) (fun _ => ?_)) (fun g => q_end M n _ (fun _ => ⟨rfl, hJ, by omega⟩) (fun g2 => by exfalso; omega))
  have hF : KF [0] [] [] S (ksi S 0 n) := KF_si (by decide) (KF_rf S)
  have hM : Fr [1] [] [] [] M (si M 1 n) := Fr.si (by decide) Fr.rf
  have eS : fi (ksi S 0 n).1 0 = n := si_at _ _ _
  have eM : fi (si M 1 n) 1 = n := si_at _ _ _
  have b0 := hK.2.2.1
  have hE' : JE cy tE (ksi S 0 n) (si M 1 n) := by
    obtain ⟨hw, hb, ⟨h8, h13⟩, hB, nv, cu, ac, hx, hm, hgd, hc⟩ := hJ.e
    have s19 : fi (ksi S 0 n).1 19 = fi S.1 19 := hF.1.1 19 (by decide)
    have s20 : fi (ksi S 0 n).1 20 = fi S.1 20 := hF.1.1 20 (by decide)
    have m8 : fi (si M 1 n) 8 = fi M 8 := hM.1 8 (by decide)
    have m13 : fi (si M 1 n) 13 = fi M 13 := hM.1 13 (by decide)
    refine ⟨(hF.1.2.2.2 0 (by decide)).trans hw, fun i hi => ?_, ⟨s19.trans (h8.trans m8.symm), s20.trans (h13.trans m13.symm)⟩, BF_fr hB hM (by decide), nv, cu, ac, KIx_kf hx hF, MIx_fr hm hM (by decide) (by decide), hgd, CJx_kf hc hF (by decide) (by decide) (by decide)⟩
    rw [eM] at hi
    exact hb i (by omega)
  refine ⟨rfl, JI_mk hJ (KI_kf hK hF (by decide) (SQ_kf hK.2.2.2.1 hF (by decide)) (by rw [eS]; omega)) ⟨KInv_rw m1 (hM.wk (by decide)) (by rw [eM]; omega) m1.2.2.2.2.2.2.2.1 m1.2.2.2.2.2.2.2.2.1 ?_, SInv_g m2 hM (by decide) (by decide), m3⟩ (eS.trans eM.symm) (kf_14 hF.1 (by decide)) rfl rfl (hM.1 25 (by decide)) (kf_612 hF.1 (by decide)) rfl rfl rfl hE' (JS_kf hJ.s (hF.1.2.2.1 1 (by decide)) rfl), by unfold tp; rw [eS]; omega⟩
  have e25 : fi (si M 1 n) 25 = fi M 25 := hM.1 25 (by decide)
  rw [e25]; exact m1.2.2.2.2.2.2.2.2.2.2
