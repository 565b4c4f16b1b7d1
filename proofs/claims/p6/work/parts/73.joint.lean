/-- class and reference between two calls -/
def JI (cy : Nat → ClassId) (tE : Nat) (S : KS) (M : GS) : Prop := KI cy tE S ∧ (KInv M ∧ SInv M ∧ BR M) ∧ fi S.1 0 = fi M 1 ∧ (∀ r, r < 6 → fi S.1 (1 + 2 * r) = ar M 38 r) ∧ (∀ r, r < 6 → fi S.1 (2 + 2 * r) = ar M 39 r) ∧ fi S.1 13 = fi M 25
abbrev tp (S : KS) : Int := (fi S.1 0).toInt
def JP (cy : Nat → ClassId) (tE : Nat) (S : KS) (r : Int32) (S' : KS) (r2 : Int32) (M' : GS) : Prop := r2 = r ∧ JI cy tE S' M' ∧ tp S' ≤ tp S + 20
def JQ (cy : Nat → ClassId) (tE : Nat) (S : KS) (S' : KS) (M' : GS) : Prop := JI cy tE S' M' ∧ tp S' ≤ tp S + 20
theorem KInv_rw {M M' : GS} (h : KInv M) (f : Fr [1, 25] [] [21, 37, 38, 39, 40] [] M M') (h1 : 0 ≤ (fi M' 1).toInt ∧ (fi M' 1).toInt ≤ 700) (h38 : ∀ r, r < 6 → 0 ≤ (ar M' 38 r).toInt ∧ (ar M' 38 r).toInt ≤ 12) (h37 : ∀ i, i < 72 → 0 ≤ (ar M' 37 i).toInt ∧ (ar M' 37 i).toInt ≤ 767) (h25 : 0 ≤ (fi M' 25).toInt ∧ (fi M' 25).toInt ≤ 200) : KInv M' := by
  obtain ⟨a, b, c, d, e, g, i, j, k, l, m⟩ := h
  refine ⟨h1, ?_, ?_, ?_, ?_, ?_, ?_, h38, h37, ?_, h25⟩
  · unfold ar at *
    rw [f.2.2.1 7 (by decide)]; exact b
  · unfold ActOK NeedOK MakeOK sx fi ar at *
    rw [f.2.2.1 5 (by decide), f.2.2.1 7 (by decide), f.2.2.1 8 (by decide), f.2.2.1 9 (by decide), f.2.2.1 10 (by decide), f.2.2.1 11 (by decide), f.2.2.1 12 (by decide), f.2.2.1 13 (by decide), f.2.2.1 14 (by decide), f.2.2.1 15 (by decide), f.2.2.1 16 (by decide), f.2.2.1 19 (by decide), f.2.2.1 20 (by decide)]
    exact c
  · unfold fi at *
    rw [f.1 16 (by decide)]; exact d
  · unfold TxtOK sx fi ar at *
    rw [f.1 16 (by decide), f.2.2.1 5 (by decide), f.2.2.1 6 (by decide)]; exact e
  · unfold fi at *
    rw [f.1 17 (by decide)]; exact g
  · unfold TxtOK sx fi ar at *
    rw [f.1 17 (by decide), f.2.2.1 5 (by decide), f.2.2.1 6 (by decide)]; exact i
  · unfold ar at *
    rw [f.2.2.1 31 (by decide)]; exact l
theorem SInv_g {I L A N : List Nat} {M M' : GS} (h : SInv M) (f : Fr I L A N M M') (hI : 21 ∉ I ∧ 22 ∉ I) (hA : 26 ∉ A ∧ 28 ∉ A ∧ 29 ∉ A ∧ 30 ∉ A) : SInv M' := by
  unfold SInv fi ar at *
  rw [f.1 21 hI.1, f.1 22 hI.2, f.2.2.1 26 hA.1, f.2.2.1 28 hA.2.1, f.2.2.1 29 hA.2.2.1, f.2.2.1 30 hA.2.2.2]
  exact h
theorem JI_mk {cy : Nat → ClassId} {tE : Nat} {S S' : KS} {M M' : GS} (h : JI cy tE S M) (hK : KI cy tE S') (hM : KInv M' ∧ SInv M' ∧ BR M') (e0 : fi S'.1 0 = fi M' 1) (hS : ∀ k, 1 ≤ k → k ≤ 14 → fi S'.1 k = fi S.1 k) (e38 : ar M' 38 = ar M 38) (e39 : ar M' 39 = ar M 39) (e25 : fi M' 25 = fi M 25) : JI cy tE S' M' := by
  obtain ⟨-, -, -, h1, h2, h3⟩ := h
  refine ⟨hK, hM, e0, fun r hr => ?_, fun r hr => ?_, ?_⟩
  · rw [hS _ (by omega) (by omega), e38]; exact h1 r hr
  · rw [hS _ (by omega) (by omega), e39]; exact h2 r hr
  · rw [hS _ (by omega) (by omega), e25]; exact h3
theorem kf_14 {I A N : List Nat} {S S' : KS} (f : Fr I [] A N S.1 S'.1) (h : ∀ x ∈ I, x = 0 ∨ 15 ≤ x) : ∀ k, 1 ≤ k → k ≤ 14 → fi S'.1 k = fi S.1 k := fun k h1 h2 => f.1 k (fun hk => by have := h k hk; omega)
theorem JI_set {cy : Nat → ClassId} {tE : Nat} {S S' : KS} {M M' : GS} (h : JI cy tE S M) (f : KF [32] stR [] S S') (g : ST M M') : JI cy tE S' M' ∧ tp S' ≤ tp S + 20 := by
  have e0 : fi S'.1 0 = fi S.1 0 := f.1.1 0 (by decide)
  obtain ⟨hK, ⟨m1, m2, m3⟩, t0, -⟩ := id h
  refine ⟨JI_mk h (KI_kf hK f (by decide) (SQ_kf hK.2.2.2.1 f (by decide)) (by rw [e0]; exact hK.2.2.1)) ⟨m1.fr (g.1.wk (by decide)), SInv_g m2 g.1 (by decide) (by decide), g.2 m3⟩ ?_ (kf_14 f.1 (by decide)) (g.1.2.2.1 38 (by decide)) (g.1.2.2.1 39 (by decide)) (g.1.1 25 (by decide)), by unfold tp; rw [e0]; omega⟩
  rw [e0, t0]
  exact (g.1.1 1 (by decide)).symm
theorem JI_q {cy : Nat → ClassId} {tE : Nat} {S S' : KS} {M M' : GS} (h : JI cy tE S M) (f : KQs S S') (hs : SQ S') (g : SS M M') : JQ cy tE S S' M' := by
  have e0 : fi S'.1 0 = fi S.1 0 := f.1.1 0 (by decide)
  obtain ⟨hK, ⟨m1, m2, m3⟩, t0, -⟩ := id h
  refine ⟨JI_mk h (KI_kf hK f (by decide) hs (by rw [e0]; exact hK.2.2.1)) ⟨m1.fr g.1, g.2.2, g.2.1 m3⟩ ?_ (kf_14 f.1 (by decide)) (g.1.2.2.1 38 (by decide)) (g.1.2.2.1 39 (by decide)) (g.1.1 25 (by decide)), by unfold tp; rw [e0]; omega⟩
  rw [e0, t0]
  exact (g.1.1 1 (by decide)).symm
theorem JI_t {cy : Nat → ClassId} {tE : Nat} {S S' : KS} {M M' : GS} (h : JI cy tE S M) (hK : KI cy tE S') (f : FX S S') (e0 : fi S'.1 0 = 0) (g : FT M M') (hM : KInv M') (t0 : (fi M' 1).toInt = 0) : JI cy tE S' M' ∧ fi S'.1 0 = 0 := by
  obtain ⟨-, ⟨m1, m2, m3⟩, -⟩ := id h
  refine ⟨JI_mk h hK ⟨hM, SInv_g m2 g (by decide) (by decide), BR.fr g (by decide) (by decide) m3⟩ ?_ (kf_14 f (by decide)) (g.2.2.1 38 (by decide)) (g.2.2.1 39 (by decide)) (g.1 25 (by decide)), e0⟩
  rw [e0]
  exact (Int32.toInt_inj.mp (t0.trans (by decide))).symm
theorem j_coin {cy : Nat → ClassId} {tE : Nat} {S : KS} {M : GS} (hJ : JI cy tE S M) (p v : Int32) : w_X11_coin cy tE S p v (fun r S' => w_X12_coin M p v (fun r2 M' => JP cy tE S r S' r2 M')) := by
  refine r_11_coin cy tE S p v _ (fun g S' hF => q_coin M p v _ (fun _ M' hM => ⟨rfl, JI_set hJ hF hM⟩) (fun g2 => absurd g g2)) (fun g => q_coin M p v _ (fun g2 => absurd g2 g) (fun _ => ⟨rfl, hJ, by omega⟩))
theorem j_owner {cy : Nat → ClassId} {tE : Nat} {S : KS} {M : GS} (hJ : JI cy tE S M) (p v : Int32) : w_X11_owner cy tE S p v (fun r S' => w_X12_owner M p v (fun r2 M' => JP cy tE S r S' r2 M')) := by
  refine r_11_owner cy tE S p v _ (fun g S' hF => q_owner M p v _ (fun _ M' hM => ⟨rfl, JI_set hJ hF hM⟩) (fun g2 => absurd g g2)) (fun g => q_owner M p v _ (fun g2 => absurd g2 g) (fun _ => ⟨rfl, hJ, by omega⟩))
theorem j_day {cy : Nat → ClassId} {tE : Nat} {S : KS} {M : GS} (hJ : JI cy tE S M) (v : Int32) : w_X11_day cy tE S v (fun r S' => w_X12_day M v (fun r2 M' => JP cy tE S r S' r2 M')) := by
  refine r_11_day cy tE S v _ (fun g S' hF => q_day M v _ (fun _ M' hM => ⟨rfl, JI_set hJ hF hM⟩) (fun g2 => absurd g g2)) (fun g => q_day M v _ (fun g2 => absurd g2 g) (fun _ => ⟨rfl, hJ, by omega⟩))
theorem j_debt {cy : Nat → ClassId} {tE : Nat} {S : KS} {M : GS} (hJ : JI cy tE S M) (p q v : Int32) : w_X11_debt cy tE S p q v (fun r S' => w_X12_debt M p q v (fun r2 M' => JP cy tE S r S' r2 M')) := by
  refine r_11_debt cy tE S p q v _ (fun g S' hF => q_debt M p q v _ (fun _ M' hM => ⟨rfl, JI_set hJ hF hM⟩) (fun g2 => absurd g g2)) (fun g => q_debt M p q v _ (fun g2 => absurd g2 g) (fun _ => ⟨rfl, hJ, by omega⟩))
theorem j_kin {cy : Nat → ClassId} {tE : Nat} {S : KS} {M : GS} (hJ : JI cy tE S M) (p q v z : Int32) (hz : z = 0 ∨ z = 1) : w_X11_kin cy tE S p q v z (fun r S' => w_X12_kin M p q v z (fun r2 M' => JP cy tE S r S' r2 M')) := by
  refine r_11_kin cy tE S p q v z _ (fun g S' hF => q_kin M p q v z _ hz (fun _ M' hM => ⟨rfl, JI_set hJ hF hM⟩) (fun g2 => absurd g g2)) (fun g => q_kin M p q v z _ hz (fun g2 => absurd g2 g) (fun _ => ⟨rfl, hJ, by omega⟩))
theorem j_lawful {cy : Nat → ClassId} {tE : Nat} {S : KS} {M : GS} (hJ : JI cy tE S M) (r l s x : Int32) : w_X11_lawful cy tE S r l s x (fun _ S' => w_X12_lawful M r l s x (fun _ M' => JQ cy tE S S' M')) :=
  r_11_lawful cy tE S r l s x _ (KI_HQ hJ.1) hJ.1.2.2.2.1 (fun _ S' hF hs => q_lawful M r l s x _ hJ.2.1.1 hJ.2.1.2.1 (fun _ M' hM => JI_q hJ hF hs hM))
theorem j_after {cy : Nat → ClassId} {tE : Nat} {S : KS} {M : GS} (hJ : JI cy tE S M) (r x : Int32) : w_X11_after cy tE S r x (fun _ S' => w_X12_after M r x (fun _ M' => JQ cy tE S S' M')) :=
  r_11_after cy tE S r x _ (KI_HQ hJ.1) hJ.1.2.2.2.1 (fun _ S' hF hs => q_after M r x _ hJ.2.1.1 hJ.2.1.2.1 (fun _ M' hM => JI_q hJ hF hs hM))
theorem j_hole {cy : Nat → ClassId} {tE : Nat} {S : KS} {M : GS} (hJ : JI cy tE S M) (n l d s x : Int32) : w_X11_hole cy tE S n l d s x (fun _ S' => w_X12_hole M n l d s x (fun _ M' => JQ cy tE S S' M')) :=
  r_11_hole cy tE S n l d s x _ (KI_HQ hJ.1) hJ.1.2.2.2.1 (fun _ S' hF hs => q_hole M n l d s x _ hJ.2.1.1 hJ.2.1.2.1 (fun _ M' hM => JI_q hJ hF hs hM))
theorem j_friends {cy : Nat → ClassId} {tE : Nat} {S : KS} {M : GS} (hJ : JI cy tE S M) (n l d : Int32) : w_X11_friends cy tE S n l d (fun _ S' => w_X12_friends M n l d (fun _ M' => JQ cy tE S S' M')) :=
  r_11_friends cy tE S n l d _ (KI_HQ hJ.1) hJ.1.2.2.2.1 (fun _ S' hF hs => q_friends M n l d _ hJ.2.1.1 hJ.2.1.2.1 (fun _ M' hM => JI_q hJ hF hs hM))
theorem j_only {cy : Nat → ClassId} {tE : Nat} {S : KS} {M : GS} (hJ : JI cy tE S M) (n d : Int32) : w_X11_only cy tE S n d (fun _ S' => w_X12_only M n d (fun _ M' => JQ cy tE S S' M')) :=
  r_11_only cy tE S n d _ (KI_HQ hJ.1) hJ.1.2.2.2.1 (fun _ S' hF hs => q_only M n d _ hJ.2.1.1 hJ.2.1.2.1 (fun _ M' hM => JI_q hJ hF hs hM))
theorem j_gain {cy : Nat → ClassId} {tE : Nat} {S : KS} {M : GS} (hJ : JI cy tE S M) (p l d x : Int32) : w_X11_gain cy tE S p l d x (fun _ S' => w_X12_gain M p l d x (fun _ M' => JQ cy tE S S' M')) :=
  r_11_gain cy tE S p l d x _ (KI_HQ hJ.1) hJ.1.2.2.2.1 (fun _ S' hF hs => q_gain M p l d x _ hJ.2.1.1 hJ.2.1.2.1 (fun _ M' hM => JI_q hJ hF hs hM))
theorem j_stop {cy : Nat → ClassId} {tE : Nat} {S : KS} {M : GS} (hJ : JI cy tE S M) (n d x : Int32) : w_X11_stop cy tE S n d x (fun _ S' => w_X12_stop M n d x (fun _ M' => JQ cy tE S S' M')) :=
  r_11_stop cy tE S n d x _ (KI_HQ hJ.1) hJ.1.2.2.2.1 (fun _ S' hF hs => q_stop M n d x _ hJ.2.1.1 hJ.2.1.2.1 (fun _ M' hM => JI_q hJ hF hs hM))
theorem j_met {cy : Nat → ClassId} {tE : Nat} {S : KS} {M : GS} (hJ : JI cy tE S M) (l d z : Int32) : w_X11_met cy tE S l d z (fun _ S' => w_X12_met M l d z (fun _ M' => JQ cy tE S S' M')) :=
  r_11_met cy tE S l d z _ (KI_HQ hJ.1) hJ.1.2.2.2.1 (fun _ S' hF hs => q_met M l d z _ hJ.2.1.1 hJ.2.1.2.1 hJ.2.1.2.2 (fun _ M' hM => JI_q hJ hF hs hM))
theorem j_fault {cy : Nat → ClassId} {tE : Nat} {S : KS} {M : GS} (hJ : JI cy tE S M) (x : Int32) : w_X11_fault cy tE S x (fun _ S' => w_X12_fault M x (fun _ M' => JQ cy tE S S' M')) :=
  r_11_fault cy tE S x _ (fun _ => q_fault M x _ (fun _ => ⟨hJ, by omega⟩))
theorem j_act {cy : Nat → ClassId} {tE : Nat} {S : KS} {M : GS} (hJ : JI cy tE S M) (x y : Int32) : w_X11_act cy tE S x y (fun _ S' => w_X12_act M x y (fun _ M' => JQ cy tE S S' M')) :=
  r_11_act cy tE S x y _ (KI_HQ hJ.1) (fun _ => q_act M x y _ (fun _ => ⟨hJ, by omega⟩))
theorem j_through {cy : Nat → ClassId} {tE : Nat} {S : KS} {M : GS} (hJ : JI cy tE S M) (r x : Int32) : w_X11_through cy tE S r x (fun _ S' => w_X12_through M r x (fun _ M' => JQ cy tE S S' M')) :=
  r_11_through cy tE S r x _ (fun _ => q_through M r x _ hJ.2.1.1 (fun _ => ⟨hJ, by omega⟩))
theorem j_never {cy : Nat → ClassId} {tE : Nat} {S : KS} {M : GS} (hJ : JI cy tE S M) : w_X11_never cy tE 259 (7 * (164 + 11 * (fi S.1 0).toInt.toNat)) S (fun _ S' => w_X12_never M (fun _ M' => JI cy tE S' M' ∧ fi S'.1 0 = 0)) :=
  r_11_never cy tE _ _ S _ hJ.1 ⟨by omega, by omega⟩ (fun _ S' hK hF e0 => q_never M _ hJ.2.1.1 (fun _ M' hT hM t0 => JI_t hJ hK hF e0 hT hM t0))
theorem j_cure {cy : Nat → ClassId} {tE : Nat} {S : KS} {M : GS} (hJ : JI cy tE S M) (x : Int32) : w_X11_cure cy tE 259 (7 * (164 + 11 * (fi S.1 0).toInt.toNat)) S x (fun _ S' => w_X12_cure M x (fun _ M' => JI cy tE S' M' ∧ fi S'.1 0 = 0)) :=
  r_11_cure cy tE _ _ S x _ hJ.1 ⟨by omega, by omega⟩ (fun _ S' hK hF e0 => q_cure M x _ hJ.2.1.1 (fun _ M' hT hM t0 => JI_t hJ hK hF e0 hT hM t0))
theorem j_statute {cy : Nat → ClassId} {tE : Nat} {S : KS} {M : GS} (hJ : JI cy tE S M) (x : Int32) : w_X11_statute cy tE 259 (7 * (164 + 11 * (fi S.1 0).toInt.toNat)) S x (fun _ S' => w_X12_statute M x (fun _ M' => JI cy tE S' M' ∧ fi S'.1 0 = 0)) :=
  r_11_statute cy tE _ _ S x _ hJ.1 ⟨by omega, Nat.le_refl _⟩ (fun _ S' hK hF e0 => q_statute M x _ hJ.2.1.1 (fun _ M' hT hM t0 => JI_t hJ hK hF e0 hT hM t0))
theorem j_feed {cy : Nat → ClassId} {tE : Nat} {S : KS} {M : GS} (hJ : JI cy tE S M) (a b c d e : Int32) : w_X11_feed cy tE S a b c d e (fun r S' => w_X12_feed M a b c d e (fun r2 M' => JP cy tE S r S' r2 M')) := by
  obtain ⟨hK, ⟨m1, m2, m3⟩, t0, h1, h2, h3⟩ := id hJ
  have tI : (fi S.1 0).toInt = (fi M 1).toInt := by rw [t0]
  refine r_11_feed cy tE S a b c d e _ hK.2.2.1 (fun g => q_feed M a b c d e _ m1 (fun _ => ⟨rfl, hJ, by omega⟩) (fun g2 => by exfalso; omega)) (fun g S' hF eF => q_feed M a b c d e _ m1 (fun g2 => by exfalso; omega) (fun _ M' hM eM => ?_))
  have eq : fi M' 1 = fi S'.1 0 := Int32.toInt_inj.mp (by omega)
  have b0 := hK.2.2.1
  refine ⟨eq, JI_mk hJ (KI_kf hK hF (by decide) (SQ_kf hK.2.2.2.1 hF (by decide)) (by omega)) ⟨KInv_rw m1 (hM.wk (by decide)) (by omega) ?_ ?_ ?_, SInv_g m2 hM (by decide) (by decide), BR.fr hM (by decide) (by decide) m3⟩ eq.symm (kf_14 hF.1 (by decide)) (hM.2.2.1 38 (by decide)) (hM.2.2.1 39 (by decide)) (hM.1 25 (by decide)), by unfold tp; omega⟩
  · have e38 : ar M' 38 = ar M 38 := hM.2.2.1 38 (by decide)
    rw [e38]; exact m1.2.2.2.2.2.2.2.1
  · have e37 : ar M' 37 = ar M 37 := hM.2.2.1 37 (by decide)
    rw [e37]; exact m1.2.2.2.2.2.2.2.2.1
  · have e25 : fi M' 25 = fi M 25 := hM.1 25 (by decide)
    rw [e25]; exact m1.2.2.2.2.2.2.2.2.2.2
theorem j_end {cy : Nat → ClassId} {tE : Nat} {S : KS} {M : GS} (hJ : JI cy tE S M) (n : Int32) : w_X11_end cy tE S n (fun r S' => w_X12_end M n (fun r2 M' => JP cy tE S r S' r2 M')) := by
  obtain ⟨hK, ⟨m1, m2, m3⟩, t0, h1, h2, h3⟩ := id hJ
  have tI : (fi S.1 0).toInt = (fi M 1).toInt := by rw [t0]
  refine r_11_end cy tE S n _ (fun g => q_end M n _ (fun g2 => by exfalso; omega) (fun _ => ?_)) (fun g => q_end M n _ (fun _ => ⟨rfl, hJ, by omega⟩) (fun g2 => by exfalso; omega))
  have hF : KF [0] [] [] S (ksi S 0 n) := KF_si (by decide) (KF_rf S)
  have hM : Fr [1] [] [] [] M (si M 1 n) := Fr.si (by decide) Fr.rf
  have eS : fi (ksi S 0 n).1 0 = n := si_at _ _ _
  have eM : fi (si M 1 n) 1 = n := si_at _ _ _
  have b0 := hK.2.2.1
  refine ⟨rfl, JI_mk hJ (KI_kf hK hF (by decide) (SQ_kf hK.2.2.2.1 hF (by decide)) (by rw [eS]; omega)) ⟨KInv_rw m1 (hM.wk (by decide)) (by rw [eM]; omega) m1.2.2.2.2.2.2.2.1 m1.2.2.2.2.2.2.2.2.1 ?_, SInv_g m2 hM (by decide) (by decide), m3⟩ (eS.trans eM.symm) (kf_14 hF.1 (by decide)) rfl rfl (hM.1 25 (by decide)), by unfold tp; rw [eS]; omega⟩
  have e25 : fi (si M 1 n) 25 = fi M 25 := hM.1 25 (by decide)
  rw [e25]; exact m1.2.2.2.2.2.2.2.2.2.2
