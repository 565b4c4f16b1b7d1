/-- text t holds l alone -/
def TXx (S : GS) (t : Nat) (l : OL) : Prop := (ar S 6 t).toInt = (l.length : Int) ∧ l.length ≤ 720 ∧ RTx S t 0 l
/-- ACT x of the reference is a -/
def MAx (S : GS) (x : Nat) (a : AcT) : Prop := (ar S 19 x = a.2.1 ∧ ar S 20 x = a.2.2.1 ∧ a.2.2.2.1.length ≤ 4 ∧ a.2.2.2.2.length ≤ 6) ∧ ((ar S 8 x).toInt = (a.2.2.2.1.length : Int) ∧ ∀ (k : Nat) (l : OL), a.2.2.2.1[k]? = some l → NDx S (x / 6) (4 * x + k) l ∧ (ar S 11 (4 * x + k)).toInt ≤ 720) ∧ (ar S 9 x).toInt = (a.2.2.2.2.length : Int) ∧ ∀ (k : Nat) (w : MkT), a.2.2.2.2[k]? = some w → MKx S (x / 6) (6 * x + k) w ∧ (ar S 16 (6 * x + k)).toInt ≤ 720
/-- the law as the reference holds it -/
def MIx (M : GS) (nv : List OL) (cu : List CuT) (ac : Nat → Option AcT) : Prop := ((fi M 16).toInt = (nv.length : Int) ∧ nv.length ≤ 6 ∧ ∀ (k : Nat) (l : OL), nv[k]? = some l → TXx M (2 + k) l) ∧ ((fi M 17).toInt = (cu.length : Int) ∧ cu.length ≤ 5 ∧ ∀ (k : Nat) (w : CuT), cu[k]? = some w → ar M 23 k = w.1 ∧ TXx M (8 + k) w.2) ∧ ∀ x, x < 12 → (ac x = none ∧ (ar M 7 (x / 6)).toInt ≤ ((x % 6 : Nat) : Int)) ∨ ∃ a, ac x = some a ∧ ((x % 6 : Nat) : Int) < (ar M 7 (x / 6)).toInt ∧ MAx M x a
theorem TXx_kx {S S' : GS} {t : Nat} {l : OL} (h5 : ∀ i : Nat, 1440 * t ≤ i → i < 1440 * t + 1440 → ar S' 5 i = ar S 5 i) (h6 : ar S' 6 t = ar S 6 t) (h : TXx S t l) : TXx S' t l := by
  obtain ⟨h1, h2, h3⟩ := h
  refine ⟨by rw [h6]; exact h1, h2, RTx_cg h3 (fun i hi => ?_)⟩
  show ar S' 5 (1440 * t + i) = ar S 5 (1440 * t + i)
  exact h5 _ (by omega) (by omega)
theorem MAx_kx {S S' : GS} {x : Nat} {a : AcT} (h5 : ∀ i : Nat, 1440 * (x / 6) ≤ i → i < 1440 * (x / 6) + 1440 → ar S' 5 i = ar S 5 i) (h8 : ∀ j, j ∈ [8, 9, 17, 18, 19, 20] → ar S' j x = ar S j x) (h10 : ∀ j, j ∈ [10, 11] → ∀ i, 4 * x ≤ i → i < 4 * x + 4 → ar S' j i = ar S j i) (h12 : ∀ j, j ∈ [12, 13, 14, 15, 16] → ∀ i, 6 * x ≤ i → i < 6 * x + 6 → ar S' j i = ar S j i) (h : MAx S x a) : MAx S' x a := by
  obtain ⟨⟨p1, p2, p3, p4⟩, ⟨q1, q2⟩, r1, r2⟩ := h
  have hs : ∀ i : Nat, i < 1440 → sx S' (x / 6) i = sx S (x / 6) i := fun i hi => h5 (1440 * (x / 6) + i) (by omega) (by omega)
  refine ⟨⟨by rw [h8 19 (by decide)]; exact p1, by rw [h8 20 (by decide)]; exact p2, p3, p4⟩, ⟨by rw [h8 8 (by decide)]; exact q1, fun k l hl => ?_⟩, by rw [h8 9 (by decide)]; exact r1, fun k w hw => ?_⟩
  · have hk := gt_lt hl
    obtain ⟨n1, n2⟩ := q2 k l hl
    have e10 := h10 10 (by decide) (4 * x + k) (by omega) (by omega)
    have e11 := h10 11 (by decide) (4 * x + k) (by omega) (by omega)
    exact ⟨NDx_cg n1 e10 e11 (fun i hi => hs i (by omega)), by rw [e11]; exact n2⟩
  · have hk := gt_lt hw
    obtain ⟨m1, m2⟩ := r2 k w hw
    have e : ∀ j, j ∈ [12, 13, 14, 15, 16] → ar S' j (6 * x + k) = ar S j (6 * x + k) := fun j hj => h12 j hj (6 * x + k) (by omega) (by omega)
    exact ⟨MKx_cg m1 (e 12 (by decide)) (e 13 (by decide)) (e 14 (by decide)) (e 15 (by decide)) (e 16 (by decide)) (fun i hi => hs i (by omega)), by rw [e 16 (by decide)]; exact m2⟩
theorem MIx_kx {S S' : GS} {nv : List OL} {cu : List CuT} {ac : Nat → Option AcT} (h : MIx S nv cu ac) (hX : KX S S') : MIx S' nv cu ac := by
  obtain ⟨f, x1, x16, x17, x7, x23, x5, x6, x8, x10, x12⟩ := hX
  obtain ⟨⟨a1, a2, a3⟩, ⟨b1, b2, b3⟩, c⟩ := h
  refine ⟨⟨by rw [x16]; exact a1, a2, fun k l hl => ?_⟩, ⟨by rw [x17]; exact b1, b2, fun k w hw => ?_⟩, fun x hx => ?_⟩
  · have hk := gt_lt hl
    exact TXx_kx (fun i _ hi => x5 i (by omega)) (x6 _ (by omega)) (a3 k l hl)
  · have hk := gt_lt hw
    rw [x23]
    exact ⟨(b3 k w hw).1, TXx_kx (fun i _ hi => x5 i (by omega)) (x6 _ (by omega)) (b3 k w hw).2⟩
  · rw [x7]
    rcases c x hx with g | ⟨a, g1, g2, g3⟩
    · exact Or.inl g
    · exact Or.inr ⟨a, g1, g2, MAx_kx (fun i _ hi => x5 i (by omega)) (fun j hj => x8 j hj x hx) (fun j hj i _ hi => x10 j hj i (by omega)) (fun j hj i _ hi => x12 j hj i (by omega)) g3⟩
theorem MIx_fr {I L A N : List Nat} {S S' : GS} {nv : List OL} {cu : List CuT} {ac : Nat → Option AcT} (h : MIx S nv cu ac) (f : Fr I L A N S S') (h1 : 16 ∉ I ∧ 17 ∉ I) (h2 : ∀ j ∈ [5, 6, 7, 8, 9, 10, 11, 12, 13, 14, 15, 16, 17, 18, 19, 20, 23], j ∉ A) : MIx S' nv cu ac := by
  have e : ∀ j, j ∈ [5, 6, 7, 8, 9, 10, 11, 12, 13, 14, 15, 16, 17, 18, 19, 20, 23] → ar S' j = ar S j := fun j hj => f.2.2.1 j (h2 j hj)
  have e16 : fi S' 16 = fi S 16 := f.1 16 h1.1
  have e17 : fi S' 17 = fi S 17 := f.1 17 h1.2
  have e5 := e 5 (by decide)
  obtain ⟨⟨a1, a2, a3⟩, ⟨b1, b2, b3⟩, c⟩ := h
  refine ⟨⟨by rw [e16]; exact a1, a2, fun k l hl => ?_⟩, ⟨by rw [e17]; exact b1, b2, fun k w hw => ?_⟩, fun x hx => ?_⟩
  · exact TXx_kx (fun i _ _ => by rw [e5]) (by rw [e 6 (by decide)]) (a3 k l hl)
  · rw [e 23 (by decide)]
    exact ⟨(b3 k w hw).1, TXx_kx (fun i _ _ => by rw [e5]) (by rw [e 6 (by decide)]) (b3 k w hw).2⟩
  · rw [e 7 (by decide)]
    rcases c x hx with g | ⟨a, g1, g2, g3⟩
    · exact Or.inl g
    · exact Or.inr ⟨a, g1, g2, MAx_kx (fun i _ _ => by rw [e5]) (fun j hj => by rw [e j (by revert hj; revert j; decide)]) (fun j hj i _ _ => by rw [e j (by revert hj; revert j; decide)]) (fun j hj i _ _ => by rw [e j (by revert hj; revert j; decide)]) g3⟩
/-- the reader's flags are no or yes -/
def BF (M : GS) : Prop := (fi M 14 = 0 ∨ fi M 14 = 1) ∧ (fi M 15 = 0 ∨ fi M 15 = 1)
theorem BF_fr {I L A N : List Nat} {S S' : GS} (h : BF S) (f : Fr I L A N S S') (h1 : 14 ∉ I ∧ 15 ∉ I) : BF S' := by
  unfold BF fi at *
  rw [f.1 14 h1.1, f.1 15 h1.2]
  exact h
set_option maxHeartbeats 1000000 in
theorem q_beginsE (S : GS) (post : GS → Prop) (Z : TS) (Y : YT) (hS : STm Z Y) (hY : 0 < Y.2.2.2) (hT : TPa Y.2.1 Y.2.2.1 S) (hB : BF S) (h1 : 0 ≤ (fi S 1).toInt ∧ (fi S 1).toInt ≤ 700) (k : ∀ S', Lx S' → nn S' = 0 → (fi S' 12).toInt = 0 → fi S' 1 = fi S 1 → Fr [2, 3, 4, 5, 6, 12] [] [6] [] S S' → (∀ i, i ≠ 13 → ar S' 6 i = ar S 6 i) → MZ Z Y 0 S' → fi S' 6 = 0 → post S') : w_X12_begins S post := by
  unfold w_X12_begins
  have eF : Fr [2, 6, 12] [] [6] [] S (su (si (si (si S 6 0) 2 0) 12 0) 6 13 0) := Fr.su (by decide) (Fr.si (by decide) (Fr.si (by decide) (Fr.si (by decide) Fr.rf)))
  have f2 : (fi (su (si (si (si S 6 0) 2 0) 12 0) 6 13 0) 2).toInt = 0 := by
    show ((su (si (si (si S 6 0) 2 0) 12 0) 6 13 0).1 2).toInt = 0
    rw [su_1, si_ne (by decide), si_at]; decide
  have f12 : (fi (su (si (si (si S 6 0) 2 0) 12 0) 6 13 0) 12).toInt = 0 := by
    show ((su (si (si (si S 6 0) 2 0) 12 0) 6 13 0).1 12).toInt = 0
    rw [su_1, si_at]; decide
  have g6 : fi (su (si (si (si S 6 0) 2 0) 12 0) 6 13 0) 6 = 0 := by
    show (su (si (si (si S 6 0) 2 0) 12 0) 6 13 0).1 6 = 0
    rw [su_1, si_ne (by decide), si_ne (by decide), si_at]
  have f6 : ar (su (si (si (si S 6 0) 2 0) 12 0) 6 13 0) 6 = upd (ar S 6) 13 0 := by
    show (su (si (si (si S 6 0) 2 0) 12 0) 6 13 0).2.2.1 6 = _
    rw [su_at]; rfl
  generalize su (si (si (si S 6 0) 2 0) 12 0) 6 13 0 = U at eF f2 f12 f6 g6 ⊢
  have u1 : fi U 1 = fi S 1 := eF.1 1 (by decide)
  have hTU : TPa Y.2.1 Y.2.2.1 U := hT.fr eF (by decide) (by decide)
  obtain ⟨hA, hp0, hk1⟩ := hS.1 0 hY
  refine q_next0E U _ Y.2.1 Y.2.2.1 0 (Z.2.2 0).toInt.toNat (Y.1 0) (Z.1 0) (Z.2.1 0) hTU (by rw [f2]; rfl) hA (fun T nF m2 m4 m3 m5 => ?_)
  have t1 : fi T 1 = fi S 1 := (nF.1 1 (by decide)).trans u1
  have t12 : fi T 12 = fi U 12 := nF.1 12 (by decide)
  have t14 : fi T 14 = fi S 14 := (nF.1 14 (by decide)).trans (eF.1 14 (by decide))
  have t15 : fi T 15 = fi S 15 := (nF.1 15 (by decide)).trans (eF.1 15 (by decide))
  have tn : nn T = 0 := by
    rw [nn_fr nF (by decide)]
    show (ar U 6 13).toInt = 0
    rw [f6, upd_at]; decide
  have n1 := hT.1
  have em4 : fi T 4 = Z.2.2 0 := i_eq (by rw [m4]; omega)
  obtain ⟨a1, a2, a3, a4⟩ := hA
  have hMZ : MZ Z Y 0 T := by
    refine ⟨hS, hY, hTU.fr nF (by decide) (by decide), m2, em4, m3, fun g => ?_, by rw [t14]; exact hB.1, by rw [t15]; exact hB.2⟩
    rw [m5 g]
    rcases a4 with ⟨-, -, h0⟩ | ⟨x0, ⟨-, hqe, -, -, -, -, hK⟩ | ⟨-, -, -, -, -, hv, -⟩ | ⟨-, -, -, -, hkk⟩⟩
    · rw [h0] at g; exact absurd g (by decide)
    · exfalso
      rcases hK with ⟨-, h1⟩ | ⟨-, ⟨i, hi, -, -, h1⟩ | ⟨-, ⟨-, h1⟩ | ⟨-, h1⟩⟩⟩
      · rw [h1] at g; exact absurd g (by decide)
      · have hh := kw_r i hi
        rw [← h1] at hh
        omega
      · rw [h1] at g; exact absurd g (by decide)
      · rw [h1] at g; exact absurd g (by decide)
    · rw [hv, i6432]
    · exfalso
      rw [hkk] at g
      exact sg_3 (hT.2.2 _ x0).2 g
  have hz0 := MZ_0 hMZ
  refine k T ⟨by omega, ?_, ?_, by rw [t1]; omega, fun g => ?_, by omega, by omega⟩ tn (by rw [t12]; exact f12) t1 ((eF.wk (by decide) : Fr [2, 3, 4, 5, 6, 12] [] [6] [] S U).tr (nF.wk (by decide))) (fun i hi => ?_) hMZ ((nF.1 6 (by decide)).trans g6)
  · rw [m4, m2]
    rcases a4 with ⟨x1, x2, -⟩ | ⟨x0, ⟨-, x1, x2, -⟩ | ⟨-, x1, x2, -⟩ | ⟨-, -, -, x1, -⟩⟩ <;> omega
  · rw [m2, t1, n1]
    rcases a4 with ⟨x1, x2, -⟩ | ⟨x0, ⟨-, x1, x2, -⟩ | ⟨-, x1, x2, -⟩ | ⟨-, -, -, x1, -⟩⟩ <;> omega
  · rw [m4, m2]
    have g2 : (Z.1 0).toInt ≠ 0 := fun q => g (hz0.mpr q)
    rcases a4 with ⟨x1, x2, x3⟩ | ⟨x0, ⟨-, x1, x2, -⟩ | ⟨-, x1, x2, -⟩ | ⟨-, -, -, x1, -⟩⟩
    · rw [x3] at g2; exact absurd li_0 g2
    · omega
    · omega
    · omega
  · have : ar T 6 = ar U 6 := nF.2.2.1 6 (by decide)
    rw [this, f6, upd_ne hi]
set_option maxHeartbeats 1000000 in
theorem q_endsE (S : GS) (post : GS → Prop) (k : ∀ S', Fr [1, 8, 13] [] [] [] S S' → (fi S' 1).toInt = 0 → fi S' 8 = fi S 6 → ((fi S 6).toInt = 0 → fi S' 13 = -1) → ((fi S 6).toInt ≠ 0 → fi S' 13 = fi S 7) → post S') : w_X12_ends S post := by
  unfold w_X12_ends w_X12_ends_B29
  have fin : ∀ v : Int32, ((fi S 6).toInt = 0 → v = -1) → ((fi S 6).toInt ≠ 0 → v = fi S 7) → post (si (si (si S 1 0) 8 (fi S 6)) 13 v) := by
    intro v h1 h2
    have e13 : fi (si (si (si S 1 0) 8 (fi S 6)) 13 v) 13 = v := si_at _ _ _
    refine k _ (Fr.si (by decide) (Fr.si (by decide) (Fr.si (by decide) Fr.rf))) ?_ ?_ (fun g => by rw [e13]; exact h1 g) (fun g => by rw [e13]; exact h2 g)
    · show ((si (si (si S 1 0) 8 (fi S 6)) 13 v).1 1).toInt = 0
      rw [si_ne (by decide), si_ne (by decide), si_at]; decide
    · show (si (si (si S 1 0) 8 (fi S 6)) 13 v).1 8 = _
      rw [si_ne (by decide), si_at]
  exact ⟨fun g => fin _ (fun q => absurd q g) (fun _ => rfl), fun g => fin _ (fun _ => rfl) (fun q => absurd g q)⟩
set_option maxHeartbeats 1000000 in
theorem q_readsE (S : GS) (post : Int32 → GS → Prop) (Z : TS) (Y : YT) (hS : STm Z Y) (hY : 0 < Y.2.2.2) (hT : TPa Y.2.1 Y.2.2.1 S) (hB : BF S) (hK : KInv S) (k : ∀ (r : Int32) (S' : GS), KX S S' → (fi S' 1).toInt = 0 → BF S' → (r = 0 ∨ r = 1) → (r.toInt ≠ 0 → (0 ≤ nn S' ∧ nn S' ≤ 715) ∧ Seg (sx S' 13) 0 (nn S').toNat 0 1 ∧ (ypCond Z 0).1 = 0 ∧ fi S' 8 = 0 ∧ fi S' 13 = -1 ∧ nn S' = ((ypCond Z 0).2.2.1.length : Int) ∧ RTx S' 13 0 (ypCond Z 0).2.2.1) → (r.toInt = 0 → (ypCond Z 0).1 ≠ 0 ∧ (fi S' 8).toInt = ((ypCond Z 0).1 : Int) ∧ fi S' 13 = Z.2.2 (ypCond Z 0).2.1) → post r S') : w_X12_reads S post := by
  unfold w_X12_reads w_X12_reads_B30 w_X12_reads_B26 w_X12_reads_B31
  refine q_beginsE _ _ Z Y hS hY hT hB hK.1 (fun U hL n0 f0 _ hF h6 hz u6 => ?_)
  have ec : ypCond Z 0 = ypBn (ypAny Z (ypCl Z 8) 0) (fun i => if (Z.1 i).toInt = 0 then ypOk i else ypNo 1 i) := rfl
  have good : ∀ (T : GS), KPx U T → ((0 ≤ nn T ∧ nn T ≤ 715) ∧ Seg (sx T 13) 0 (nn T).toNat 0 1) → MG Z Y U T (ypCond Z 0) → w_X12_ends T (fun S6 => ((1 : Int32) = 0 ∨ (1 : Int32) = 1) ∧ post 1 S6) := by
    intro T hT hs hG
    have t6 : fi T 6 = 0 := hG.2.2.1.2.2.trans u6
    refine q_endsE _ _ (fun E hE h1 e8 e13 _ => ⟨Or.inr rfl, k 1 E (KX_go hF h6 hT n0 hE h1) h1 (BF_fr (S := T) ⟨hG.2.1.2.2.2.2.2.2.2.1, hG.2.1.2.2.2.2.2.2.2.2⟩ hE (by decide)) (Or.inr rfl) (fun _ => ?_) (fun q => absurd q (by decide))⟩)
    have en := nn_fr hE (by decide)
    have e5 : sx E 13 = sx T 13 := by
      unfold sx ar
      rw [hE.2.2.1 5 (by decide)]
    have hMO := hG.2.2.1
    have hl := hMO.1
    rw [n0] at hl
    refine ⟨by rw [en]; exact hs.1, by rw [en, e5]; exact hs.2, hG.1, e8.trans t6, e13 (by rw [t6]; exact li_0), by rw [en]; omega, ?_⟩
    have hR := MO_RT hMO
    rw [n0] at hR
    exact RTx_cg hR (fun i _ => by rw [e5])
  have fail : ∀ (T : GS), KPx U T → MB Z T (ypCond Z 0) → w_X12_ends T (fun S6 => ((0 : Int32) = 0 ∨ (0 : Int32) = 1) ∧ post 0 S6) := by
    intro T hT hB
    obtain ⟨b1, b2, b3, b4⟩ := hB
    refine q_endsE _ _ (fun E hE h1 e8 _ e13 => ⟨Or.inl rfl, k 0 E (KX_go hF h6 hT n0 hE h1) h1 (BF_fr (S := T) b4 hE (by decide)) (Or.inl rfl) (fun q => absurd li_0 q) (fun _ => ⟨b1, by rw [e8]; exact b2, by rw [e13 (by rw [b2]; omega)]; exact b3⟩)⟩)
  refine q_askedE U _ hL Z Y 0 hz (fun r T hE hr h hM => ⟨fun g => fail T (EE_kx hE) (by rw [ec]; exact MB_l (MX_0 hM g)), fun g => ⟨fun gz => ?_, fun gz => ?_⟩⟩)
  · obtain ⟨a, b, c, d⟩ := h g
    have hG := MX_1 hM g
    rw [n0] at d
    have g0 := (MZ_0 hG.2.1).mp gz
    exact good T (EE_kx hE) ⟨nn_lx a, d⟩ (by rw [ec, ypBn_r2 (fun _ => if_pos g0)]; exact hG)
  · have hG := MX_1 hM g
    have g0 : ¬ (Z.1 (ypAny Z (ypCl Z 8) 0).2.1).toInt = 0 := fun q => gz ((MZ_0 hG.2.1).mpr q)
    refine ⟨fun _ => fail _ (KPx_tr (EE_kx hE) (EE_kx (EE_bad T 1))) ?_, fun h => absurd li_0 h⟩
    rw [ec, ypBn_g hG.1]
    have e : (if (Z.1 (ypAny Z (ypCl Z 8) 0).2.1).toInt = 0 then ypOk (ypAny Z (ypCl Z 8) 0).2.1 else ypNo 1 (ypAny Z (ypCl Z 8) 0).2.1) = ypNo 1 (ypAny Z (ypCl Z 8) 0).2.1 := if_neg g0
    exact MB_c (MB_bad hG.2.1 1 1 (by decide) (by decide)) (by rw [e]) (by rw [e])
