theorem HX_row {cy : Nat → ClassId} {tE : Nat} {S : KS} {A : Nat → Prop} {i0 i1 i2 : Nat} {o0 o1 o2 : Option Nat} {n0 n1 n2 : Int32} {f0 f1 f2 : Nat → Option Nat} {j : Nat} {y : Option Nat} (h : HX cy tE S A i0 i1 i2 o0 o1 o2 n0 n1 n2 f0 f1 f2) (hy : ∀ q, y = some q → ACp cy A S.2.2.2 q) : HX cy tE (ksg S (va_up S.2.2.1 j y)) A i0 i1 i2 o0 o1 o2 n0 n1 n2 f0 f1 f2 := by
  obtain ⟨h3, hl, hb, e0, e1, e2, hr, hA, hD⟩ := h
  refine ⟨h3, hl, hb, e0, e1, e2, fun i hi q hq => ?_, hA, hD⟩
  have hq2 : va_up S.2.2.1 j y i = some q := hq
  by_cases e : i = j
  · rw [e] at hq2
    simp [va_up] at hq2
    exact hy q hq2
  · simp [va_up, e] at hq2
    exact hr i hi q hq2
set_option maxHeartbeats 800000 in
theorem r_4_enact (cy : Nat → ClassId) (tE : Nat) (S : KS) (p : Int32) (post : KS → Prop) {A : Nat → Prop} {i0 i1 i2 : Nat} {o0 o1 o2 : Option Nat} {n0 n1 n2 : Int32} {f0 f1 f2 : Nat → Option Nat} (hX : HX cy tE S A i0 i1 i2 o0 o1 o2 n0 n1 n2 f0 f1 f2) (k : ∀ V, V.1 = S.1 → HX cy tE V A i0 i1 i2 o0 o1 o2 n0 n1 n2 f0 f1 f2 → post V) : w_X4_enact cy tE S p (S.2.1 0) post := by
  unfold w_X4_enact
  refine lr4 (fun (T : KS) (x1 : Int32) (x2 : Nat) (x3 : Int32) => (0 ≤ x3.toInt ∧ x3.toInt ≤ 6) ∧ x2 = T.2.1 0 ∧ T.1 = S.1 ∧ HX cy tE T A i0 i1 i2 o0 o1 o2 n0 n1 n2 f0 f1 f2) (fun _ _ _ x3 => (6 - x3.toInt).toNat) ?_ _ _ _ _ ⟨by decide, rfl, rfl, hX⟩
  rintro kk T x1 x2 x3 ⟨hx, e2, e1, hX⟩ hk
  rw [e2]
  obtain ⟨m, e, hi⟩ := LLs_e hX.2.1.1
  have go : x3.toInt < 6 → ∀ V, V.1 = S.1 → HX cy tE V A i0 i1 i2 o0 o1 o2 n0 n1 n2 f0 f1 f2 → V.2.1 = T.2.1 → w_X4_enact_B58 cy tE post kk (w_X4_enact_B64 cy tE post) V x1 (T.2.1 0) x3 := by
    intro g V hV hXV eA
    have e3 := inc1 (x := x3) (by omega)
    exact hk _ _ _ _ ⟨by rw [e3]; omega, by rw [eA], hV, hXV⟩ (by rw [e3]; omega)
  unfold w_X4_enact_F2
  refine ⟨fun _ => k T e1 hX, fun g6 => ⟨fun _ => go g6 T e1 hX rfl, fun ga => ⟨fun _ => go g6 T e1 hX rfl, fun gb => ?_⟩⟩⟩
  refine ⟨i0, _, hi, r_size cy tE T _ i0 m n0 (.ref e) _ hi ⟨fun _ => ⟨⟨ga, gb⟩, fun _ => go g6 _ e1 (HX_row hX (fun q hq => by cases hq)) rfl, fun q hq => by cases hq⟩, fun gn => ?_⟩⟩
  obtain ⟨m1, e1', hi1, hb1, hc1⟩ := hX.2.1.1
  rcases hc1 with ⟨-, -, hz⟩ | ⟨j, -, -, hj⟩
  · rw [hz, li_0] at gn; omega
  obtain ⟨x, hx3, hAC⟩ := hX.2.2.2.1 x3.toNatClampNeg (by rw [tnc]; omega)
  have hAC2 := hAC
  obtain ⟨ix, nm, nd, mk, wo, wt, -, hix, -⟩ := hAC2
  refine ⟨i0, _, hi1, r_getE cy tE T _ i0 j 10 e1' m1 n0 x3 f0 _ hi1 hj ⟨hx.1, gn⟩ (by omega) ⟨x, hx3, ix, _, hix, ⟨ga, gb⟩, fun hq => (by cases hq), fun q hq => ?_⟩⟩
  cases hq
  exact ⟨ix, _, hix, go g6 _ e1 (HX_row hX (fun q hq => by cases hq; exact hAC)) rfl⟩
set_option maxHeartbeats 800000 in
theorem r_st51 (cy : Nat → ClassId) (tE : Nat) (mc ms : Nat) (S : KS) (p : Int32) (post : Int32 → KS → Prop) (b : Int) (nc ns : Nat) (T : KS) (hm : nc ≤ mc ∧ ns ≤ ms) (hF : FX S T) (hW : WD S) (hs : SQ S) (e0 : fi T.1 0 = 0) (hR : RD b T) (hE : HE cy tE T) (k : ∀ r U, KI cy tE U → FX S U → fi U.1 0 = 0 → post r U) : w_X11_statute_B51 cy tE mc ms post T nc ns p := by
  unfold w_X11_statute_B51
  have hg := RD_g hR
  obtain ⟨A, i0, i1, i2, o0, o1, o2, n0, n1, n2, f0, f1, f2, hX⟩ := hE
  refine ⟨hm, r_5_isAtEnd cy tE T _ b hR (fun V hV => ⟨fun g => absurd li_0 g, fun _ => ⟨hm, ?_⟩⟩) ⟨fun _ => ⟨hm, ?_⟩, fun g => absurd g (by decide)⟩⟩
  · have eV : fi V.1 0 = 0 := (hV.1.1 0 (by decide)).trans e0
    exact k _ _ (KI_mk (KFr_FX hF hV) hW hs (hV.2.2.2.2 hg) eV (HX_kf hX hV)) (KFr_FX hF hV) eV
  · refine r_4_enact cy tE T p _ hX (fun V e1 hXV => ⟨hm, r_8_forget cy tE V _ ⟨hm, ?_⟩⟩)
    have hX5 := HX_kf (I := [32]) (J := []) (M := []) hXV (KF_si (k := 32) (x := 0) (by decide) (KF_rf _))
    obtain ⟨m, e, hi⟩ := LLs_e hX5.2.1.1
    refine ⟨i0, _, hi, r_size cy tE _ _ i0 m n0 (.ref e) _ hi ⟨hm, ?_⟩⟩
    have hFV : FX S V := by
      show Fr _ _ _ _ S.1 V.1
      rw [e1]; exact hF
    have hF3 : FX S (ksi V 32 0) := Fr.si (by decide) hFV
    have gV : FLG V := by
      unfold FLG
      rw [e1]; exact hg
    have e03 : fi (ksi V 32 0).1 0 = 0 := (si_ne (by decide)).trans (by rw [e1]; exact e0)
    exact k _ _ (KI_mk hF3 hW hs (FLG_si gV (Or.inl (by decide))) e03 hX5) hF3 e03
set_option maxHeartbeats 800000 in
theorem r_11_statute (cy : Nat → ClassId) (tE : Nat) (mc ms : Nat) (S : KS) (p : Int32) (post : Int32 → KS → Prop) (hI : KI cy tE S) (hm : 259 ≤ mc ∧ 7 * (164 + 11 * (fi S.1 0).toInt.toNat) ≤ ms) (k : ∀ r U, KI cy tE U → FX S U → fi U.1 0 = 0 → post r U) : w_X11_statute cy tE mc ms S p post := by
  have hW0 := hI.1
  have hs0 := hI.2.2.2.1
  unfold w_X11_statute
  refine ⟨⟨by omega, by omega⟩, r_tape cy tE S _ hI (fun U A i0 i1 i2 o0 o1 o2 n1 n2 f0 f1 f2 hF hW hs hg e0 hR e16 hX => ?_)⟩
  refine ⟨⟨by omega, by omega⟩, r_11_isWithin cy tE U _ _ _ (fun r _ _ => ⟨fun _ => ?_, fun _ => ⟨⟨by omega, by omega⟩, k _ _ (KI_mk hF hW0 hs0 hg e0 hX) hF e0⟩⟩)⟩
  generalize eb : (fi S.1 0).toInt = b at hR hm
  refine lr5 (fun (T : KS) (nc ns : Nat) (x1 x2 : Int32) => (0 ≤ x2.toInt ∧ x2.toInt ≤ 7) ∧ (nc = 37 * x2.toInt.toNat ∧ ns = x2.toInt.toNat * (164 + 11 * b.toNat)) ∧ FX S T ∧ fi T.1 0 = 0 ∧ RD b T ∧ HE cy tE T) (fun _ _ _ _ x2 => (7 - x2.toInt).toNat) ?_ _ _ _ _ _ ⟨by decide, ⟨rfl, (Nat.zero_mul _).symm⟩, hF, e0, hR, HX_HE hX⟩
  rintro kk T nc ns x1 x2 ⟨hx, ⟨hnc, hns⟩, hFT, eT, hRT, hET⟩ hk
  have hm7 : x2.toInt.toNat * (164 + 11 * b.toNat) ≤ 7 * (164 + 11 * b.toNat) := Nat.mul_le_mul_right _ (by omega)
  have hm6 : x2.toInt ≤ 6 → x2.toInt.toNat * (164 + 11 * b.toNat) ≤ 6 * (164 + 11 * b.toNat) := fun g => Nat.mul_le_mul_right _ (by omega)
  have hsu : x2.toInt ≤ 6 → (x2 + 1).toInt = x2.toInt + 1 ∧ (x2 + 1).toInt.toNat * (164 + 11 * b.toNat) = x2.toInt.toNat * (164 + 11 * b.toNat) + (164 + 11 * b.toNat) := by
    intro g
    have e : (x2 + 1).toInt = x2.toInt + 1 := inc1 (by omega)
    have e3 : (x2 + 1).toInt.toNat = x2.toInt.toNat + 1 := by rw [e]; omega
    exact ⟨e, by rw [e3, Nat.add_mul, Nat.one_mul]⟩
  generalize hWW : x2.toInt.toNat * (164 + 11 * b.toNat) = W at *
  have b51 : w_X11_statute_B51 cy tE mc ms post T nc ns x1 := r_st51 cy tE mc ms S x1 post b nc ns T ⟨by omega, by omega⟩ hFT hW0 hs0 eT hRT hET k
  unfold w_X11_statute_F16
  refine ⟨fun _ => b51, fun g6 => ⟨⟨by omega, by omega⟩, r_5_kind cy tE T _ b hRT ⟨fun _ => b51, fun g4 => ?_⟩⟩⟩
  have hm6 := hm6 g6
  obtain ⟨hi1, hi2⟩ := hsu g6
  obtain ⟨A2, j0, j1, j2, p0, p1, p2, m0, m1, m2, h0, h1, h2, hX2⟩ := hET
  refine ⟨37, 164 + 11 * b.toNat, ⟨by omega, by omega⟩, r_5_readAct cy tE 37 _ T _ b hRT g4 hX2 ⟨by omega, by omega⟩ (fun V hV gV hE => ⟨fun g => absurd li_0 g, fun _ => ⟨⟨by omega, by omega⟩, ?_⟩⟩) (fun V hV hRV hE => ⟨fun _ => ?_, fun g => absurd g (by decide)⟩)⟩
  · have hFV : FX S V := hFT.tr (hV.wk (by decide))
    have eV : fi V.1 0 = 0 := (hV.1 0 (by decide)).trans eT
    obtain ⟨A3, a0, a1, a2, b0, b1, b2, c0, c1, c2, d0, d1, d2, hX3⟩ := hE
    exact k _ _ (KI_mk hFV hW0 hs0 gV eV hX3) hFV eV
  · have hFV : FX S V := hFT.tr (hV.wk (by decide))
    have eV : fi V.1 0 = 0 := (hV.1 0 (by decide)).trans eT
    exact hk _ _ _ _ _ ⟨by rw [hi1]; omega, ⟨by rw [hi1]; omega, by rw [hi2]; omega⟩, hFV, eV, hRV, hE⟩ (by rw [hi1]; omega)
