theorem HV_cg {cy : Nat → ClassId} {S : KS} {A : Nat → Prop} {n1 n2 : Int32} {f1 f2 : Nat → Option Nat} {nv : List OL} {cu : List CuT} {ac ac' : Nat → Option AcT} (h : HV cy S A n1 n2 f1 f2 nv cu ac) (e : ∀ i, i < 12 → ac' i = ac i) : HV cy S A n1 n2 f1 f2 nv cu ac' := by
  refine ⟨h.1, h.2.1, fun i hi => ?_⟩
  rw [e i hi]
  exact h.2.2 i hi
/-- the first x ACTS are enacted -/
def acX (l : Nat) (r : List AcT) (ac : Nat → Option AcT) (x : Nat) : Nat → Option AcT := fun i => if i / 6 = l ∧ i % 6 < x then r[i % 6]? else ac i
theorem HV_row {cy : Nat → ClassId} {T : KS} {A : Nat → Prop} {n1 n2 : Int32} {f1 f2 : Nat → Option Nat} {nv : List OL} {cu : List CuT} {ac : Nat → Option AcT} {l x : Nat} {rd : List AcT} {y : Option Nat} (h : HV cy T A n1 n2 f1 f2 nv cu (acX l rd ac x)) (hx : x < 6) (hy : (y = none ∧ rd[x]? = none) ∨ ∃ (q : Nat) (a : AcT), y = some q ∧ rd[x]? = some a ∧ ACx cy A T.2.2.2 q a) : HV cy (ksg T (va_up T.2.2.1 (6 * l + x) y)) A n1 n2 f1 f2 nv cu (acX l rd ac (x + 1)) := by
  refine ⟨h.1, h.2.1, fun i hi => ?_⟩
  show (va_up T.2.2.1 (6 * l + x) y i = none ∧ _) ∨ ∃ (q : Nat) (a : AcT), va_up T.2.2.1 (6 * l + x) y i = some q ∧ _
  by_cases e : i = 6 * l + x
  · have e1 : va_up T.2.2.1 (6 * l + x) y i = y := by simp [va_up, e]
    have e2 : acX l rd ac (x + 1) i = rd[x]? := by
      unfold acX
      have e3 : i % 6 = x := by omega
      rw [if_pos ⟨by omega, by omega⟩, e3]
    rw [e1, e2]
    exact hy
  · have e1 : va_up T.2.2.1 (6 * l + x) y i = T.2.2.1 i := by simp [va_up, e]
    have e2 : acX l rd ac (x + 1) i = acX l rd ac x i := by
      unfold acX
      by_cases c : i / 6 = l ∧ i % 6 < x
      · rw [if_pos c, if_pos ⟨c.1, by omega⟩]
      · rw [if_neg c, if_neg (fun g => by omega)]
    rw [e1, e2]
    exact h.2.2 i hi
set_option maxHeartbeats 1600000 in
theorem r_4_enactE (cy : Nat → ClassId) (tE : Nat) (S : KS) (p : Int32) (post : KS → Prop) {nv : List OL} {cu : List CuT} {ac : Nat → Option AcT} {rd : List AcT} (hB : RB cy tE S nv cu ac rd) (l : Nat) (hp : p.toInt = (l : Int)) (hl : l ≤ 1) (k : ∀ V, V.1 = S.1 → RB cy tE V nv cu (acE l rd ac) rd → post V) : w_X4_enact cy tE S p (S.2.1 0) post := by
  obtain ⟨A, i0, i1, i2, o0, o1, o2, n0, n1, n2, f0, f1, f2, hX, hV, hRd⟩ := hB
  have hrd := hRd.1
  have hb6 := hX.2.2.1.1
  have hV0 : HV cy S A n1 n2 f1 f2 nv cu (acX l rd ac 0) := HV_cg hV (fun i _ => if_neg (fun g => absurd g.2 (Nat.not_lt_zero _)))
  unfold w_X4_enact
  refine lr4 (fun (T : KS) (x1 : Int32) (x2 : Nat) (x3 : Int32) => x1 = p ∧ (0 ≤ x3.toInt ∧ x3.toInt ≤ 6) ∧ x2 = T.2.1 0 ∧ T.1 = S.1 ∧ T.2.2.2 = S.2.2.2 ∧ HX cy tE T A i0 i1 i2 o0 o1 o2 n0 n1 n2 f0 f1 f2 ∧ HV cy T A n1 n2 f1 f2 nv cu (acX l rd ac x3.toInt.toNat)) (fun _ _ _ x3 => (6 - x3.toInt).toNat) ?_ _ _ _ _ ⟨rfl, by decide, rfl, rfl, rfl, hX, by rw [li_0]; exact hV0⟩
  rintro kk T x1 x2 x3 ⟨rfl, hx, e2, e1, eL, hXT, hVT⟩ hk
  rw [e2]
  obtain ⟨m, e, hi⟩ := LLs_e hXT.2.1.1
  have ei : ((6 : Int32) * x1 + x3).toInt = 6 * (l : Int) + x3.toInt := by rw [ma_6 (by omega) (by omega), hp]
  have ein : ((6 : Int32) * x1 + x3).toNatClampNeg = 6 * l + x3.toInt.toNat := by rw [tnc, ei]; omega
  have go : x3.toInt < 6 → ∀ y : Option Nat, ((y = none ∧ rd[x3.toInt.toNat]? = none) ∨ ∃ (q : Nat) (a : AcT), y = some q ∧ rd[x3.toInt.toNat]? = some a ∧ ACx cy A T.2.2.2 q a) → w_X4_enact_B58 cy tE post kk (w_X4_enact_B64 cy tE post) (ksg T (va_up T.2.2.1 (((6 : Int32) * x1 + x3).toNatClampNeg) y)) x1 (T.2.1 0) x3 := by
    intro g y hy
    have e3 := inc1 (x := x3) (by omega)
    have e4 : (x3 + 1).toInt.toNat = x3.toInt.toNat + 1 := by rw [e3]; omega
    refine hk _ _ _ _ ⟨rfl, by rw [e3]; omega, rfl, e1, eL, HX_row hXT (fun q hq => ?_), ?_⟩ (by rw [e3]; omega)
    · rcases hy with ⟨h1, -⟩ | ⟨q', a, h1, -, h3⟩
      · rw [h1] at hq; cases hq
      · rw [h1] at hq; cases hq
        exact ACx_p h3
    · rw [e4, ein]
      exact HV_row hVT (by omega) hy
  unfold w_X4_enact_F2
  rw [ei]
  refine ⟨fun g => k T e1 ⟨A, i0, i1, i2, o0, o1, o2, n0, n1, n2, f0, f1, f2, hXT, ?_, by rw [eL]; exact hRd⟩, fun g6 => ⟨fun ga => by exfalso; omega, fun ga => ⟨fun gb => by exfalso; omega, fun gb => ?_⟩⟩⟩
  · refine HV_cg hVT (fun i hi => ?_)
    have e6 : x3.toInt.toNat = 6 := by omega
    rw [e6]
    unfold acE acX
    by_cases c : i / 6 = l
    · rw [if_pos c, if_pos ⟨c, by omega⟩]
    · rw [if_neg c, if_neg (fun g => c g.1)]
  refine ⟨i0, _, hi, r_size cy tE T _ i0 m n0 (.ref e) _ hi ⟨fun gn => ⟨by rw [ei]; omega, fun _ => go g6 none (Or.inl ⟨rfl, List.getElem?_eq_none (by omega)⟩), fun q hq => by cases hq⟩, fun gn => ?_⟩⟩
  obtain ⟨m1, e1', hi1, hb1, hc1⟩ := hXT.2.1.1
  rcases hc1 with ⟨-, -, hz⟩ | ⟨j, -, -, hj⟩
  · rw [hz, li_0] at gn; omega
  have hxl : x3.toInt.toNat < rd.length := by omega
  have hget := List.getElem?_eq_getElem hxl
  generalize rd[x3.toInt.toNat] = a at hget
  obtain ⟨x, hx3, hAC⟩ := hRd.2 _ a hget
  rw [← eL] at hAC
  have hAC2 := hAC
  obtain ⟨ix, nd, mk, -, hix, -⟩ := hAC2
  refine ⟨i0, _, hi1, r_getE cy tE T _ i0 j 10 e1' m1 n0 x3 f0 _ hi1 hj ⟨hx.1, gn⟩ (by omega) ⟨x, hx3, ix, _, hix, by rw [ei]; omega, fun hq => (by cases hq), fun q hq => ?_⟩⟩
  have hqx : x = q := Option.some.inj hq
  rw [← hqx]
  exact ⟨ix, _, hix, go g6 (some x) (Or.inr ⟨x, a, rfl, hget, hAC⟩)⟩
set_option maxHeartbeats 1600000 in
theorem r_st51E (cy : Nat → ClassId) (tE : Nat) (mc ms : Nat) (S : KS) (p : Int32) (post : Int32 → KS → Prop) (b : Int) (nc ns : Nat) (T : KS) (Z : TS) (j l : Nat) {nv : List OL} {cu : List CuT} {ac : Nat → Option AcT} {rd : List AcT} (hm : nc ≤ mc ∧ ns ≤ ms) (hF : FX S T) (hW : WD S) (hs : SQ S) (e0 : fi T.1 0 = 0) (hR : RD b T) (hz : ZS Z j T) (hB : RB cy tE T nv cu ac rd) (hp : p.toInt = (l : Int)) (hl : l ≤ 1) (k0 : (Z.1 j).toInt ≠ 0 → ∀ V, KI cy tE V → FX S V → fi V.1 0 = 0 → KIx cy tE V nv cu ac → (fi V.1 19).toInt = 1 → fi V.1 20 = Z.2.2 j → fi V.1 32 = fi T.1 32 → post (-1) V) (k1 : (Z.1 j).toInt = 0 → ∀ V, KI cy tE V → FX S V → fi V.1 0 = 0 → KIx cy tE V nv cu (acE l rd ac) → fi V.1 19 = fi T.1 19 → fi V.1 20 = fi T.1 20 → (fi V.1 32).toInt = 0 → post (nI rd.length) V) : w_X11_statute_B51 cy tE mc ms post T nc ns p := by
  unfold w_X11_statute_B51
  have hg := RD_g hR
  refine ⟨hm, r_5_isAtEndE cy tE T _ b Z j hR hz (fun V gz hV hXB => ⟨fun g => absurd li_0 g, fun _ => ⟨hm, ?_⟩⟩) (fun gz => ⟨fun _ => ⟨hm, ?_⟩, fun g => absurd g (by decide)⟩)⟩
  · have eV : fi V.1 0 = 0 := (hV.1.1 0 (by decide)).trans e0
    obtain ⟨A, i0, i1, i2, o0, o1, o2, n0, n1, n2, f0, f1, f2, hX, hHV, hRd⟩ := RB_kf hB hV
    exact k0 gz V (KI_mk (KFr_FX hF hV) hW hs (hV.2.2.2.2 hg) eV hX) (KFr_FX hF hV) eV ⟨A, i0, i1, i2, o0, o1, o2, n0, n1, n2, f0, f1, f2, hX, hHV⟩ hXB.2.1 hXB.2.2 (hV.1.1 32 (by decide))
  · refine r_4_enactE cy tE T p _ hB l hp hl (fun V e1 hBV => ⟨hm, r_8_forget cy tE V _ ⟨hm, ?_⟩⟩)
    have hB5 := RB_kf (I := [32]) (J := []) (M := []) hBV (KF_si (k := 32) (x := 0) (by decide) (KF_rf _))
    obtain ⟨A, i0, i1, i2, o0, o1, o2, n0, n1, n2, f0, f1, f2, hX5, hHV, hRd⟩ := hB5
    obtain ⟨m, e, hi⟩ := LLs_e hX5.2.1.1
    refine ⟨i0, _, hi, r_size cy tE _ _ i0 m n0 (.ref e) _ hi ⟨hm, ?_⟩⟩
    have hFV : FX S V := by
      show Fr _ _ _ _ S.1 V.1
      rw [e1]; exact hF
    have hF3 : FX S (ksi V 32 0) := Fr.si (by decide) hFV
    have gV : FLG V := by
      unfold FLG
      rw [e1]; exact hg
    have e03 : fi (ksi V 32 0).1 0 = 0 := (si_ne (by decide)).trans (by rw [e1]; exact e0)
    have e19 : fi (ksi V 32 0).1 19 = fi T.1 19 := (si_ne (by decide)).trans (by rw [e1])
    have e20 : fi (ksi V 32 0).1 20 = fi T.1 20 := (si_ne (by decide)).trans (by rw [e1])
    have hb6 := hX5.2.2.1.1
    have en : n0 = nI rd.length := i_eq (by rw [nI_toInt (by have := hRd.1; omega)]; exact hRd.1)
    rw [en]
    exact k1 gz _ (KI_mk hF3 hW hs (FLG_si gV (Or.inl (by decide))) e03 hX5) hF3 e03 ⟨A, i0, i1, i2, o0, o1, o2, n0, n1, n2, f0, f1, f2, hX5, hHV⟩ e19 e20 z32
theorem RB_6 {cy : Nat → ClassId} {tE : Nat} {S : KS} {nv : List OL} {cu : List CuT} {ac : Nat → Option AcT} {rd : List AcT} (h : RB cy tE S nv cu ac rd) : rd.length ≤ 6 := by
  obtain ⟨A, i0, i1, i2, o0, o1, o2, n0, n1, n2, f0, f1, f2, hX, hHV, hRd⟩ := h
  have := hX.2.2.1.1
  have := hRd.1
  omega
set_option maxHeartbeats 1600000 in
theorem r_11_statuteE (cy : Nat → ClassId) (tE : Nat) (mc ms : Nat) (S : KS) (p : Int32) (post : Int32 → KS → Prop) (nv : List OL) (cu : List CuT) (ac : Nat → Option AcT) (hI : KI cy tE S) (hx : KIx cy tE S nv cu ac) (hw : al S.1 0 = (sm 85).2) (hb : ∀ i, i < (fi S.1 0).toInt.toNat → 0 ≤ (ar S.1 0 i).toInt ∧ (ar S.1 0 i).toInt ≤ 255) (hm : 259 ≤ mc ∧ 7 * (164 + 11 * (fi S.1 0).toInt.toNat) ≤ ms) (k : ∀ U Y Z, KI cy tE U → FX S U → fi U.1 0 = 0 → STm Z Y → Y.2.1 = ar S.1 0 → Y.2.2.1 = (fi S.1 0).toInt.toNat → 0 < Y.2.2.2 → KIx cy tE U nv cu (stO Z p ac).2.1 → (fi U.1 19).toInt = (stO Z p ac).2.2.1 → fi U.1 20 = (stO Z p ac).2.2.2 → ((fi U.1 32).toInt = 0 ∨ (fi U.1 32 = fi S.1 32 ∧ (stO Z p ac).2.1 = ac)) → post (stO Z p ac).1 U) : w_X11_statute cy tE mc ms S p post := by
  have hW0 := hI.1
  have hs0 := hI.2.2.2.1
  unfold w_X11_statute
  refine ⟨⟨by omega, by omega⟩, r_tapeF cy tE S _ nv cu ac hI hx hw hb (fun U A i0 i1 i2 o0 o1 o2 n1 n2 f0 f1 f2 Y hF hW hs hg e0 hR e16 hX hV hz y1 y2 y3 y4 u19 u20 u32 => ?_)⟩
  have out : ∀ (V : KS) (o : Int32 × (Nat → Option AcT) × Int × Int32), stO (tkZ U) p ac = o → KI cy tE V → FX S V → fi V.1 0 = 0 → KIx cy tE V nv cu o.2.1 → (fi V.1 19).toInt = o.2.2.1 → fi V.1 20 = o.2.2.2 → ((fi V.1 32).toInt = 0 ∨ (fi V.1 32 = fi S.1 32 ∧ o.2.1 = ac)) → post o.1 V := by
    intro V o ho h1 h2 h3 h4 h5 h6 h7
    subst ho
    exact k V Y (tkZ U) h1 h2 h3 y1 y2 y3 y4 h4 h5 h6 h7
  refine ⟨⟨by omega, by omega⟩, r_11_isWithin cy tE U _ _ _ (fun r _ hrr => ⟨fun gr => ?_, fun gr => ⟨⟨by omega, by omega⟩, out U _ (stO_f (by rw [li_1] at hrr; omega)) (KI_mk hF hW0 hs0 hg e0 hX) hF e0 ⟨A, i0, i1, i2, o0, o1, o2, 0, n1, n2, f0, f1, f2, hX, hV⟩ (by rw [u19]; exact li_0) u20 (Or.inr ⟨u32, rfl⟩)⟩⟩)⟩
  have hp01 : 0 ≤ p.toInt ∧ p.toInt ≤ 1 := by rw [li_1] at hrr; omega
  have hpl : p.toInt = (p.toInt.toNat : Int) := by omega
  have hB0 : RB cy tE U nv cu ac [] := ⟨A, i0, i1, i2, o0, o1, o2, 0, n1, n2, f0, f1, f2, hX, hV, rfl, fun t a ha => by simp at ha⟩
  generalize eb : (fi S.1 0).toInt = b at hR hm
  refine lr5 (fun (T : KS) (nc ns : Nat) (x1 x2 : Int32) => x1 = p ∧ (0 ≤ x2.toInt ∧ x2.toInt ≤ 7) ∧ (nc = 37 * x2.toInt.toNat ∧ ns = x2.toInt.toNat * (164 + 11 * b.toNat)) ∧ FX S T ∧ fi T.1 0 = 0 ∧ RD b T ∧ (fi T.1 19 = 0 ∧ fi T.1 20 = -1 ∧ fi T.1 32 = fi S.1 32) ∧ ∃ (j n : Nat) (rd : List AcT), ZS (tkZ U) j T ∧ RB cy tE T nv cu ac rd ∧ x2.toInt = (rd.length : Int) ∧ n + rd.length = 8 ∧ ypSt (tkZ U) 8 0 [] = ypSt (tkZ U) n j rd) (fun _ _ _ _ x2 => (7 - x2.toInt).toNat) ?_ _ _ _ _ _ ⟨rfl, by decide, ⟨rfl, (Nat.zero_mul _).symm⟩, hF, e0, hR, ⟨u19, u20, u32⟩, 0, 8, [], hz, hB0, rfl, rfl, rfl⟩
  rintro kk T nc ns x1 x2 ⟨rfl, hx2, ⟨hnc, hns⟩, hFT, eT, hRT, ⟨t19, t20, t32⟩, j, n, rd, hzT, hBT, hxr, hn8, hRES⟩ hk
  have h6 := RB_6 hBT
  obtain ⟨n', rfl⟩ : ∃ n', n = n' + 1 := ⟨n - 1, by omega⟩
  have hm7 : x2.toInt.toNat * (164 + 11 * b.toNat) ≤ 7 * (164 + 11 * b.toNat) := Nat.mul_le_mul_right _ (by omega)
  have hm6 : x2.toInt ≤ 6 → x2.toInt.toNat * (164 + 11 * b.toNat) ≤ 6 * (164 + 11 * b.toNat) := fun g => Nat.mul_le_mul_right _ (by omega)
  have hsu : x2.toInt ≤ 6 → (x2 + 1).toInt = x2.toInt + 1 ∧ (x2 + 1).toInt.toNat * (164 + 11 * b.toNat) = x2.toInt.toNat * (164 + 11 * b.toNat) + (164 + 11 * b.toNat) := by
    intro g
    have e : (x2 + 1).toInt = x2.toInt + 1 := inc1 (by omega)
    have e3 : (x2 + 1).toInt.toNat = x2.toInt.toNat + 1 := by rw [e]; omega
    exact ⟨e, by rw [e3, Nat.add_mul, Nat.one_mul]⟩
  generalize hWW : x2.toInt.toNat * (164 + 11 * b.toNat) = W at *
  have b51 : ((tkZ U).1 j).toInt ≠ 4 → w_X11_statute_B51 cy tE mc ms post T nc ns x1 := by
    intro g4
    refine r_st51E cy tE mc ms S x1 post b nc ns T (tkZ U) j x1.toInt.toNat ⟨by omega, by omega⟩ hFT hW0 hs0 eT hRT hzT hBT hpl (by omega) (fun gz V v1 v2 v3 v4 v5 v6 v7 => ?_) (fun gz V v1 v2 v3 v4 v5 v6 v7 => ?_)
    · have er := hRES.trans (ypSt_1 gz g4)
      refine out V _ (stO_b hp01 (by rw [er]; exact Nat.succ_ne_zero 0)) v1 v2 v3 v4 ?_ ?_ (Or.inr ⟨v7.trans t32, rfl⟩)
      · rw [v5, er]; rfl
      · rw [v6, er]
    · have er := hRES.trans (ypSt_0 gz)
      have ho := stO_g (ac := ac) hp01 (by rw [er])
      rw [er] at ho
      exact out V _ ho v1 v2 v3 v4 (by rw [v5, t19]; exact li_0) (v6.trans t20) (Or.inl v7)
  unfold w_X11_statute_F16
  refine ⟨fun g => by exfalso; omega, fun g6 => ⟨⟨by omega, by omega⟩, r_5_kindE cy tE T _ b (tkZ U) j hRT hzT ⟨fun g4 => b51 g4, fun g4 => ?_⟩⟩⟩
  have hm6 := hm6 g6
  obtain ⟨hi1, hi2⟩ := hsu g6
  refine ⟨37, 164 + 11 * b.toNat, ⟨by omega, by omega⟩, r_5_readActE cy tE 37 _ T _ b (tkZ U) j hRT hzT g4 hBT ⟨by omega, by omega⟩ (fun V hVF gV hBV hXB => ⟨fun g => absurd li_0 g, fun _ => ⟨⟨by omega, by omega⟩, ?_⟩⟩) (fun V hVF hRV hgd hzV v19 v20 hBV hrd6 => ⟨fun _ => ?_, fun g => absurd g (by decide)⟩)⟩
  · have hFV : FX S V := hFT.tr (hVF.wk (by decide))
    have eV : fi V.1 0 = 0 := (hVF.1 0 (by decide)).trans eT
    have er := hRES.trans (ypSt_b g4 hXB.1)
    obtain ⟨A3, a0, a1, a2, b0, b1, b2, c0, c1, c2, d0, d1, d2, hX3, hV3, -⟩ := hBV
    refine out V _ (stO_b hp01 (by rw [er]; exact hXB.1)) (KI_mk hFV hW0 hs0 gV eV hX3) hFV eV ⟨A3, a0, a1, a2, b0, b1, b2, c0, c1, c2, d0, d1, d2, hX3, hV3⟩ ?_ ?_ (Or.inr ⟨(hVF.1 32 (by decide)).trans t32, rfl⟩)
    · rw [er]; exact hXB.2.1
    · rw [er]; exact hXB.2.2
  · have hFV : FX S V := hFT.tr (hVF.wk (by decide))
    have eV : fi V.1 0 = 0 := (hVF.1 0 (by decide)).trans eT
    refine hk _ _ _ _ _ ⟨rfl, by rw [hi1]; omega, ⟨by rw [hi1]; omega, by rw [hi2]; omega⟩, hFV, eV, hRV, ⟨v19.trans t19, v20.trans t20, (hVF.1 32 (by decide)).trans t32⟩, _, n', _, hzV, hBV, ?_, ?_, hRES.trans (ypSt_g g4 hgd)⟩ (by rw [hi1]; omega)
    · rw [hi1, List.length_append]
      simp only [List.length_cons, List.length_nil]
      omega
    · rw [List.length_append]
      simp only [List.length_cons, List.length_nil]
      omega
