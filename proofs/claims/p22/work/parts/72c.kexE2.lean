def SGe (b : Int) (Z : TS) (n : Int) (sg : KS → Int32 → (Int32 → KS → Prop) → Prop) : Prop := ∀ (S : KS) (p : Int32) (post : Int32 → KS → Prop) (j D : Nat), RD b S → ZS Z j S → p.toInt = 8 - (D : Int) → D ≤ 8 → (D : Int) + 1 ≤ n → (∀ S', KFr S S' → XB Z S' (ypCl Z D j) → post 0 S') → (∀ S' d l, 1 ≤ l → l ≤ d → (l = d → l % 2 = 1) → Mv b S S' d l → XG Z S S' (ypCl Z D j) → post 1 S') → sg S p post
set_option maxHeartbeats 800000 in
theorem r_5_eitherE (cy : Nat → ClassId) (tE : Nat) (S : KS) (p : Int32) (post : Int32 → KS → Prop) (n : Int) (sg : KS → Int32 → (Int32 → KS → Prop) → Prop) (b : Int) (Z : TS) (j : Nat) (h : RD b S) (hz : ZS Z j S) (D : Nat) (hg : SGe b Z n sg) (hp : p.toInt = 8 - (D : Int)) (hD : D ≤ 8) (hn : (D : Int) + 1 ≤ n) (k0 : ∀ S', KFr S S' → XB Z S' (ypAny Z (ypCl Z D) j) → post 0 S') (k1 : ∀ S' d l, 1 ≤ l → l ≤ d → (l = d → l % 2 = 1) → Mv b S S' d l → XG Z S S' (ypAny Z (ypCl Z D) j) → post 1 S') : w_X5_readEither_R cy tE sg S p post := by
  have hl := RD_l h
  have hl0 := RD_l0 h
  have e0 : ypAny Z (ypCl Z D) j = ypFL Z 16 15 15 (ypCl Z D) (ypCl Z D j) ypOk 800 800 := ypFL_st Z 16 15 15 (ypCl Z D) j
  generalize ypAny Z (ypCl Z D) j = RES at e0 k0 k1
  unfold w_X5_readEither_R
  refine hg S p _ j D h hz hp hD hn (fun T hT hB => ⟨fun g => absurd li_0 g, fun _ => k0 _ hT (by rw [e0, ypFL_b hB.1]; exact hB)⟩) (fun T d l a1 a2 a3 hT hX => ⟨fun _ => ?_, fun g => absurd g (by decide)⟩)
  refine lr4 (fun (U : KS) (p' w i : Int32) => p' = p ∧ (∃ (d l e : Int) (acc : YR) (q : Nat → YR) (nt np : Nat), (Mv b S U d l ∧ 1 ≤ l ∧ ((w.toInt = 0 ∧ e = 0 ∧ q = ypOk) ∨ (w.toInt ≠ 0 ∧ e = 1 ∧ q = ypEm 15 0)) ∧ l + e ≤ d ∧ (l + e = d → (l + e) % 2 = 1)) ∧ XG Z S U acc ∧ RES = ypFL Z 16 15 15 (ypCl Z D) acc q nt np ∧ 800 ≤ nt + acc.2.1 ∧ 800 ≤ np + acc.2.1 ∧ i.toInt ≤ (acc.2.1 : Int)) ∧ 0 ≤ i.toInt ∧ i.toInt ≤ 701) (fun _ _ _ i => (701 - i.toInt).toNat) ?_ _ _ _ _ ⟨rfl, ⟨d, l, 0, ypCl Z D j, ypOk, 800, 800, ⟨hT, a1, Or.inl ⟨by decide, rfl, rfl⟩, by omega, by omega⟩, hX, e0, by omega, by omega, by rw [li_0]; omega⟩, by decide, by decide⟩
  clear hT a1 a2 a3 d l hX T
  rintro kk T p' w i ⟨rfl, ⟨d, l, e, acc, q, nt, np, ⟨hT, hl1, he, hle, hpar⟩, hX, hR, hnt, hnp, hia⟩, i0, i1⟩ hk
  have hTc := Mv_c hT
  have cT := (RD_c hT.2.1).1
  have hRT0 := RD_l0 hT.2.1
  have hzT : ZS Z acc.2.1 T := hX.2.1
  have hpos := hT.2.1.2.1.2
  rw [hzT.2.2] at hpos
  have hq : (q acc.2.1).1 = 0 ∧ (q acc.2.1).2.1 = acc.2.1 := by
    rcases he with ⟨-, -, e⟩ | ⟨-, -, e⟩ <;> rw [e] <;> exact ⟨rfl, rfl⟩
  unfold w_X5_readEither_F14
  have out : ((Z.1 acc.2.1).toInt ≠ 16 ∧ (Z.1 acc.2.1).toInt ≠ 15 ∧ (Z.1 acc.2.1).toInt ≠ 15) → w_X5_readEither_B128 cy tE sg post T w := by
    intro hn
    have eR := hR.trans (ypFL_no hn hq)
    unfold w_X5_readEither_B128 w_X5_readEither_B139
    refine ⟨fun g => k1 T d l hl1 (by omega) (by omega) hT ?_, fun g => r_5_emitE cy tE T _ _ _ b Z acc.2.1 hT.2.1 hzT (by omega) (fun V hV hXV => k1 V (d + 0) (l + 1) (by omega) (by omega) (by omega) (Mv_tr hT hV) ?_)⟩
    · have eq : q = ypOk := by
        rcases he with ⟨-, -, e⟩ | ⟨e, -, -⟩
        · exact e
        · exact absurd g e
      rw [eR, eq, ypBn_r]; exact hX
    · have eq : q = ypEm 15 0 := by
        rcases he with ⟨e, -, -⟩ | ⟨-, -, e⟩
        · exact absurd e g
        · exact e
      rw [eR, eq]
      exact XG_tr hl0 hX hXV
  have b99A : ∀ (U : KS) (x y : Int32) (d2 : Int), (Z.1 acc.2.1).toInt = 16 → x.toInt ≠ 0 → ((y.toInt = 0 ∧ e = 0 ∧ q = ypOk) ∨ (y.toInt ≠ 0 ∧ e = 1 ∧ q = ypEm 15 0)) → Mv b S U d2 l → XG Z T U (ypOk (acc.2.1 + 1)) → l + e + 2 ≤ d2 → w_X5_readEither_B99 cy tE sg post kk (w_X5_readEither_B128 cy tE sg post) U p' i x y := by
    intro U x y d2 gx hx0 he2 hU hXU a3
    obtain ⟨n2, hn2⟩ : ∃ n, nt = n + 1 := ⟨nt - 1, by omega⟩
    have e16 : Z.1 acc.2.1 = 16 := i_eq (by rw [gx]; decide)
    rw [hn2] at hR
    have hR2 := hR.trans (ypFL_in gx)
    unfold w_X5_readEither_B99 w_X5_readEither_B122
    refine hg U p' _ (acc.2.1 + 1) D hU.2.1 hXU.2.1 hp hD hn (fun V hV hB => ⟨fun g => absurd li_0 g, fun _ => k0 _ (KF_tr hU.1 hV) ?_⟩) (fun V d' l' c1 c2 c3 hV hXV => ⟨fun _ => ⟨fun g => absurd g hx0, fun _ => ?_⟩, fun g => absurd g (by decide)⟩)
    · have hB2 : XB Z V (ypBn acc (fun i => ypBn (ypCl Z D (i + 1)) (ypEm (Z.1 i) 0))) := XB_tr hX (XB_l hB)
      rw [hR2, ypFL_b hB2.1]; exact hB2
    have hV2 := Mv_tr hU hV
    have hVc := Mv_c hV2
    refine r_5_emitE cy tE V _ _ _ b Z (ypCl Z D (acc.2.1 + 1)).2.1 hV.2.1 hXV.2.1 (by omega) (fun W hW hXW => ?_)
    have hXT : XG Z T W (ypBn (ypCl Z D (acc.2.1 + 1)) (ypEm (Z.1 acc.2.1) 0)) := by
      rw [e16]
      exact XG_tr hRT0 (XG_t0 hRT0 hXU hXV) hXW
    have hXS : XG Z S W (ypBn acc (fun i => ypBn (ypCl Z D (i + 1)) (ypEm (Z.1 i) 0))) := XG_tr hl0 hX hXT
    have hpp : (ypBn acc (fun i => ypBn (ypCl Z D (i + 1)) (ypEm (Z.1 i) 0))).2.1 = (ypCl Z D (acc.2.1 + 1)).2.1 := by
      rw [ypBn_2 hXS.1, ypBn_2 hXT.1]
      rfl
    have hlt := ypCl_lt Z D _ hXV.1
    exact hk _ _ _ _ ⟨rfl, ⟨_, _, e, _, q, n2, np, ⟨Mv_tr hV2 hW, by omega, he2, by omega, by omega⟩, hXS, hR2, by omega, by omega, by rw [inc1 (by omega)]; omega⟩, by rw [inc1 (by omega)]; omega, by rw [inc1 (by omega)]; omega⟩ (by rw [inc1 (by omega)]; omega)
  have b99O : ∀ (U : KS) (d2 l2 : Int), (Z.1 acc.2.1).toInt = 15 → Mv b S U d2 l2 → XG Z T U (ypBn (q acc.2.1) (fun i => ypOk (i + 1))) → 1 ≤ l2 → l2 + 2 ≤ d2 → w_X5_readEither_B99 cy tE sg post kk (w_X5_readEither_B128 cy tE sg post) U p' i 0 1 := by
    intro U d2 l2 gx hU hXU a1 a3
    obtain ⟨n2, hn2⟩ : ∃ n, np = n + 1 := ⟨np - 1, by omega⟩
    have e15 : Z.1 acc.2.1 = 15 := i_eq (by rw [gx]; decide)
    rw [hn2] at hR
    have hR2 := hR.trans (ypFL_out (Or.inl gx) (by omega) hq)
    rw [e15] at hR2
    have hp0 : (ypBn (q acc.2.1) (fun i => ypOk (i + 1))).2.1 = acc.2.1 + 1 := by rw [ypBn_2 hXU.1, hq.2]; rfl
    have hzU : ZS Z (acc.2.1 + 1) U := by
      have hh := hXU.2.1
      rw [hp0] at hh
      exact hh
    have eqf : ypBn (ypBn acc q) (fun i => ypCl Z D (i + 1)) = ypBn acc (fun i => ypBn (ypBn (q i) (fun i => ypOk (i + 1))) (ypCl Z D)) := by
      rw [ypBn_as]
      refine ypBn_c (fun _ => ?_)
      show ypBn (q acc.2.1) _ = ypBn (ypBn (q acc.2.1) _) _
      rw [ypBn_as]
      exact ypBn_c (fun _ => (ypBn_ok _ _).symm)
    unfold w_X5_readEither_B99 w_X5_readEither_B122
    refine hg U p' _ (acc.2.1 + 1) D hU.2.1 hzU hp hD hn (fun V hV hB => ⟨fun g => absurd li_0 g, fun _ => k0 _ (KF_tr hU.1 hV) ?_⟩) (fun V d' l' c1 c2 c3 hV hXV => ⟨fun _ => ⟨fun _ => ?_, fun g => absurd li_0 g⟩, fun g => absurd g (by decide)⟩)
    · have hB2 : XB Z V (ypBn (ypBn acc q) (fun i => ypCl Z D (i + 1))) := by
        rw [eqf]
        exact XB_tr hX (XB_tr hXU (by rw [hp0]; exact hB))
      rw [hR2, ypFL_b hB2.1]; exact hB2
    · have hXS : XG Z S V (ypBn (ypBn acc q) (fun i => ypCl Z D (i + 1))) := by
        rw [eqf]
        exact XG_tr hl0 hX (XG_tr hRT0 hXU (by rw [hp0]; exact hXV))
      have hpp : (ypBn (ypBn acc q) (fun i => ypCl Z D (i + 1))).2.1 = (ypCl Z D (acc.2.1 + 1)).2.1 := by
        have h1 := ypBn_1 hXS.1
        rw [ypBn_2 hXS.1, ypBn_2 h1.1, hq.2]
      have hlt := ypCl_lt Z D _ hXV.1
      exact hk _ _ _ _ ⟨rfl, ⟨_, _, 1, _, _, 800, n2, ⟨Mv_tr hU hV, by omega, Or.inr ⟨by decide, rfl, rfl⟩, by omega, by omega⟩, hXS, hR2, by omega, by omega, by rw [inc1 (by omega)]; omega⟩, by rw [inc1 (by omega)]; omega, by rw [inc1 (by omega)]; omega⟩ (by rw [inc1 (by omega)]; omega)
  have b43 : ((Z.1 acc.2.1).toInt = 15 ∨ (Z.1 acc.2.1).toInt = 16) → w_X5_readEither_B43 cy tE sg post kk (w_X5_readEither_B128 cy tE sg post) T p' w i := by
    intro gk
    have hw : wdt ((Z.1 acc.2.1).toInt) = 2 := by rcases gk with g | g <;> rw [g] <;> decide
    obtain ⟨hN1, hXN⟩ := RD_nxE hT.2.1 hzT (by omega)
    rw [hw] at hN1
    have hN := Mv_tr hT hN1
    have hNc := Mv_c hN
    have hNA : Mv b S (ksi T 15 (fi T.1 15 + 1)) (d + 2) l := by
      rw [Int.add_zero] at hN; exact hN
    unfold w_X5_readEither_B43 w_X5_readEither_B57 w_X5_readEither_B85 w_X5_readEither_B94
    refine r_5_kindE cy tE T _ b Z acc.2.1 hT.2.1 hzT ⟨fun g => ⟨fun g2 => absurd li_0 g2, fun _ => ⟨fun g3 => ?_, fun g3 => ?_⟩⟩, fun g => ⟨fun _ => ?_, fun g2 => absurd g2 (by decide)⟩⟩
    · refine ⟨fun g4 => absurd g3 g4, fun _ => ⟨fun g4 => absurd li_0 g4, fun _ => b99O _ _ _ (by omega) hN ?_ (by omega) (by omega)⟩⟩
      have eq : q = ypOk := by
        rcases he with ⟨-, -, e⟩ | ⟨e, -, -⟩
        · exact e
        · exact absurd g3 e
      rw [eq]
      exact hXN
    · refine r_5_emitE cy tE _ _ _ _ b Z (acc.2.1 + 1) hN.2.1 hXN.2.1 (by omega) (fun W hW hXW => ⟨fun _ => b99O _ _ _ (by omega) (Mv_tr hN hW) ?_ (by omega) (by omega), fun g4 => absurd g4 g3⟩)
      have eq : q = ypEm 15 0 := by
        rcases he with ⟨e, -, -⟩ | ⟨-, -, e⟩
        · exact absurd e g3
        · exact e
      rw [eq]
      have hh := XG_tr (f := ypEm 15 0) hRT0 hXN hXW
      exact hh
    · refine ⟨fun g3 => b99A _ 1 1 _ g (by decide) ?_ hNA hXN (by omega), fun g3 => ⟨fun _ => b99A _ 1 0 _ g (by decide) ?_ hNA hXN (by omega), fun g4 => absurd g4 (by decide)⟩⟩
      · rcases he with ⟨e, -, -⟩ | ⟨-, e⟩
        · exact absurd e g3
        · exact Or.inr ⟨by decide, e⟩
      · rcases he with ⟨-, e⟩ | ⟨e, -, -⟩
        · exact Or.inl ⟨by decide, e⟩
        · exact absurd g3 e
  exact ⟨fun g => by exfalso; omega, fun gi => r_5_kindE cy tE T _ b Z acc.2.1 hT.2.1 hzT ⟨fun g => b43 (Or.inr g), fun g1 => r_5_kindE cy tE T _ b Z acc.2.1 hT.2.1 hzT ⟨fun g2 => out ⟨g1, g2, g2⟩, fun g => b43 (Or.inl g)⟩⟩⟩
set_option maxHeartbeats 800000 in
theorem r_5_openedE (cy : Nat → ClassId) (tE : Nat) (S : KS) (p : Int32) (post : Int32 → KS → Prop) (n : Int) (sg : KS → Int32 → (Int32 → KS → Prop) → Prop) (b : Int) (Z : TS) (j : Nat) (h : RD b S) (hz : ZS Z j S) (D : Nat) (hg : SGe b Z n sg) (hk : (Z.1 j).toInt = 17 ∨ (Z.1 j).toInt = 27) (hp : p.toInt = 8 - (D : Int)) (hD : D ≤ 8) (hn : (D : Int) + 1 ≤ n) (k0 : ∀ S', KFr S S' → XB Z S' (ypCl Z (D + 1) j) → post 0 S') (k1 : ∀ S' d l, 1 ≤ l → l ≤ d → (l = d → l % 2 = 1) → Mv b S S' d l → XG Z S S' (ypCl Z (D + 1) j) → post 1 S') : w_X5_readOpened_R cy tE sg S (Z.1 j) p post := by
  have hl := RD_l h
  have hl0 := RD_l0 h
  obtain ⟨hN, hXN⟩ := RD_nxE h hz (by omega)
  unfold w_X5_readOpened_R
  have hw := wdt_ge ((Z.1 j).toInt)
  have hw3 : (Z.1 j).toInt = 17 → wdt ((Z.1 j).toInt) = 3 := fun g => by rw [g]; decide
  generalize ksi S 15 (fi S.1 15 + 1) = U at hN hXN ⊢
  have hNc := Mv_c hN
  refine ⟨fun g => ?_, fun g => ?_⟩
  · have e : ypCl Z (D + 1) j = ypBn (ypAny Z (ypCl Z D) (j + 1)) (ypEnd Z) := by
      show (if (Z.1 j).toInt = 17 then _ else _) = _
      rw [if_neg g, if_pos (by omega)]
    refine r_5_eitherE cy tE U p _ n sg b Z (j + 1) hN.2.1 hXN.2.1 D hg hp hD hn (fun T hT hB => ⟨fun g => absurd li_0 g, fun _ => k0 _ (KF_tr hN.1 hT) (by rw [e]; exact XB_l hB)⟩) (fun T d l a1 a2 a3 hT hXT => ⟨fun _ => ?_, fun g => absurd g (by decide)⟩)
    have hT2 := Mv_tr hN hT
    have hXT2 := XG_t0 hl0 hXN hXT
    generalize ypAny Z (ypCl Z D) (j + 1) = rr at e hXT hXT2
    have hzT : ZS Z rr.2.1 T := hXT.2.1
    refine r_5_kindE cy tE T _ b Z rr.2.1 hT.2.1 hzT ⟨fun g2 => ?_, fun g2 => r_5_refuseE cy tE T _ _ b Z rr.2.1 hT.2.1 hzT 1 (by decide) (by decide) (fun V hV hB => ⟨Or.inl rfl, k0 _ (KF_tr hT2.1 hV) ?_⟩)⟩
    · obtain ⟨hN2, hXN2⟩ := RD_nxE hT.2.1 hzT (by omega)
      have hw2 := wdt_ge ((Z.1 rr.2.1).toInt)
      refine k1 _ _ _ (by omega) (by omega) (by omega) (Mv_tr hT2 hN2) ?_
      rw [e]
      refine XG_tr hl0 hXT2 ?_
      unfold ypEnd
      rw [if_pos g2]
      exact hXN2
    · rw [e]
      refine XB_tr hXT2 ?_
      unfold ypEnd
      rw [if_neg g2]
      exact hB
  · have hw4 := hw3 g
    have e : ypCl Z (D + 1) j = ypBn (ypCl Z D (j + 1)) (ypEm 17 0) := by
      show (if (Z.1 j).toInt = 17 then _ else _) = _
      rw [if_pos g]
    refine hg U p _ (j + 1) D hN.2.1 hXN.2.1 hp hD hn (fun T hT hB => ⟨fun g => absurd li_0 g, fun _ => k0 _ (KF_tr hN.1 hT) (by rw [e]; exact XB_l hB)⟩) (fun T d l a1 a2 a3 hT hXT => ⟨fun _ => ?_, fun g => absurd g (by decide)⟩)
    have hT2 := Mv_tr hN hT
    have hTc := Mv_c hT2
    exact r_5_emitE cy tE T _ _ _ b Z (ypCl Z D (j + 1)).2.1 hT.2.1 hXT.2.1 (by omega) (fun V hV hXV => k1 _ _ _ (by omega) (by omega) (by omega) (Mv_tr hT2 hV) (by rw [e]; exact XG_tr hl0 (XG_t0 hl0 hXN hXT) hXV))
theorem ypCl_c {Z : TS} {D j : Nat} (h : (Z.1 j).toInt ≠ 17 ∧ (Z.1 j).toInt ≠ 27) : ypCl Z D j = ypCmp Z j := by
  cases D with
  | zero =>
    show (if (Z.1 j).toInt = 17 ∨ (Z.1 j).toInt = 27 then _ else _) = _
    rw [if_neg (by omega)]
  | succ D =>
    show (if (Z.1 j).toInt = 17 then _ else _) = _
    rw [if_neg h.1, if_neg h.2]
set_option maxHeartbeats 800000 in
theorem r_5_claimE (cy : Nat → ClassId) (tE : Nat) (S : KS) (p : Int32) (post : Int32 → KS → Prop) (n : Int) (sg : KS → Int32 → (Int32 → KS → Prop) → Prop) (b : Int) (Z : TS) (j : Nat) (h : RD b S) (hz : ZS Z j S) (D : Nat) (hg : SGe b Z n sg) (hp : p.toInt = 8 - (D : Int)) (hD : D ≤ 8) (hn : (D : Int) ≤ n) (k0 : ∀ S', KFr S S' → XB Z S' (ypCl Z D j) → post 0 S') (k1 : ∀ S' d l, 1 ≤ l → l ≤ d → (l = d → l % 2 = 1) → Mv b S S' d l → XG Z S S' (ypCl Z D j) → post 1 S') : w_X5_readClaim_R cy tE sg S p post := by
  have hl := RD_l h
  have hl0 := RD_l0 h
  have b17 : ((Z.1 j).toInt = 17 ∨ (Z.1 j).toInt = 27) → w_X5_readClaim_B17 cy tE sg post S p (Z.1 j) := by
    intro hk
    unfold w_X5_readClaim_B17 w_X5_readClaim_B39
    refine ⟨fun g => r_5_refuseE cy tE S _ _ b Z j h hz 3 (by decide) (by decide) (fun V hV hB => ⟨Or.inl rfl, k0 _ hV ?_⟩), fun g => ?_⟩
    · have eD : D = 0 := by omega
      have e : ypCl Z D j = ypNo 3 j := by
        rw [eD]
        show (if (Z.1 j).toInt = 17 ∨ (Z.1 j).toInt = 27 then _ else _) = _
        rw [if_pos hk]
      rw [e]; exact hB
    · obtain ⟨D', hD'⟩ : ∃ D', D = D' + 1 := ⟨D - 1, by omega⟩
      rw [hD'] at k0 k1 hp hD hn
      have e1 := inc1 (x := p) (by omega)
      exact r_5_openedE cy tE S _ _ n sg b Z j h hz D' hg hk (by rw [e1]; omega) (by omega) (by omega) (fun V hV hB => ⟨Or.inl rfl, k0 _ hV hB⟩) (fun V d l a1 a2 a3 hV hXV => ⟨Or.inr rfl, k1 _ _ _ a1 a2 a3 hV hXV⟩)
  unfold w_X5_readClaim_R
  refine r_5_kindE cy tE S _ b Z j h hz ⟨fun g => b17 (Or.inl g), fun g17 => ⟨fun g27 => ?_, fun g => b17 (Or.inr g)⟩⟩
  rw [ypCl_c ⟨g17, g27⟩] at k0 k1
  unfold ypCmp at k0 k1
  refine r_5_readSumE cy tE S _ b Z j h hz (fun T hT hB => ⟨fun g => absurd li_0 g, fun _ => k0 _ hT (XB_l hB)⟩) (fun T d l a1 a2 a3 hT hXT => ⟨fun _ => ?_, fun g => absurd g (by decide)⟩)
  generalize ypSum Z j = rr at k0 k1 hXT
  have hzT : ZS Z rr.2.1 T := hXT.2.1
  have hT0 := RD_l0 hT.2.1
  have b78 : ((Z.1 rr.2.1).toInt = 29 ∨ (Z.1 rr.2.1).toInt = 30 ∨ (Z.1 rr.2.1).toInt = 31) → w_X5_readClaim_B78 cy tE sg post T (Z.1 rr.2.1) := by
    intro hk
    obtain ⟨hN1, hXN⟩ := RD_nxE hT.2.1 hzT (by omega)
    have hN := Mv_tr hT hN1
    have hw := wdt_ge ((Z.1 rr.2.1).toInt)
    unfold w_X5_readClaim_B78
    generalize ksi T 15 (fi T.1 15 + 1) = U at hN hN1 hXN ⊢
    refine r_5_readSumE cy tE U _ b Z (rr.2.1 + 1) hN.2.1 hXN.2.1 (fun V hV hB => ⟨fun g => absurd li_0 g, fun _ => k0 _ (KF_tr hN.1 hV) (XB_tr hXT ?_)⟩) (fun V d' l' c1 c2 c3 hV hXV => ⟨fun _ => ?_, fun g => absurd g (by decide)⟩)
    · show XB Z V (if (Z.1 rr.2.1).toInt = 29 ∨ (Z.1 rr.2.1).toInt = 30 ∨ (Z.1 rr.2.1).toInt = 31 then _ else _)
      rw [if_pos hk]
      exact XB_l hB
    · have hV2 := Mv_tr hN hV
      have hVc := Mv_c hV2
      refine r_5_emitE cy tE V _ _ _ b Z (ypSum Z (rr.2.1 + 1)).2.1 hV.2.1 hXV.2.1 (by omega) (fun W hW hXW => k1 _ _ _ (by omega) (by omega) (by omega) (Mv_tr hV2 hW) (XG_tr hl0 hXT ?_))
      show XG Z T W (if (Z.1 rr.2.1).toInt = 29 ∨ (Z.1 rr.2.1).toInt = 30 ∨ (Z.1 rr.2.1).toInt = 31 then _ else _)
      rw [if_pos hk]
      exact XG_tr hT0 (XG_t0 hT0 hXN hXV) hXW
  refine r_5_kindE cy tE T _ b Z rr.2.1 hT.2.1 hzT ⟨fun g => b78 (Or.inl g), fun g1 => ⟨fun g => b78 (Or.inr (Or.inl g)), fun g2 => ⟨fun g => b78 (Or.inr (Or.inr g)), fun g3 => r_5_refuseE cy tE T _ _ b Z rr.2.1 hT.2.1 hzT 1 (by decide) (by decide) (fun V hV hB => ⟨Or.inl rfl, k0 _ (KF_tr hT.1 hV) (XB_tr hXT ?_)⟩)⟩⟩⟩
  show XB Z V (if (Z.1 rr.2.1).toInt = 29 ∨ (Z.1 rr.2.1).toInt = 30 ∨ (Z.1 rr.2.1).toInt = 31 then _ else _)
  rw [if_neg (by omega)]
  exact hB
set_option maxHeartbeats 800000 in
theorem r_5_fuelE (cy : Nat → ClassId) (tE : Nat) (b : Int) (Z : TS) : ∀ n : Nat, SGe b Z (n : Int) (lpn (w_X5_readClaim_R cy tE) (fun _ _ _ => False) n) := by
  intro n
  induction n with
  | zero => intro S p post j D _ _ _ _ hn _ _; exact absurd hn (by omega)
  | succ n ih =>
    intro S p post j D hR hZ hp hD hn k0 k1
    exact r_5_claimE cy tE S p post (n : Int) _ b Z j hR hZ D ih hp hD (by omega) k0 k1
set_option maxHeartbeats 800000 in
theorem r_5_readEitherE (cy : Nat → ClassId) (tE : Nat) (S : KS) (post : Int32 → KS → Prop) (b : Int) (Z : TS) (j : Nat) (h : RD b S) (hz : ZS Z j S) (k0 : ∀ S', KFr S S' → XB Z S' (ypAny Z (ypCl Z 8) j) → post 0 S') (k1 : ∀ S' d l, 1 ≤ l → l ≤ d → (l = d → l % 2 = 1) → Mv b S S' d l → XG Z S S' (ypAny Z (ypCl Z 8) j) → post 1 S') : w_X5_readEither cy tE S 0 post := by
  have hf := r_5_fuelE cy tE b Z 10
  unfold w_X5_readEither
  exact r_5_eitherE cy tE S 0 post ((10 : Nat) : Int) _ b Z j h hz 8 hf (by decide) (by decide) (by decide) k0 k1
set_option maxHeartbeats 800000 in
theorem r_5_isAtEndE (cy : Nat → ClassId) (tE : Nat) (S : KS) (post : Int32 → KS → Prop) (b : Int) (Z : TS) (j : Nat) (h : RD b S) (hz : ZS Z j S) (k0 : ∀ S', (Z.1 j).toInt ≠ 0 → KFr S S' → XB Z S' (ypNo 1 j) → post 0 S') (k1 : (Z.1 j).toInt = 0 → post 1 S) : w_X5_isAtEnd cy tE S post := by
  unfold w_X5_isAtEnd w_X5_isAtEnd_B15 w_X5_isAtEnd_B20
  exact r_5_kindE cy tE S _ b Z j h hz ⟨fun g => ⟨Or.inr rfl, k1 g⟩, fun g0 => r_5_refuseE cy tE S _ _ b Z j h hz 1 (by decide) (by decide) (fun V hV hB => ⟨fun _ => ⟨Or.inl rfl, k0 _ g0 hV hB⟩, fun g => absurd li_0 g⟩)⟩
set_option maxHeartbeats 800000 in
theorem r_5_condE (cy : Nat → ClassId) (tE : Nat) (S : KS) (post : Int32 → KS → Prop) (b : Int) (Z : TS) (j : Nat) (h : RD b S) (hz : ZS Z j S) (k0 : ∀ S', KFr S S' → XB Z S' (ypCond Z j) → post 0 S') (k1 : ∀ S' d l, 1 ≤ l → l ≤ d → (l = d → l % 2 = 1) → Mv b S S' d l → XG Z S S' (ypCond Z j) → post 1 S') : w_X5_readCondition cy tE S post := by
  unfold w_X5_readCondition w_X5_readCondition_B19 w_X5_readCondition_B20
  unfold ypCond at k0 k1
  refine r_5_readEitherE cy tE S _ b Z j h hz (fun T hT hB => ⟨fun _ => ⟨Or.inl rfl, k0 _ hT (XB_l hB)⟩, fun g => absurd li_0 g⟩) (fun T d l a1 a2 a3 hT hXT => ⟨fun g => absurd g (by decide), fun _ => ?_⟩)
  generalize ypAny Z (ypCl Z 8) j = rr at k0 k1 hXT
  refine r_5_isAtEndE cy tE T _ b Z rr.2.1 hT.2.1 hXT.2.1 (fun V g0 hV hB => ⟨fun _ => ⟨Or.inl rfl, k0 _ (KF_tr hT.1 hV) (XB_tr hXT ?_)⟩, fun g => absurd li_0 g⟩) (fun g0 => ⟨fun g => absurd g (by decide), fun _ => ⟨Or.inr rfl, k1 _ _ _ a1 a2 a3 hT ?_⟩⟩)
  · show XB Z V (if (Z.1 rr.2.1).toInt = 0 then _ else _)
    rw [if_neg g0]; exact hB
  · rw [ypBn_r2 (fun _ => if_pos g0)]; exact hXT
/-- + E, or where m says so - E -/
def ypAm (Z : TS) (m : Bool) (j : Nat) : YR := if (Z.1 j).toInt = 24 then ypSum Z (j + 1) else if m = true ∧ (Z.1 j).toInt = 25 then ypBn (ypBn (ypEm 2 0 (j + 1)) (ypSum Z)) (ypEm 25 0) else ypNo 1 j
set_option maxHeartbeats 800000 in
theorem r_5_amountE (cy : Nat → ClassId) (tE : Nat) (S : KS) (z : Int32) (post : Int32 → KS → Prop) (b : Int) (Z : TS) (j : Nat) (h : RD b S) (hz : ZS Z j S) (m : Bool) (hm : z.toInt ≠ 0 ↔ m = true) (h1 : (fi S.1 16).toInt + 1 ≤ pn S) (k0 : ∀ S', KFr S S' → XB Z S' (ypAm Z m j) → post 0 S') (k1 : ∀ S' d l, 1 ≤ l → l ≤ d + 1 → Mv b S S' d l → XG Z S S' (ypAm Z m j) → post 1 S') : w_X5_readAmount cy tE S z post := by
  have hl0 := RD_l0 h
  have hw := wdt_ge ((Z.1 j).toInt)
  have b24 : (Z.1 j).toInt = 24 → w_X5_readAmount_B38 cy tE post S 0 := by
    intro hk
    have e : ypAm Z m j = ypSum Z (j + 1) := if_pos hk
    rw [e] at k0 k1
    obtain ⟨hN, hXN⟩ := RD_nxE h hz (by omega)
    unfold w_X5_readAmount_B38 w_X5_readAmount_B58 w_X5_readAmount_B78
    generalize ksi S 15 (fi S.1 15 + 1) = U at hN hXN ⊢
    refine ⟨fun _ => ?_, fun g => absurd li_0 g⟩
    exact r_5_readSumE cy tE U _ b Z (j + 1) hN.2.1 hXN.2.1 (fun V hV hB => ⟨fun g => absurd li_0 g, fun _ => k0 _ (KF_tr hN.1 hV) hB⟩) (fun V d' l' c1 c2 c3 hV hXV => ⟨fun _ => ⟨fun _ => k1 _ _ _ (by omega) (by omega) (Mv_tr hN hV) (XG_t0 hl0 hXN hXV), fun g => absurd li_0 g⟩, fun g => absurd g (by decide)⟩)
  have b25 : (Z.1 j).toInt = 25 → m = true → w_X5_readAmount_B38 cy tE post S 1 := by
    intro hk hmt
    have e : ypAm Z m j = ypBn (ypBn (ypEm 2 0 (j + 1)) (ypSum Z)) (ypEm 25 0) := by
      unfold ypAm
      rw [if_neg (by omega), if_pos ⟨hmt, hk⟩]
    rw [e] at k0 k1
    obtain ⟨hN, hXN⟩ := RD_nxE h hz (by omega)
    unfold w_X5_readAmount_B38 w_X5_readAmount_B58 w_X5_readAmount_B78
    generalize ksi S 15 (fi S.1 15 + 1) = U at hN hXN ⊢
    have hNc := Mv_c hN
    refine ⟨fun g => absurd g (by decide), fun _ => r_5_emitE cy tE U _ _ _ b Z (j + 1) hN.2.1 hXN.2.1 (by omega) (fun W hW hXW => ?_)⟩
    have hW2 := Mv_tr hN hW
    have hXW2 := XG_t0 hl0 hXN hXW
    refine r_5_readSumE cy tE W _ b Z (j + 1) hW.2.1 hXW.2.1 (fun V hV hB => ⟨fun g => absurd li_0 g, fun _ => k0 _ (KF_tr hW2.1 hV) (XB_l (XB_tr hXW2 hB))⟩) (fun V d' l' c1 c2 c3 hV hXV => ⟨fun _ => ⟨fun g => absurd g (by decide), fun _ => ?_⟩, fun g => absurd g (by decide)⟩)
    have hV2 := Mv_tr hW2 hV
    have hVc := Mv_c hV2
    have hXV2 := XG_tr (f := ypSum Z) hl0 hXW2 hXV
    exact r_5_emitE cy tE V _ _ _ b Z _ hV.2.1 hXV2.2.1 (by omega) (fun Y hY hXY => k1 _ _ _ (by omega) (by omega) (Mv_tr hV2 hY) (XG_tr hl0 hXV2 hXY))
  have b18 : (m = true → (Z.1 j).toInt ≠ 25) → w_X5_readAmount_B18 cy tE post S 0 := by
    intro hn
    unfold w_X5_readAmount_B18
    refine r_5_kindE cy tE S _ b Z j h hz ⟨b24, fun g24 => ⟨fun g => absurd li_0 g, fun _ => r_5_refuseE cy tE S _ _ b Z j h hz 1 (by decide) (by decide) (fun V hV hB => ⟨Or.inl rfl, k0 _ hV ?_⟩)⟩⟩
    have e : ypAm Z m j = ypNo 1 j := by
      unfold ypAm
      rw [if_neg g24, if_neg (fun g => hn g.1 g.2)]
    rw [e]; exact hB
  unfold w_X5_readAmount w_X5_readAmount_B17
  refine ⟨fun g => b18 (fun hmt => absurd g (hm.mpr hmt)), fun g => r_5_kindE cy tE S _ b Z j h hz ⟨fun g25 => b18 (fun _ => g25), fun g25 => ?_⟩⟩
  unfold w_X5_readAmount_B18
  exact r_5_kindE cy tE S _ b Z j h hz ⟨fun g24 => by exfalso; omega, fun _ => ⟨fun _ => b25 g25 (hm.mp g), fun g0 => absurd g0 (by decide)⟩⟩
/-- what a CHANGE is of -/
def ypCh (Z : TS) (j : Nat) : YR := if (Z.1 j).toInt = 7 then ypPe Z false (j + 1) else if (Z.1 j).toInt = 8 ∨ (Z.1 j).toInt = 11 ∨ (Z.1 j).toInt = 12 ∨ (Z.1 j).toInt = 13 then ypPe Z true (j + 1) else if (Z.1 j).toInt = 9 then ypBn (ypFl false true (j + 1)) (fun i => if (Z.1 i).toInt = 10 then ypOk (i + 1) else ypPe Z false i) else if (Z.1 j).toInt = 14 then ypOk (j + 1) else ypNo 1 j
/-- its first P -/
def ypF1 (Z : TS) (j : Nat) : Int32 := if (Z.1 j).toInt = 14 then 0 else if (Z.1 j).toInt = 9 ∧ (Z.1 (j + 1)).toInt = 10 then 2 else Z.1 (j + 1) - 21
set_option maxHeartbeats 800000 in
theorem r_5_changedE (cy : Nat → ClassId) (tE : Nat) (S : KS) (post : Int32 → KS → Prop) (b : Int) (Z : TS) (j : Nat) (h : RD b S) (hz : ZS Z j S) (k0 : ∀ S', KFr S S' → XB Z S' (ypCh Z j) → post (-1) S') (k1 : ∀ S' d, (0 ≤ (ypF1 Z j).toInt ∧ (ypF1 Z j).toInt ≤ 2) → 1 ≤ d → Mv b S S' d 0 → XG Z S S' (ypCh Z j) → post (ypF1 Z j) S') : w_X5_readChanged cy tE S (Z.1 j) post := by
  have hl0 := RD_l0 h
  have hw := wdt_ge ((Z.1 j).toInt)
  have no : ((Z.1 j).toInt ≠ 7 ∧ (Z.1 j).toInt ≠ 8 ∧ (Z.1 j).toInt ≠ 9 ∧ (Z.1 j).toInt ≠ 11 ∧ (Z.1 j).toInt ≠ 12 ∧ (Z.1 j).toInt ≠ 13 ∧ (Z.1 j).toInt ≠ 14) → w_X5_readChanged_B134 cy tE post S := by
    intro g
    refine r_5_refuseE cy tE S _ _ b Z j h hz 1 (by decide) (by decide) (fun V hV hB => k0 _ hV ?_)
    have e : ypCh Z j = ypNo 1 j := by
      unfold ypCh
      rw [if_neg (by omega), if_neg (by omega), if_neg (by omega), if_neg (by omega)]
    rw [e]; exact hB
  have p1 : (Z.1 j).toInt = 7 → w_X5_readPersons cy tE (ksi S 15 (fi S.1 15 + 1)) 1 (fun r S' => post r S') := by
    intro hk
    obtain ⟨hN, hX⟩ := RD_nxE h hz (by omega)
    have e : ypCh Z j = ypPe Z false (j + 1) := if_pos hk
    have e1 : ypF1 Z j = Z.1 (j + 1) - 21 := by
      unfold ypF1
      rw [if_neg (by omega), if_neg (by omega)]
    rw [e, e1] at k1
    rw [e] at k0
    exact r_5_persons1E cy tE _ _ b Z (j + 1) hN.2.1 hX.2.1 (fun T hT hB => k0 _ (KF_tr hN.1 hT) hB) (fun T d hr hd hT hXT => k1 _ _ (by omega) (by omega) (Mv_tr hN hT) (XG_t0 hl0 hX hXT))
  have p2 : ((Z.1 j).toInt = 8 ∨ (Z.1 j).toInt = 11 ∨ (Z.1 j).toInt = 12 ∨ (Z.1 j).toInt = 13) → w_X5_readPersons cy tE (ksi S 15 (fi S.1 15 + 1)) 2 (fun r S' => post r S') := by
    intro hk
    obtain ⟨hN, hX⟩ := RD_nxE h hz (by omega)
    have e : ypCh Z j = ypPe Z true (j + 1) := by
      unfold ypCh
      rw [if_neg (by omega), if_pos hk]
    have e1 : ypF1 Z j = Z.1 (j + 1) - 21 := by
      unfold ypF1
      rw [if_neg (by omega), if_neg (by omega)]
    rw [e, e1] at k1
    rw [e] at k0
    exact r_5_persons2E cy tE _ _ b Z (j + 1) hN.2.1 hX.2.1 (fun T hT hB => k0 _ (KF_tr hN.1 hT) hB) (fun T d hr hd hT hXT => k1 _ _ (by omega) (by omega) (Mv_tr hN hT) (XG_t0 hl0 hX hXT))
  unfold w_X5_readChanged w_X5_readChanged_B118
  refine ⟨p1, fun g => p2 (Or.inl g), fun g => ?_, fun _ => no (by omega), fun g => p2 (Or.inr (Or.inl g)), fun g => p2 (Or.inr (Or.inr (Or.inl g))), fun g => p2 (Or.inr (Or.inr (Or.inr g))), fun g => ?_, fun g => no (by omega)⟩
  · obtain ⟨hN, hX⟩ := RD_nxE h hz (by omega)
    have hY := Mv_tr hN (RD_18 (y := 1) hN.2.1 (Or.inr rfl))
    have hXY : XG Z S (ksi (ksi S 15 (fi S.1 15 + 1)) 18 1) (ypFl false true (j + 1)) := XG_18 (x := true) hX rfl
    have e : ypCh Z j = ypBn (ypFl false true (j + 1)) (fun i => if (Z.1 i).toInt = 10 then ypOk (i + 1) else ypPe Z false i) := by
      unfold ypCh
      rw [if_neg (by omega), if_neg (by omega), if_pos g]
    generalize ksi (ksi S 15 (fi S.1 15 + 1)) 18 1 = U at hY hXY ⊢
    have hzU : ZS Z (j + 1) U := hXY.2.1
    refine r_5_kindE cy tE U _ b Z (j + 1) hY.2.1 hzU ⟨fun g2 => ?_, fun g2 => ?_⟩
    · have e1 : ypF1 Z j = Z.1 (j + 1) - 21 := by
        unfold ypF1
        rw [if_neg (by omega), if_neg (by omega)]
      rw [e, e1] at k1
      rw [e] at k0
      refine r_5_persons1E cy tE U _ b Z (j + 1) hY.2.1 hzU (fun T hT hB => k0 _ (KF_tr hY.1 hT) (XB_tr hXY ?_)) (fun T d hr hd hT hXT => k1 _ _ (by omega) (by omega) (Mv_tr hY hT) (XG_tr hl0 hXY ?_))
      · show XB Z T (if (Z.1 (j + 1)).toInt = 10 then _ else _)
        rw [if_neg g2]; exact hB
      · show XG Z U T (if (Z.1 (j + 1)).toInt = 10 then _ else _)
        rw [if_neg g2]; exact hXT
    · have e1 : ypF1 Z j = 2 := by
        unfold ypF1
        rw [if_neg (by omega), if_pos ⟨g, g2⟩]
      rw [e, e1] at k1
      obtain ⟨hN2, hX2⟩ := RD_nxE hY.2.1 hzU (by omega)
      have hw2 := wdt_ge ((Z.1 (j + 1)).toInt)
      refine k1 _ _ (by decide) (by omega) (Mv_tr hY hN2) (XG_tr hl0 hXY ?_)
      show XG Z U _ (if (Z.1 (j + 1)).toInt = 10 then _ else _)
      rw [if_pos g2]; exact hX2
  · obtain ⟨hN, hX⟩ := RD_nxE h hz (by omega)
    have e : ypCh Z j = ypOk (j + 1) := by
      unfold ypCh
      rw [if_neg (by omega), if_neg (by omega), if_neg (by omega), if_pos g]
    have e1 : ypF1 Z j = 0 := if_pos g
    rw [e, e1] at k1
    exact k1 _ _ (by decide) hw.1 hN hX

