theorem q_renE (S : GS) (r y : Nat) (post : Int32 → GS → Prop) (hr : r < 6) (hy : y ≤ 3) (hn : ∀ i, i < 18 → ar S 31 i = becI i) (k : post (nI (bcN r y)) S) : w_X12_renamed S (nI r) (nI y) post := by
  have er : (nI r).toInt = (r : Int) := nI_toInt (by omega)
  have ey : (nI y).toInt = (y : Int) := nI_toInt (by omega)
  unfold w_X12_renamed w_X12_renamed_B19
  refine ⟨fun h => ?_, fun h => ?_⟩
  · have e := ma_3 (p := nI r) (q := nI y) (by omega) (by omega)
    have en : ((3 : Int32) * nI r + nI y).toNatClampNeg = 3 * r + y := by rw [tnc, e]; omega
    rw [en, hn _ (by omega), bc_t r hr y (by omega)]
    exact ⟨by rw [e]; omega, k⟩
  · obtain rfl : y = 3 := by omega
    exact k
/-- what of a renamed STATE stands already -/
def D0 (P : Nat) (g : SV) (n : Nat) (a : Nat → Int32) : Prop := ∀ p, p < n → a (bcN P p) = g (bcN P p)
def D2 (T : Nat) (g : SV) (n : Nat) (a : Nat → Int32) : Prop := ∀ t, t < n → a (bcN T t) = g (40 + bcN T t)
def DP (P : Nat) (g : SV) (n m c : Nat) (a : Nat → Int32) : Prop := (∀ p q, p < n → q < 3 → p ≠ q → a (3 * bcN P p + bcN P q) = g (c + (3 * bcN P p + bcN P q))) ∧ ∀ q, q < m → q ≠ n → a (3 * bcN P n + bcN P q) = g (c + (3 * bcN P n + bcN P q))
theorem D0_0 {P : Nat} {g : SV} {a : Nat → Int32} : D0 P g 0 a := fun p h => absurd h (Nat.not_lt_zero p)
theorem D2_0 {T : Nat} {g : SV} {a : Nat → Int32} : D2 T g 0 a := fun p h => absurd h (Nat.not_lt_zero p)
theorem DP_0 {P c : Nat} {g : SV} {a : Nat → Int32} : DP P g 0 0 c a := ⟨fun p q h => absurd h (Nat.not_lt_zero p), fun q h => absurd h (Nat.not_lt_zero q)⟩
theorem D0_s {P n : Nat} {g : SV} {a : Nat → Int32} {x : Int32} (hP : P < 6) (hn : n < 3) (h : D0 P g n a) (hx : x = g (bcN P n)) : D0 P g (n + 1) (upd a (bcN P n) x) := by
  intro p hp
  by_cases e : p = n
  · rw [e, upd_at]; exact hx
  · rw [upd_ne (bc_ne P hP p (by omega) n hn e)]
    exact h p (by omega)
theorem D2_s {T n : Nat} {g : SV} {a : Nat → Int32} {x : Int32} (hT : T < 6) (hn : n < 3) (h : D2 T g n a) (hx : x = g (40 + bcN T n)) : D2 T g (n + 1) (upd a (bcN T n) x) := by
  intro p hp
  by_cases e : p = n
  · rw [e, upd_at]; exact hx
  · rw [upd_ne (bc_ne T hT p (by omega) n hn e)]
    exact h p (by omega)
theorem DP_s {P n m c : Nat} {g : SV} {a : Nat → Int32} {x : Int32} (hP : P < 6) (hn : n < 3) (hm : m < 3) (h : DP P g n m c a) (hx : m ≠ n → x = g (c + (3 * bcN P n + bcN P m))) : DP P g n (m + 1) c (upd a (3 * bcN P n + bcN P m) x) := by
  have bn := bc_lt P hP n hn
  have bm := bc_lt P hP m hm
  refine ⟨fun p q hp hq hpq => ?_, fun q hq hqn => ?_⟩
  · have bp := bc_lt P hP p (by omega)
    have bq := bc_lt P hP q hq
    have ne := bc_ne P hP p (by omega) n hn (by omega)
    rw [upd_ne (by omega)]
    exact h.1 p q hp hq hpq
  · by_cases e : q = m
    · rw [e, upd_at]; exact hx (fun z => hqn (e.trans z))
    · have bq := bc_lt P hP q (by omega)
      have ne := bc_ne P hP q (by omega) m hm e
      rw [upd_ne (by omega)]
      exact h.2 q (by omega) hqn
theorem DP_n {P n c : Nat} {g : SV} {a : Nat → Int32} (h : DP P g n 3 c a) : DP P g (n + 1) 0 c a := by
  refine ⟨fun p q hp hq hpq => ?_, fun q h => absurd h (Nat.not_lt_zero q)⟩
  by_cases e : p = n
  · rw [e]; exact h.2 q hq (fun z => hpq (e.trans z.symm))
  · exact h.1 p q (by omega) hq hpq
theorem RS_of {P Q : Nat} {g : SV} {V : GS} (hP : P < 6) (hQ : Q < 6) (h0 : D0 P g 3 (ar V 0)) (h2 : D2 Q g 3 (ar V 2)) (h10 : DP P g 3 0 10 (ar V 1)) (h20 : DP P g 3 0 20 (ar V 3)) (h30 : DP P g 3 0 30 (ar V 4)) (hd : fi V 0 = g 50) : RS V g := by
  refine ⟨fun p hp => ?_, fun p q hp hq hpq => ?_, fun t ht => ?_, hd⟩
  · have x := h0 _ (bc_lt _ (iv_6 P hP) p hp)
    rw [bc_iv P hP p (by omega)] at x
    exact x
  · have a := bc_lt _ (iv_6 P hP) p hp
    have b := bc_lt _ (iv_6 P hP) q hq
    have n := bc_ne _ (iv_6 P hP) p hp q hq hpq
    have x := h10.1 _ _ a b n
    have y := h20.1 _ _ a b n
    have z := h30.1 _ _ a b n
    rw [bc_iv P hP p (by omega), bc_iv P hP q (by omega)] at x y z
    exact ⟨x, y, z⟩
  · have x := h2 _ (bc_lt _ (iv_6 Q hQ) t ht)
    rw [bc_iv Q hQ t (by omega)] at x
    exact x
theorem RS_su {T : GS} {f : SV} {j i : Nat} {x : Int32} (hj : 5 ≤ j) (h : RS T f) : RS (su T j i x) f := by
  have e : ∀ m, m < 5 → ar (su T j i x) m = ar T m := fun m hm => su_ne (by omega)
  obtain ⟨h1, h2, h3, h4⟩ := h
  refine ⟨fun p hp => ?_, fun p q hp hq hpq => ?_, fun t ht => ?_, h4⟩
  · rw [e 0 (by decide)]; exact h1 p hp
  · rw [e 1 (by decide), e 3 (by decide), e 4 (by decide)]; exact h2 p q hp hq hpq
  · rw [e 2 (by decide)]; exact h3 t ht
/-- the STATE as it is kept -/
def KE (T : GS) (f : SV) : Prop := (∀ p, p < 3 → ar T 32 p = f p ∧ ar T 34 p = f (40 + p)) ∧ (∀ p q, p < 3 → q < 3 → p ≠ q → ar T 33 (3 * p + q) = f (10 + (3 * p + q)) ∧ ar T 35 (3 * p + q) = f (20 + (3 * p + q)) ∧ ar T 36 (3 * p + q) = f (30 + (3 * p + q))) ∧ fi T 0 = f 50
theorem KE_su {T : GS} {f : SV} {j i : Nat} {x : Int32} (hj : j < 5) (h : KE T f) : KE (su T j i x) f := by
  have e : ∀ m, 5 ≤ m → ar (su T j i x) m = ar T m := fun m hm => su_ne (by omega)
  obtain ⟨h1, h2, h3⟩ := h
  refine ⟨fun p hp => ?_, fun p q hp hq hpq => ?_, h3⟩
  · rw [e 32 (by decide), e 34 (by decide)]; exact h1 p hp
  · rw [e 33 (by decide), e 35 (by decide), e 36 (by decide)]; exact h2 p q hp hq hpq
theorem REN_00 {f : SV} (hF : GV f) : REN 0 0 f f := by
  refine ⟨fun p hp => ?_, fun p q hp hq _ => ?_, fun t ht => ?_, rfl⟩
  · rw [bcN_0 p (by omega)]
  · rw [bcN_0 p (by omega), bcN_0 q (by omega)]
    exact ⟨rfl, rfl, rfl⟩
  · have y := hF.2.2.1 t ht
    rw [bcN_0 t (by omega), bcN_0 _ (by omega)]
    exact i_eq (by rw [nI_toInt (by omega)]; omega)
theorem best_s {k : Nat → Int} {n : Nat} {v w : Int64} (hv : v.toInt = mn k (n - 1)) (hw : w.toInt = k n) : (w.toInt < v.toInt → w.toInt = mn k n) ∧ (¬ w.toInt < v.toInt → v.toInt = mn k n) := by
  cases n with
  | zero => exact ⟨fun _ => hw, fun _ => hv⟩
  | succ m =>
    have hv' : v.toInt = mn k m := hv
    have e : mn k (m + 1) = if k (m + 1) < mn k m then k (m + 1) else mn k m := rfl
    rw [e, ← hw, ← hv']
    exact ⟨fun c => by rw [if_pos c], fun c => by rw [if_neg c]⟩
theorem lg_lt {a b : Int64} : (lg_cmp a b).toInt < 0 ↔ a.toInt < b.toInt := by
  have h := lg_cmp_lt a b
  rw [Int32.lt_iff_toInt_lt, Int64.lt_iff_toInt_lt, li_0] at h
  exact h
set_option maxHeartbeats 1000000 in
/-- the reference's plainest name -/
theorem q_plainestE (S : GS) (st : Int64) (post : Int64 → GS → Prop) (f : SV) (hB : BR S) (hf : GJ f) (hst : st.toInt = pkI f) (k : ∀ (v : Int64) S', Fr [0] [] [0, 1, 2, 3, 4, 32, 33, 34, 35, 36] [] S S' → BR S' → v.toInt = MNF pkI f → post v S') : w_X12_plainest S st post := by
  obtain ⟨hF, hW, -⟩ := hf
  have b108 : ∀ T (v : Int64), PL S T → KE T f → v.toInt = pkI f → w_X12_plainest_B108 post T v := by
    intro T v hT hKT hv
    unfold w_X12_plainest_B108
    have k0 : pkI f = pkI (rn (0 / 6) (0 % 6) f) := pkI_cg (REN_u (P := 0) (T := 0) (by decide) (by decide) (REN_00 hF) (REN_rn (by decide) (by decide)))
    refine lr3 (fun (U : GS) (w : Int64) (r : Int32) => PL S U ∧ KE U f ∧ ∃ n : Nat, n ≤ 36 ∧ r = nI n ∧ w.toInt = mn (fun i => pkI (rn (i / 6) (i % 6) f)) (n - 1)) (fun _ _ r => (36 - r.toInt).toNat) ?_ _ _ _ ⟨hT, hKT, 0, by omega, rfl, hv.trans k0⟩
    rintro kk U w r ⟨hU, hKU, n, hn, rfl, hw⟩ hk
    unfold w_X12_plainest_F111 w_X12_plainest_B313
    have rt : (nI n).toInt = (n : Int) := nI_toInt (by omega)
    rw [rt]
    refine ⟨fun h => ?_, fun h => ?_⟩
    · obtain rfl : n = 36 := by omega
      exact k w U hU.1 hU.2.1 hw
    have n6 : n < 36 := by omega
    have sn : nI n + 1 = nI (n + 1) := nI_inc (by omega)
    obtain ⟨d1, d2⟩ := dm_6 n n6
    have hP : n / 6 < 6 := by omega
    have hQ : n % 6 < 6 := by omega
    have hG := GV_rn hP hQ hF
    have hR := REN_rn (f := f) hP hQ
    have bst : ∀ x : Int64, x.toInt = pkI (rn (n / 6) (n % 6) f) → (x.toInt < w.toInt → x.toInt = mn (fun i => pkI (rn (i / 6) (i % 6) f)) n) ∧ (¬ x.toInt < w.toInt → w.toInt = mn (fun i => pkI (rn (i / 6) (i % 6) f)) n) := fun x hx => best_s hw hx
    generalize rn (n / 6) (n % 6) f = g at hG hR bst
    generalize n / 6 = P at d1 hP hR
    generalize n % 6 = Q at d2 hQ hR
    refine lr4 (fun (V : GS) (w' : Int64) (r' p : Int32) => w' = w ∧ r' = nI n ∧ PL S V ∧ KE V f ∧ ∃ a : Nat, a ≤ 3 ∧ p = nI a ∧ D0 P g a (ar V 0) ∧ D2 Q g a (ar V 2) ∧ DP P g a 0 10 (ar V 1) ∧ DP P g a 0 20 (ar V 3) ∧ DP P g a 0 30 (ar V 4)) (fun _ _ _ p => (3 - p.toInt).toNat) ?_ _ _ _ _ ⟨rfl, rfl, hU, hKU, 0, by omega, rfl, D0_0, D2_0, DP_0, DP_0, DP_0⟩
    rintro kk2 V w' r' p ⟨rfl, rfl, hV, hKV, a, ha, rfl, h0, h2, h10, h20, h30⟩ hk2
    unfold w_X12_plainest_F121
    have pn : (nI a).toInt = (a : Int) := nI_toInt (by omega)
    have pN : (nI a).toNatClampNeg = a := by rw [tnc, pn]; omega
    rw [pn]
    refine ⟨fun g2 => ?_, fun g2 => ?_⟩
    · obtain rfl : a = 3 := by omega
      have hRS : RS V g := RS_of hP hQ h0 h2 h10 h20 h30 (hKV.2.2.trans hR.2.2.2.symm)
      unfold w_X12_plainest_B287 w_X12_plainest_B306
      rw [sn]
      refine q_packsE V _ g hRS hG (fun x hx => ⟨fun g3 => ?_, fun g3 => ?_⟩)
      · exact hk _ _ _ ⟨hV, hKV, n + 1, by omega, rfl, (bst x hx).2 (fun z => by have := lg_lt.mpr z; omega)⟩ (by rw [nI_toInt (by omega), rt]; omega)
      · exact hk _ _ _ ⟨hV, hKV, n + 1, by omega, rfl, (bst x hx).1 (lg_lt.mp g3)⟩ (by rw [nI_toInt (by omega), rt]; omega)
    · have ha3 : a < 3 := by omega
      have bp := bc_lt P hP a ha3
      have bq := bc_lt Q hQ a ha3
      have tp : (nI (bcN P a)).toInt = (bcN P a : Int) := nI_toInt (by omega)
      have tP : (nI (bcN P a)).toNatClampNeg = bcN P a := by rw [tnc, tp]; omega
      have tq : (nI (bcN Q a)).toInt = (bcN Q a : Int) := nI_toInt (by omega)
      have tQ : (nI (bcN Q a)).toNatClampNeg = bcN Q a := by rw [tnc, tq]; omega
      rw [d2, d1, pN]
      refine q_renE V P a _ hP (by omega) hV.2.1.2.2 ⟨by omega, by rw [tp]; omega, ?_⟩
      rw [tP]
      have hV1 := PL_su (j := 0) (i := bcN P a) (x := ar V 32 a) (by decide) hV
      have hK1 := KE_su (j := 0) (i := bcN P a) (x := ar V 32 a) (by decide) hKV
      have e01 : ar (su V 0 (bcN P a) (ar V 32 a)) 0 = upd (ar V 0) (bcN P a) (ar V 32 a) := su_at _ _ _ _
      have ej : ∀ j, j ≠ 0 → ar (su V 0 (bcN P a) (ar V 32 a)) j = ar V j := fun j hj => su_ne hj
      have f0 : D0 P g (a + 1) (ar (su V 0 (bcN P a) (ar V 32 a)) 0) := by
        rw [e01]
        exact D0_s hP ha3 h0 ((hKV.1 a ha3).1.trans (hR.1 a ha3).symm)
      have f2 : D2 Q g a (ar (su V 0 (bcN P a) (ar V 32 a)) 2) := by rw [ej 2 (by decide)]; exact h2
      have f10 : DP P g a 0 10 (ar (su V 0 (bcN P a) (ar V 32 a)) 1) := by rw [ej 1 (by decide)]; exact h10
      have f20 : DP P g a 0 20 (ar (su V 0 (bcN P a) (ar V 32 a)) 3) := by rw [ej 3 (by decide)]; exact h20
      have f30 : DP P g a 0 30 (ar (su V 0 (bcN P a) (ar V 32 a)) 4) := by rw [ej 4 (by decide)]; exact h30
      generalize su V 0 (bcN P a) (ar V 32 a) = V1 at hV1 hK1 f0 f2 f10 f20 f30 ⊢
      clear e01 ej
      refine q_renE V1 Q a _ hQ (by omega) hV1.2.1.2.2 ⟨by omega, ?_⟩
      have ga := hF.2.2.1 a ha3
      have eo : f (40 + a) = nI (f (40 + a)).toInt.toNat := i_eq (by rw [nI_toInt (by omega)]; omega)
      rw [(hK1.1 a ha3).2, eo]
      refine q_renE V1 P _ _ hP (by omega) hV1.2.1.2.2 ?_
      rw [← hR.2.2.1 a ha3]
      refine ⟨by rw [tq]; omega, ?_⟩
      rw [tQ]
      have hV2 := PL_su (j := 2) (i := bcN Q a) (x := g (40 + bcN Q a)) (by decide) hV1
      have hK2 := KE_su (j := 2) (i := bcN Q a) (x := g (40 + bcN Q a)) (by decide) hK1
      have e02 : ar (su V1 2 (bcN Q a) (g (40 + bcN Q a))) 2 = upd (ar V1 2) (bcN Q a) (g (40 + bcN Q a)) := su_at _ _ _ _
      have ej : ∀ j, j ≠ 2 → ar (su V1 2 (bcN Q a) (g (40 + bcN Q a))) j = ar V1 j := fun j hj => su_ne hj
      have g0 : D0 P g (a + 1) (ar (su V1 2 (bcN Q a) (g (40 + bcN Q a))) 0) := by rw [ej 0 (by decide)]; exact f0
      have g2' : D2 Q g (a + 1) (ar (su V1 2 (bcN Q a) (g (40 + bcN Q a))) 2) := by
        rw [e02]
        exact D2_s hQ ha3 f2 rfl
      have g10 : DP P g a 0 10 (ar (su V1 2 (bcN Q a) (g (40 + bcN Q a))) 1) := by rw [ej 1 (by decide)]; exact f10
      have g20 : DP P g a 0 20 (ar (su V1 2 (bcN Q a) (g (40 + bcN Q a))) 3) := by rw [ej 3 (by decide)]; exact f20
      have g30 : DP P g a 0 30 (ar (su V1 2 (bcN Q a) (g (40 + bcN Q a))) 4) := by rw [ej 4 (by decide)]; exact f30
      generalize su V1 2 (bcN Q a) (g (40 + bcN Q a)) = V2 at hV2 hK2 g0 g2' g10 g20 g30 ⊢
      clear e02 ej
      have sa : nI a + 1 = nI (a + 1) := nI_inc (by omega)
      refine lr5 (fun (W : GS) (w2 : Int64) (r2 p2 q : Int32) => w2 = w' ∧ r2 = nI n ∧ p2 = nI a ∧ PL S W ∧ KE W f ∧ D0 P g (a + 1) (ar W 0) ∧ D2 Q g (a + 1) (ar W 2) ∧ ∃ b : Nat, b ≤ 3 ∧ q = nI b ∧ DP P g a b 10 (ar W 1) ∧ DP P g a b 20 (ar W 3) ∧ DP P g a b 30 (ar W 4)) (fun _ _ _ _ q => (3 - q.toInt).toNat) ?_ _ _ _ _ _ ⟨rfl, rfl, rfl, hV2, hK2, g0, g2', 0, by omega, rfl, g10, g20, g30⟩
      rintro kk3 W w2 r2 p2 q ⟨rfl, rfl, rfl, hW2, hKW, i0, i2, b, hb, rfl, i10, i20, i30⟩ hk3
      unfold w_X12_plainest_F185 w_X12_plainest_B281
      have qn : (nI b).toInt = (b : Int) := nI_toInt (by omega)
      have sb : nI b + 1 = nI (b + 1) := nI_inc (by omega)
      rw [qn, sa, sb, d1]
      refine ⟨fun g3 => ?_, fun g3 => ?_⟩
      · obtain rfl : b = 3 := by omega
        exact hk2 _ _ _ _ ⟨rfl, rfl, hW2, hKW, a + 1, by omega, rfl, i0, i2, DP_n i10, DP_n i20, DP_n i30⟩ (by rw [nI_toInt (by omega), pn]; omega)
      have hb3 : b < 3 := by omega
      have bb := bc_lt P hP b hb3
      refine q_renE W P a _ hP (by omega) hW2.2.1.2.2 (q_renE W P b _ hP (by omega) hW2.2.1.2.2 ?_)
      have x1 := ma_3 (p := nI a) (q := nI b) (by omega) (by omega)
      have tb : (nI (bcN P b)).toInt = (bcN P b : Int) := nI_toInt (by omega)
      have x2 := ma_3 (p := nI (bcN P a)) (q := nI (bcN P b)) (by rw [tp]; omega) (by rw [tb]; omega)
      rw [pn, qn] at x1
      rw [tp, tb] at x2
      have y1 : ((3 : Int32) * nI a + nI b).toNatClampNeg = 3 * a + b := by rw [tnc, x1]; omega
      have y2 : ((3 : Int32) * nI (bcN P a) + nI (bcN P b)).toNatClampNeg = 3 * bcN P a + bcN P b := by rw [tnc, x2]; omega
      rw [x1, x2, y1, y2]
      have hw := hW2.2.2.2.1 (3 * a + b) (by omega)
      have z33 : 3 * bcN P a + bcN P b = 0 ∨ 3 * bcN P a + bcN P b = 4 ∨ 3 * bcN P a + bcN P b = 8 → ar W 33 (3 * a + b) = 0 := by
        intro z
        by_cases e : a = b
        · exact hW2.2.2.2.2 _ (by omega)
        · have := bc_ne P hP a ha3 b hb3 e
          exfalso; omega
      have val : b ≠ a → ar W 33 (3 * a + b) = g (10 + (3 * bcN P a + bcN P b)) ∧ ar W 35 (3 * a + b) = g (20 + (3 * bcN P a + bcN P b)) ∧ ar W 36 (3 * a + b) = g (30 + (3 * bcN P a + bcN P b)) := by
        intro ne
        obtain ⟨u1, u2, u3⟩ := hKW.2.1 a b ha3 hb3 (fun z => ne z.symm)
        obtain ⟨r1, r2, r3⟩ := hR.2.1 a b ha3 hb3 (fun z => ne z.symm)
        exact ⟨u1.trans r1.symm, u2.trans r2.symm, u3.trans r3.symm⟩
      refine ⟨by omega, by omega, by omega, by omega, hw.1, by omega, by omega, hw.2, ?_⟩
      refine hk3 _ _ _ _ _ ⟨rfl, rfl, rfl, PL_s4 hw.2 (PL_s3 hw.1 (PL_s1 z33 hW2)), KE_su (by decide) (KE_su (by decide) (KE_su (by decide) hKW)), ?_, ?_, b + 1, by omega, rfl, ?_, ?_, ?_⟩ (by rw [nI_toInt (by omega), qn]; omega)
      · have e : ar (su (su (su W 1 (3 * bcN P a + bcN P b) (ar W 33 (3 * a + b))) 3 (3 * bcN P a + bcN P b) (ar W 35 (3 * a + b))) 4 (3 * bcN P a + bcN P b) (ar W 36 (3 * a + b))) 0 = ar W 0 := (su_ne (by decide)).trans ((su_ne (by decide)).trans (su_ne (by decide)))
        rw [e]
        exact i0
      · have e : ar (su (su (su W 1 (3 * bcN P a + bcN P b) (ar W 33 (3 * a + b))) 3 (3 * bcN P a + bcN P b) (ar W 35 (3 * a + b))) 4 (3 * bcN P a + bcN P b) (ar W 36 (3 * a + b))) 2 = ar W 2 := (su_ne (by decide)).trans ((su_ne (by decide)).trans (su_ne (by decide)))
        rw [e]
        exact i2
      · have e : ar (su (su (su W 1 (3 * bcN P a + bcN P b) (ar W 33 (3 * a + b))) 3 (3 * bcN P a + bcN P b) (ar W 35 (3 * a + b))) 4 (3 * bcN P a + bcN P b) (ar W 36 (3 * a + b))) 1 = upd (ar W 1) (3 * bcN P a + bcN P b) (ar W 33 (3 * a + b)) := (su_ne (by decide)).trans ((su_ne (by decide)).trans (su_at _ _ _ _))
        rw [e]
        exact DP_s hP ha3 hb3 i10 (fun ne => (val ne).1)
      · have e : ar (su (su (su W 1 (3 * bcN P a + bcN P b) (ar W 33 (3 * a + b))) 3 (3 * bcN P a + bcN P b) (ar W 35 (3 * a + b))) 4 (3 * bcN P a + bcN P b) (ar W 36 (3 * a + b))) 3 = upd (ar W 3) (3 * bcN P a + bcN P b) (ar W 35 (3 * a + b)) := (su_ne (by decide)).trans ((su_at _ _ _ _).trans (congrArg (fun z => upd z _ _) (su_ne (by decide))))
        rw [e]
        exact DP_s hP ha3 hb3 i20 (fun ne => (val ne).2.1)
      · have e : ar (su (su (su W 1 (3 * bcN P a + bcN P b) (ar W 33 (3 * a + b))) 3 (3 * bcN P a + bcN P b) (ar W 35 (3 * a + b))) 4 (3 * bcN P a + bcN P b) (ar W 36 (3 * a + b))) 4 = upd (ar W 4) (3 * bcN P a + bcN P b) (ar W 36 (3 * a + b)) := (su_at _ _ _ _).trans (congrArg (fun z => upd z _ _) ((su_ne (by decide)).trans (su_ne (by decide))))
        rw [e]
        exact DP_s hP ha3 hb3 i30 (fun ne => (val ne).2.2)
  have b50 : ∀ T (v : Int64), Fr [0] [] [0, 1, 2, 3, 4, 32, 33, 34, 35, 36] [] S T → BR T → RS T f → (∀ p, p < 3 → ar T 32 p = f p ∧ ar T 34 p = f (40 + p)) → v.toInt = pkI f → w_X12_plainest_B50 post T v := by
    intro T v hT hBT hRT hkT hv
    unfold w_X12_plainest_B50
    refine lr3 (fun (U : GS) (w : Int64) (j : Int32) => w = v ∧ Fr [0] [] [0, 1, 2, 3, 4, 32, 33, 34, 35, 36] [] S U ∧ BR U ∧ RS U f ∧ (∀ p, p < 3 → ar U 32 p = f p ∧ ar U 34 p = f (40 + p)) ∧ ∃ n : Nat, n ≤ 9 ∧ j = nI n ∧ ∀ q, q < n → ((ar U 35 q = 0 ∨ ar U 35 q = 1) ∧ (ar U 36 q = 0 ∨ ar U 36 q = 1)) ∧ ((q = 0 ∨ q = 4 ∨ q = 8) → ar U 33 q = 0) ∧ (¬ (q = 0 ∨ q = 4 ∨ q = 8) → ar U 33 q = f (10 + q) ∧ ar U 35 q = f (20 + q) ∧ ar U 36 q = f (30 + q))) (fun _ _ j => (9 - j.toInt).toNat) ?_ _ _ _ ⟨rfl, hT, hBT, hRT, hkT, 0, by omega, rfl, fun q h => absurd h (Nat.not_lt_zero q)⟩
    rintro kk U w j ⟨rfl, hU, hBU, hRU, hkU, n, hn, rfl, hQ⟩ hk
    unfold w_X12_plainest_F53
    have jn : (nI n).toInt = (n : Int) := nI_toInt (by omega)
    have jN : (nI n).toNatClampNeg = n := by rw [tnc, jn]; omega
    rw [jn, jN, nI_inc (n := n) (by omega)]
    refine ⟨fun g => ?_, fun g => ?_⟩
    · obtain rfl : n = 9 := by omega
      refine b108 U w ⟨hU, hBU, fun q hq => ?_, fun q hq => (hQ q hq).1, fun q hq => (hQ q (by omega)).2.1 hq⟩ ⟨hkU, fun p q hp hq hpq => (hQ (3 * p + q) (by omega)).2.2 (by omega), hRU.2.2.2⟩ hv
      rw [(hkU q hq).2]
      exact hF.2.2.1 q hq
    have hn9 : n < 9 := by omega
    have hb := hBU.1 n hn9
    refine ⟨by omega, by omega, by omega, by omega, hb.1, by omega, by omega, hb.2, hk _ _ _ ⟨rfl, Fr.su (by decide) (Fr.su (by decide) (Fr.su (by decide) hU)), BR.sn (by decide) (BR.sn (by decide) (BR.sn (by decide) hBU)), RS_su (by decide) (RS_su (by decide) (RS_su (by decide) hRU)), ?_, n + 1, by omega, rfl, ?_⟩ (by rw [nI_toInt (by omega), jn]; omega)⟩
    · intro p hp
      have e32 : ar (su (su (su U 33 n (ar U 1 n)) 35 n (ar U 3 n)) 36 n (ar U 4 n)) 32 = ar U 32 := (su_ne (by decide)).trans ((su_ne (by decide)).trans (su_ne (by decide)))
      have e34 : ar (su (su (su U 33 n (ar U 1 n)) 35 n (ar U 3 n)) 36 n (ar U 4 n)) 34 = ar U 34 := (su_ne (by decide)).trans ((su_ne (by decide)).trans (su_ne (by decide)))
      rw [e32, e34]
      exact hkU p hp
    · intro q hq
      have e33 : ar (su (su (su U 33 n (ar U 1 n)) 35 n (ar U 3 n)) 36 n (ar U 4 n)) 33 = upd (ar U 33) n (ar U 1 n) := (su_ne (by decide)).trans ((su_ne (by decide)).trans (su_at _ _ _ _))
      have e35 : ar (su (su (su U 33 n (ar U 1 n)) 35 n (ar U 3 n)) 36 n (ar U 4 n)) 35 = upd (ar U 35) n (ar U 3 n) := (su_ne (by decide)).trans ((su_at _ _ _ _).trans (congrArg (fun z => upd z _ _) (su_ne (by decide))))
      have e36 : ar (su (su (su U 33 n (ar U 1 n)) 35 n (ar U 3 n)) 36 n (ar U 4 n)) 36 = upd (ar U 36) n (ar U 4 n) := (su_at _ _ _ _).trans (congrArg (fun z => upd z _ _) ((su_ne (by decide)).trans (su_ne (by decide))))
      rw [e33, e35, e36]
      by_cases e : q = n
      · rw [e, upd_at, upd_at, upd_at]
        refine ⟨hb, fun z => hBU.2.1 n z, fun z => ?_⟩
        have x := hRU.2.1 (n / 3) (n % 3) (by omega) (by omega) (by omega)
        rw [show 3 * (n / 3) + n % 3 = n by omega] at x
        exact x
      · rw [upd_ne e, upd_ne e, upd_ne e]
        exact hQ q (by omega)
  unfold w_X12_plainest
  refine q_takesE S st _ f hF hW hst (fun S1 hT hRT hBT => ?_)
  have hB1 := hBT hB
  refine lr3 (fun (U : GS) (w : Int64) (j : Int32) => w = st ∧ Fr [0] [] [0, 1, 2, 3, 4, 32, 33, 34, 35, 36] [] S U ∧ BR U ∧ RS U f ∧ ∃ n : Nat, n ≤ 3 ∧ j = nI n ∧ ∀ p, p < n → ar U 32 p = f p ∧ ar U 34 p = f (40 + p)) (fun _ _ j => (3 - j.toInt).toNat) ?_ _ _ _ ⟨rfl, hT.wk (by decide), hB1, hRT, 0, by omega, rfl, fun p h => absurd h (Nat.not_lt_zero p)⟩
  rintro kk U w j ⟨rfl, hU, hBU, hRU, n, hn, rfl, hQ⟩ hk
  unfold w_X12_plainest_F10
  have jn : (nI n).toInt = (n : Int) := nI_toInt (by omega)
  have jN : (nI n).toNatClampNeg = n := by rw [tnc, jn]; omega
  rw [jn, jN, nI_inc (n := n) (by omega)]
  refine ⟨fun g => ?_, fun g => ?_⟩
  · obtain rfl : n = 3 := by omega
    exact b50 U w hU hBU hRU hQ hst
  have hn3 : n < 3 := by omega
  refine ⟨by omega, by omega, by omega, by omega, hk _ _ _ ⟨rfl, Fr.su (by decide) (Fr.su (by decide) hU), BR.sn (by decide) (BR.sn (by decide) hBU), RS_su (by decide) (RS_su (by decide) hRU), n + 1, by omega, rfl, ?_⟩ (by rw [nI_toInt (by omega), jn]; omega)⟩
  intro p hp
  have e32 : ar (su (su U 32 n (ar U 0 n)) 34 n (ar U 2 n)) 32 = upd (ar U 32) n (ar U 0 n) := (su_ne (by decide)).trans (su_at _ _ _ _)
  have e34 : ar (su (su U 32 n (ar U 0 n)) 34 n (ar U 2 n)) 34 = upd (ar U 34) n (ar U 2 n) := (su_at _ _ _ _).trans (congrArg (fun z => upd z _ _) (su_ne (by decide)))
  rw [e32, e34]
  by_cases e : p = n
  · rw [e, upd_at, upd_at]
    exact ⟨hRU.1 n hn3, hRU.2.2.1 n hn3⟩
  · rw [upd_ne e, upd_ne e]
    exact hQ p (by omega)
