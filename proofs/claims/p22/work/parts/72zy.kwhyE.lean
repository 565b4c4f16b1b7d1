/-- the law's cells, as the queries read them, told -/
def HQx (cy : Nat → ClassId) (S : KS) (nv : List OL) (cu : List CuT) (ac : Nat → Option AcT) : Prop := ∃ A : Nat → Prop, S.2.1 3 < 5 ∧ LSx cy (fun _ => True) S.2.2.2 (fun k x => ∃ l, nv[k]? = some l ∧ CLx cy A S.2.2.2 x (5, 0, l)) (S.2.1 1) nv.length ∧ LSx cy (fun _ => True) S.2.2.2 (fun k x => ∃ w, cu[k]? = some w ∧ CUx cy A S.2.2.2 x w) (S.2.1 2) cu.length ∧ ∀ i, i < 12 → (S.2.2.1 i = none ∧ ac i = none) ∨ ∃ (q : Nat) (a : AcT), S.2.2.1 i = some q ∧ ac i = some a ∧ ACx cy A S.2.2.2 q a
theorem HQx_of {cy : Nat → ClassId} {tE : Nat} {S : KS} {nv : List OL} {cu : List CuT} {ac : Nat → Option AcT} (h : KIx cy tE S nv cu ac) : HQx cy S nv cu ac := by
  obtain ⟨A, i0, i1, i2, o0, o1, o2, n0, n1, n2, f0, f1, f2, ⟨h3, ⟨-, hL1, hL2⟩, ⟨-, b1, b2⟩, -⟩, ⟨⟨e1, g1⟩, ⟨e2, g2⟩, hA⟩⟩ := h
  refine ⟨A, h3, LLs_LSx hL1 e1 trivial (fun _ _ => trivial) (fun t ht => ?_), LLs_LSx hL2 e2 trivial (fun _ _ => trivial) (fun t ht => ?_), hA⟩
  · have hget := List.getElem?_eq_getElem ht
    obtain ⟨x, hx, hc⟩ := g1 t _ hget
    exact ⟨x, hx, _, hget, hc⟩
  · have hget := List.getElem?_eq_getElem ht
    obtain ⟨x, hx, hc⟩ := g2 t _ hget
    exact ⟨x, hx, _, hget, hc⟩
theorem HQx_cg {cy : Nat → ClassId} {S S' : KS} {nv : List OL} {cu : List CuT} {ac : Nat → Option AcT} (h : HQx cy S nv cu ac) (e : S'.2.2 = S.2.2) (e1 : S'.2.1 1 = S.2.1 1) (e2 : S'.2.1 2 = S.2.1 2) (h3 : S'.2.1 3 < 5) : HQx cy S' nv cu ac := by
  obtain ⟨A, -, h1, h2, h4⟩ := h
  refine ⟨A, h3, ?_, ?_, ?_⟩
  · rw [e, e1]; exact h1
  · rw [e, e2]; exact h2
  · rw [e]; exact h4
theorem KV_tr {S T U : KS} (h : KV S T) (g : KV T U) : KV S U := ⟨h.1.tr g.1, g.2.trans h.2⟩
/-- but what waits and the STATE behind has not changed -/
def KM (S T : KS) : Prop := Fr [] [] [3, 16] [] S.1 T.1 ∧ T.2 = S.2
theorem KM_KF {S T : KS} (h : KM S T) : KF [] [3, 16] [] S T := by
  obtain ⟨f, e⟩ := h
  refine ⟨f, by rw [e], fun _ _ => by rw [e], fun q => by rw [e]; exact q, fun q => ?_⟩
  unfold FLG fi at *
  rw [f.1 17 (by decide), f.1 18 (by decide)]
  exact q
theorem KV_KM {S T : KS} (h : KV S T) : KM S T := ⟨h.1.wk (by decide), h.2⟩
theorem KM_tr {S T U : KS} (h : KM S T) (g : KM T U) : KM S U := ⟨h.1.tr g.1, g.2.trans h.2⟩
/-- what the reckoner looks at -/
def LK (S : KS) (i : Nat) (c : Int32) (g : SV) : Prop := S.2.1 3 = i ∧ fi S.1 23 = cdA c ∧ fi S.1 24 = cdB c ∧ fi S.1 25 = cdT c ∧ AGR (ar S.1 (1 + i)) g
theorem LK_km {S T : KS} {i : Nat} {c : Int32} {g : SV} (hi : i < 5 ∧ i ≠ 2) (h : LK S i c g) (hM : KM S T) : LK T i c g := by
  obtain ⟨h1, h2, h3, h4, h5⟩ := h
  obtain ⟨f, e⟩ := hM
  have er : ar T.1 (1 + i) = ar S.1 (1 + i) := f.2.2.1 _ (by
    intro q
    rcases (show i = 0 ∨ i = 1 ∨ i = 3 ∨ i = 4 by omega) with rfl | rfl | rfl | rfl <;> revert q <;> decide)
  refine ⟨by rw [e]; exact h1, (f.1 23 (by decide)).trans h2, (f.1 24 (by decide)).trans h3, (f.1 25 (by decide)).trans h4, by rw [er]; exact h5⟩
theorem r_6_lookE (cy : Nat → ClassId) (tE : Nat) (S : KS) (i : Nat) (c : Int32) (post : KS → Prop) (g : SV) (hi : i < 5) (hg : AGR (ar S.1 (1 + i)) g) (k : ∀ S', KF [23, 24, 25] [] [] S S' → LK S' i c g → post S') : w_X6_look cy tE S i c post := by
  unfold w_X6_look w_X11_doerOf w_X11_otherOf w_X11_thingOf
  refine k _ (KF_si (by decide) (KF_si (by decide) (KF_si (by decide) (KF_se hi (KF_rf S))))) ⟨?_, ?_, ?_, ?_, hg⟩
  · simp [ksi, kse, zu]
  · exact (si_ne (by decide)).trans ((si_ne (by decide)).trans (si_at _ _ _))
  · exact (si_ne (by decide)).trans (si_at _ _ _)
  · exact si_at _ _ _
/-- a Clause's value, as looked at -/
theorem r_6_valL (cy : Nat → ClassId) (tE : Nat) (S : KS) (A : Nat → Prop) (q i : Nat) (c : Int32) (post : Int32 → KS → Prop) (w : MkT) (g : SV) (T0 : List Bool) (hq : CLx cy A S.2.2.2 q w) (hi : i < 5) (hL : LK S i c g) (hT : TyA 30 w.2.2 [] T0) (hl : T0.length ≤ 1) (k : ∀ S', KV S S' → post (rkV g (cdA c) (cdB c) (cdT c) w.2.2) S') : w_X6_value cy tE S q post := by
  obtain ⟨h1, h2, h3, h4, h5⟩ := hL
  obtain ⟨r1, r2, r3⟩ := cd_r (c := c)
  exact r_6_valueE cy tE S A q post w g _ _ _ T0 hq (by rw [h1]; exact hi) (by rw [h1]; exact h5) h2 h3 h4 r1 r2 r3 hT hl k
set_option maxHeartbeats 1000000 in
theorem r_4_actOfE (cy : Nat → ClassId) (tE : Nat) (S : KS) (A : Nat → Prop) (c laws : Int32) (post : Option Nat → KS → Prop) (ac : Nat → Option AcT) (hc : 0 ≤ c.toInt ∧ c.toInt ≤ 767) (hA : ∀ i, i < 12 → (S.2.2.1 i = none ∧ ac i = none) ∨ ∃ (q : Nat) (a : AcT), S.2.2.1 i = some q ∧ ac i = some a ∧ ACx cy A S.2.2.2 q a) (hb : ∀ i a, ac i = some a → (a.2.1 = 0 ∨ a.2.1 = 1) ∧ (a.2.2.1 = 0 ∨ a.2.2.1 = 1)) (k0 : actO ac c laws = none → post none S) (k1 : ∀ q a, actO ac c laws = some a → ACx cy A S.2.2.2 q a → post (some q) S) : w_X4_actOf cy tE S c laws post := by
  unfold w_X4_actOf w_X4_actAt w_X4_actAt_B22 w_X4_actAt_B23
  have e64 : (c / 64).toInt = c.toInt / 64 := by
    simp (disch := omega) only [Int32.toInt_div, li_64, tdv, bm]
  refine ⟨fun hl => ⟨fun h => by exfalso; omega, fun _ => ⟨fun h => by exfalso; omega, fun h12 => ⟨by omega, ?_⟩⟩⟩, fun hl => k0 (actO_l hl)⟩
  show _ ∧ _
  rw [tnc]
  rcases hA (c / 64).toInt.toNat (by omega) with ⟨h1, h2⟩ | ⟨q, a, h1, h2, h3⟩
  · rw [h1]
    exact ⟨fun _ => k0 (actO_0 h2), fun q h => by cases h⟩
  rw [h1]
  refine ⟨fun h => (by cases h), fun q' hq' => ?_⟩
  obtain rfl : q = q' := Option.some.inj hq'
  have no : ¬ ftA a c → w_X4_actOf_B103 cy tE post S (some q) := fun h => ⟨fun _ => k0 (actO_n h2 h), fun z => absurd li_0 z⟩
  have yes : ftA a c → w_X4_actOf_B104 cy tE post S (some q) 1 := fun h => ⟨fun z => absurd z (by decide), fun _ => k1 q a (actO_y hl h2 h) h3⟩
  obtain ⟨hb1, hb2⟩ := hb _ a h2
  obtain ⟨i, nd, mk, -, hi, -, -⟩ := h3
  have b84 : (cdA c).toInt ≠ 3 → ((a.2.1.toInt = 0 → (cdB c).toInt = 3) ∧ (a.2.1.toInt ≠ 0 → (cdB c).toInt ≠ 3 ∧ (cdB c).toInt ≠ (cdA c).toInt)) → w_X4_actOf_B84 cy tE post S c (some q) := by
    intro g1 g2
    refine ⟨q, rfl, i, _, _, _, _, _, hi, ?_⟩
    have rt := (cd_r (c := c)).2.2
    have eT : w_X11_thingOf cy tE S c = fun P => P (cdT c) S := rfl
    rw [eT]
    have isT : ∀ P : Int32 → KS → Prop, ((cdT c).toInt = 3 → P 0 S) → ((cdT c).toInt ≠ 3 → P 1 S) → w_X11_isThing cy tE S (cdT c) P := fun P p0 p1 => ⟨fun h => by exfalso; omega, fun _ => ⟨fun h => ⟨Or.inl rfl, p0 (by omega)⟩, fun h => ⟨Or.inr rfl, p1 (by omega)⟩⟩⟩
    refine isT _ (fun h => ⟨fun z => no (fun q => ?_), fun z => yes ⟨g1, g2, fun _ => h, fun y => absurd (z.trans li_0) y⟩⟩) (fun h => ⟨fun z => no (fun q => ?_), fun z => yes ⟨g1, g2, fun y => ?_, fun _ => h⟩⟩)
    · have := q.2.2.2 (fun y => z (y.trans li_0.symm))
      exact this h
    · have hz : a.2.2.1.toInt = 0 := by
        rcases hb2 with y | y
        · rw [y]; decide
        · exfalso; apply z; rw [y]
      exact h (q.2.2.1 hz)
    · exfalso
      rw [y] at z
      exact absurd z (by decide)
  have rA := (cd_r (c := c)).1
  have rB := (cd_r (c := c)).2.1
  have isP : ∀ (x : Int32) (P : Int32 → KS → Prop), (0 ≤ x.toInt ∧ x.toInt ≤ 3) → (x.toInt = 3 → P 0 S) → (x.toInt ≠ 3 → P 1 S) → w_X11_isPerson cy tE S x P := fun x P hx p0 p1 => ⟨fun h => by exfalso; omega, fun _ => ⟨fun h => ⟨Or.inl rfl, p0 (by omega)⟩, fun h => ⟨Or.inr rfl, p1 (by omega)⟩⟩⟩
  show w_X11_isPerson cy tE S (cdA c) _
  refine isP _ _ rA (fun h => ⟨fun _ => no (fun q => q.1 h), fun z => absurd li_0 z⟩) (fun hA3 => ⟨fun z => absurd z (by decide), fun _ => ⟨i, _, _, _, _, _, hi, fun z => ⟨fun hB => no (fun q => hB (q.2.1.1 z)), fun hB => b84 hA3 ⟨fun _ => hB, fun y => absurd z y⟩⟩, fun z => ?_⟩⟩)
  refine isP _ _ rB (fun h => ⟨fun _ => no (fun q => (q.2.1.2 z).1 h), fun y => absurd li_0 y⟩) (fun hB3 => ⟨fun y => absurd y (by decide), fun _ => ⟨fun hAB => no (fun q => (q.2.1.2 z).2 hAB), fun hAB => b84 hA3 ⟨fun y => absurd y z, fun _ => ⟨hB3, hAB⟩⟩⟩⟩)
theorem LSx_n {cy : Nat → ClassId} {A : Nat → Prop} {L : va_W} {P : Nat → Nat → Prop} {q n : Nat} (h : LSx cy A L P q n) : ∃ (i : Nat) (m : Int32) (e : Nat) (n' : Int32), L[i]? = some (q, .inr (0, [.int m, .ref e, .int n'])) ∧ n'.toInt = (n : Int) ∧ n ≤ 10 ∧ ∀ k : Nat, k < n → ∃ (j c : Nat) (f : Nat → Option Nat), L[j]? = some (e, .inl (cy 5, c, .inr (.inr (.inr (.inr f))))) ∧ n ≤ c ∧ ∃ q', f k = some q' ∧ P k q' := by
  obtain ⟨i, m, e, n', -, hi, h1, h2, h3⟩ := h
  refine ⟨i, m, e, n', hi, h1, h2, fun k hk => ?_⟩
  rcases h3 with h | ⟨j, c, f, -, hj, hc, hf⟩
  · omega
  · exact ⟨j, c, f, hj, hc, hf k hk⟩
theorem KW1_km {S T U : KS} (h : KF [23, 24, 25] [] [] S T) (g : KM T U) : KW1 S U := KF_tr (KF_wk h (by decide)) (KF_wk (KM_KF g) (by decide))
theorem isIB (cy : Nat → ClassId) (tE : Nat) (S : KS) (post : Int32 → KS → Prop) (g : SV) (hg : AGR (ar S.1 3) g) (k0 : ¬ inB g → post 0 S) (k1 : inB g → post 1 S) : w_X9_isInBounds cy tE S 2 post := by
  have e3 : ∀ n, n < 51 → ar S.1 (1 + 2) n = g n := hg
  unfold w_X9_isInBounds
  refine lr3 (fun (T : KS) (i : Nat) (x : Int32) => T = S ∧ i = 2 ∧ ∃ n : Nat, n ≤ 3 ∧ x.toInt = (n : Int) ∧ ∀ p, p < n → in15 (g p)) (fun _ _ x => (3 - x.toInt).toNat) ?_ _ _ _ ⟨rfl, rfl, 0, by omega, li_0, fun p hp => by exfalso; omega⟩
  rintro kk T i x ⟨rfl, rfl, n, hn, hx, hp⟩ hk
  unfold w_X9_isInBounds_F2 w_X9_isInBounds_B29
  have xn : x.toNatClampNeg = n := by rw [tnc]; omega
  have ex := inc1 (x := x) (by omega)
  refine ⟨fun h => ?_, fun h => ⟨by decide, by decide, by omega, ?_⟩⟩
  · obtain rfl : n = 3 := by omega
    refine lr3 (fun (U : KS) (i : Nat) (y : Int32) => U = T ∧ i = 2 ∧ ∃ m : Nat, m ≤ 9 ∧ y.toInt = (m : Int) ∧ ∀ q, q < m → in7 (g (10 + q))) (fun _ _ y => (9 - y.toInt).toNat) ?_ _ _ _ ⟨rfl, rfl, 0, by omega, li_0, fun p hp => by exfalso; omega⟩
    rintro kk2 U i y ⟨rfl, rfl, m, hm, hy, hq⟩ hk2
    unfold w_X9_isInBounds_F31 w_X9_isInBounds_B62
    have ey := inc1 (x := y) (by omega)
    have e10 : y.toInt < 9 → ((10 : Int32) + y).toInt = 10 + y.toInt := fun h => by rw [ad_ab (by rw [li_10]; omega) (by rw [li_10]; omega), li_10]
    refine ⟨fun h9 => ⟨by decide, by decide, ?_⟩, fun h9 => ⟨by decide, by decide, by rw [e10 h9]; omega, ?_⟩⟩
    · obtain rfl : m = 9 := by omega
      rw [e3 50 (by decide)]
      refine r_11_isWithin cy tE U _ _ _ (fun r hr hb => ⟨hr, ?_⟩)
      have e15 : (15 : Int32).toInt = 15 := by decide
      rw [e15] at hb
      rcases hb with ⟨h1, h2⟩ | ⟨h1, h2⟩
      · obtain rfl : r = 0 := i_eq (h1.trans li_0.symm)
        exact k0 (fun q => h2 q.2.2)
      · obtain rfl : r = 1 := i_eq (h1.trans li_1.symm)
        exact k1 ⟨hp, hq, h2⟩
    · have yn : ((10 : Int32) + y).toNatClampNeg = 10 + m := by rw [tnc, e10 h9]; omega
      rw [yn, e3 _ (by omega)]
      refine r_11_isWithin cy tE U _ _ _ (fun r hr hb => ?_)
      have e7 : (7 : Int32).toInt = 7 := by decide
      rw [e7] at hb
      refine ⟨fun h1 => hk2 _ _ _ ⟨rfl, rfl, m + 1, by omega, by rw [ey]; omega, fun q hq2 => ?_⟩ (by rw [ey]; omega), fun h1 => ?_⟩
      · by_cases e : q = m
        · rw [e]; exact (hb.resolve_left (fun z => h1 z.1)).2
        · exact hq q (by omega)
      · exact k0 (fun q => (hb.resolve_right (fun z => by omega)).2 (q.2.1 m (by omega)))
  · rw [xn, e3 _ (by omega)]
    refine r_11_isWithin cy tE T _ _ _ (fun r hr hb => ?_)
    have e15 : (15 : Int32).toInt = 15 := by decide
    rw [e15] at hb
    refine ⟨fun h1 => hk _ _ _ ⟨rfl, rfl, n + 1, by omega, by rw [ex]; omega, fun q hq2 => ?_⟩ (by rw [ex]; omega), fun h1 => ?_⟩
    · by_cases e : q = n
      · rw [e]; exact (hb.resolve_left (fun z => h1 z.1)).2
      · exact hp q (by omega)
    · exact k0 (fun q => (hb.resolve_right (fun z => by omega)).2 (q.1 n (by omega)))
theorem fitO_s {o : Option AcT} {c : Int32} {a : AcT} (h : fitO o c = some a) : o = some a ∧ ftA a c := by
  cases o with
  | none => cases h
  | some b =>
    have h2 : (if ftA b c then some b else none) = some a := h
    by_cases g : ftA b c
    · rw [if_pos g] at h2
      have e : b = a := Option.some.inj h2
      rw [← e]
      exact ⟨rfl, g⟩
    · rw [if_neg g] at h2; cases h2
theorem actO_s {ac : Nat → Option AcT} {c laws : Int32} {a : AcT} (h : actO ac c laws = some a) : ac (c / 64).toInt.toNat = some a ∧ ftA a c ∧ ¬ lwB c laws := by
  unfold actO at h
  by_cases g : lwB c laws
  · rw [if_pos g] at h; cases h
  · rw [if_neg g] at h
    exact ⟨(fitO_s h).1, (fitO_s h).2, g⟩
theorem GdM_t {w : MkT} (h : GdM w) : (∃ T0, TyA 30 w.2.2 [] T0 ∧ T0.length ≤ 1) ∧ (w.1.toInt = 7 ∨ w.1.toInt = 8 ∨ w.1.toInt = 14 ∨ w.1.toInt = 9 ∨ w.1.toInt = 11 ∨ w.1.toInt = 12 ∨ w.1.toInt = 13) := by
  rcases h with ⟨h1, h2⟩ | ⟨h1, h2⟩
  · exact ⟨⟨[false], h2, Nat.le_refl 1⟩, by omega⟩
  · refine ⟨⟨[], by rw [h2] <;> rfl, Nat.zero_le 1⟩, by omega⟩
theorem r_6_personE (cy : Nat → ClassId) (tE : Nat) (S : KS) (x : Int32) (i : Nat) (c : Int32) (g : SV) (post : Int32 → KS → Prop) (hL : LK S i c g) (k : post (psI c x) S) : w_X6_person cy tE S x post := by
  obtain ⟨-, h2, h3, -⟩ := hL
  refine ⟨fun h => ⟨fun h1 => by rw [psI_2 h h1] at k; exact k, fun h1 => ?_⟩, fun h => ?_⟩
  · show post (fi S.1 24) S
    rw [h3]
    rw [psI_1 h1] at k; exact k
  · rw [h2]
    rw [psI_0 h] at k; exact k
theorem wyB_n {g : SV} (h : ¬ inB g) : wyB g = (20, g) := if_neg h
theorem wyB_y {g : SV} (h : inB g) : wyB g = (-1, g) := if_pos h
set_option maxHeartbeats 2000000 in
theorem r_2_whyE (cy : Nat → ClassId) (tE : Nat) (S : KS) (i : Nat) (c laws set : Int32) (post : Int32 → KS → Prop) (nv : List OL) (cu : List CuT) (ac : Nat → Option AcT) (g : SV) (hi : i < 5 ∧ i ≠ 2) (hH : HQx cy S nv cu ac) (hG : GdL nv cu ac) (hg : AGR (ar S.1 (1 + i)) g) (hc : 0 ≤ c.toInt ∧ c.toInt ≤ 767) (hPM : ∀ a, actO ac c laws = some a → ∀ w ∈ a.2.2.2.2, PM c w) (k : ∀ S', KW1 S S' → (∀ j, j < 5 → j ≠ 2 → ar S'.1 (1 + j) = ar S.1 (1 + j)) → ((wyO cu g c set (actO ac c laws)).1.toInt = -1 → AGR (ar S'.1 3) (wyO cu g c set (actO ac c laws)).2) → post (wyO cu g c set (actO ac c laws)).1 S') : w_X2_why cy tE S i c laws set post := by
  obtain ⟨A, h3, -, hC, hA⟩ := hH
  unfold w_X2_why
  refine r_4_actOfE cy tE S A c laws _ ac hc hA (fun j a h => (hG.2.2 j a h).1) (fun h => ⟨fun _ => ?_, fun q h => by cases h⟩) (fun q a hO hAC => ⟨fun h => (by cases h), fun q' hq' => ?_⟩)
  · have h9 := k S (KF_rf S) (fun _ _ _ => rfl)
    rw [h] at h9
    exact h9 (fun z => absurd (show (30 : Int32).toInt = -1 from z) (by decide))
  obtain rfl : q = q' := Option.some.inj hq'
  have hPM2 := hPM a hO
  rw [hO] at k
  have hGA := hG.2.2 _ a (actO_s hO).1
  clear hPM hO hq'
  obtain ⟨ia, nd, mk, -, hca, hnd, hmk⟩ := hAC
  refine r_6_lookE cy tE S i c _ g hi.1 hg (fun S5 hK5 hL5 => ?_)
  have fin : ∀ (T : KS) (r : Int32 × SV), wyN cu g c set a (ndI g (cdA c) (cdB c) (cdT c) a.2.2.2.1 0) = r → KM S5 T → (r.1.toInt = -1 → AGR (ar T.1 3) r.2) → post r.1 T := by
    intro T r hr hT h9
    subst hr
    refine k T (KW1_km hK5 hT) (fun j hj hj2 => ?_) h9
    have q1 : ar T.1 (1 + j) = ar S5.1 (1 + j) := hT.1.2.2.1 _ (by
      intro q
      rcases (show j = 0 ∨ j = 1 ∨ j = 3 ∨ j = 4 by omega) with rfl | rfl | rfl | rfl <;> revert q <;> decide)
    have q2 : ar S5.1 (1 + j) = ar S.1 (1 + j) := hK5.1.2.2.1 _ (by simp)
    exact q1.trans q2
  have eL : ∀ T, KM S5 T → T.2.2.2 = S.2.2.2 := fun T hT => by
    rw [show T.2 = S5.2 from hT.2, show S5.2.2 = S.2.2 from hK5.2.1]
  have eC : ∀ T, KM S5 T → T.2.1 2 = S.2.1 2 := fun T hT => by
    rw [show T.2 = S5.2 from hT.2]
    exact hK5.2.2.1 2 (by decide)
  obtain ⟨i2, m2, e2, n2, hc2, hn2, hl2, hel⟩ := LSx_n hmk
  obtain ⟨i3, m3, e3, n3, hc3, hn3, hl3, hel3⟩ := LSx_n hC
  obtain ⟨i4, m4, e4, n4, hc4, hn4, hl4, hel4⟩ := LSx_n hnd
  -- the makes
  have b173 : ∀ T, KV S5 T → ndI g (cdA c) (cdB c) (cdT c) a.2.2.2.1 0 = none → cuI g (cdA c) (cdB c) (cdT c) (c / 64) set cu 0 = none → w_X2_why_B173 cy tE post T i c (some q) := by
    intro T hT hno hno2
    unfold w_X2_why_B173
    have hWY : wyN cu g c set a (ndI g (cdA c) (cdB c) (cdT c) a.2.2.2.1 0) = wyB (mkA g c a.2.2.2.2 g) := by
      rw [hno]
      show wyC g c a (cuI g (cdA c) (cdB c) (cdT c) (c / 64) set cu 0) = _
      rw [hno2]
      all_goals rfl
    refine r_9_copyE cy tE T 2 i _ g (by decide) hi.1 (LK_km hi hL5 (KV_KM hT)).2.2.2.2 (fun T2 f2 x2 g2 => ?_)
    have hM2 : KM S5 T2 := KM_tr (KV_KM hT) ⟨f2.wk (by decide), x2⟩
    refine lr4 (fun (U : KS) (c' : Int32) (q' : Option Nat) (x : Int32) => c' = c ∧ q' = some q ∧ KM S5 U ∧ ∃ (n : Nat) (rest : List MkT) (gg : SV), x = nI n ∧ n + rest.length = a.2.2.2.2.length ∧ (∀ (t : Nat) (w : MkT), rest[t]? = some w → a.2.2.2.2[n + t]? = some w) ∧ AGR (ar U.1 3) gg ∧ mkA g c rest gg = mkA g c a.2.2.2.2 g) (fun _ _ _ x => (10 - x.toInt).toNat) ?_ _ _ _ _ ⟨rfl, rfl, hM2, 0, a.2.2.2.2, g, rfl, Nat.zero_add _, fun t w h => (by rw [Nat.zero_add]; exact h), g2, rfl⟩
    rintro kk U c' q' x ⟨rfl, rfl, hU, n, rest, gg, rfl, hlen, hrest, hAG, hmkA⟩ hk
    unfold w_X2_why_F184 w_X2_why_B277 w_X2_why_B293
    have eLU := eL U hU
    have xn : (nI n).toInt = (n : Int) := nI_toInt (by omega)
    rw [eLU]
    refine ⟨q, rfl, ia, _, .ref nd, mk, _, _, hca, i2, _, hc2, r_size cy tE U mk i2 m2 n2 (.ref e2) _ (by rw [eLU]; exact hc2) ⟨fun hge => ?_, fun hlt => ?_⟩⟩
    · rcases rest with _ | ⟨w, rest⟩
      · have hfin : gg = mkA g c' a.2.2.2.2 g := hmkA
        refine isIB cy tE U _ gg hAG (fun h => ⟨fun _ => fin U (20, gg) (by rw [hWY, ← hfin, wyB_n h]) hU (fun z => absurd z (show ¬ (20 : Int32).toInt = -1 from by decide)), fun z => absurd li_0 z⟩) (fun h => ⟨fun z => absurd z (by decide), fun _ => fin U (-1, gg) (by rw [hWY, ← hfin, wyB_y h]) hU (fun _ => hAG)⟩)
      · simp only [List.length_cons] at hlen
        exfalso; omega
    rcases rest with _ | ⟨w, rest⟩
    · simp only [List.length_nil] at hlen
      exfalso; omega
    simp only [List.length_cons] at hlen
    have hw0 : a.2.2.2.2[n]? = some w := hrest 0 w rfl
    have hwm : w ∈ a.2.2.2.2 := List.mem_of_getElem? hw0
    obtain ⟨j2, c2, ff, ha2, hnc, qc, hqc, w', hw', hCL⟩ := hel n (by omega)
    obtain rfl : w = w' := Option.some.inj (hw0.symm.trans hw')
    have hCL2 := hCL
    obtain ⟨ic, oo, -, hcc, -⟩ := hCL2
    have nn : (nI n).toNatClampNeg = n := by rw [tnc, xn]; omega
    refine ⟨ia, _, .ref nd, mk, _, _, by rw [eLU]; exact hca, i2, _, by rw [eLU]; exact hc2, r_getE cy tE U mk i2 j2 c2 e2 m2 n2 (nI n) ff _ (by rw [eLU]; exact hc2) (by rw [eLU]; exact ha2) ⟨by omega, hlt⟩ (by omega) ?_⟩
    rw [nn]
    have hLU := LK_km hi hL5 hU
    refine ⟨qc, hqc, ic, _, by rw [eLU]; exact hcc, ic, w.1, w.2.1, .ref oo, by rw [eLU]; exact hcc, ?_⟩
    refine r_6_personE cy tE U _ i c' g _ hLU ⟨ic, w.1, w.2.1, .ref oo, by rw [eLU]; exact hcc, r_6_personE cy tE U _ i c' g _ hLU ⟨ic, w.1, w.2.1, .ref oo, by rw [eLU]; exact hcc, ?_⟩⟩
    show w_X6_value cy tE U qc _
    obtain ⟨⟨T0, hT1, hT2⟩, hkd⟩ := GdM_t (hGA.2.2 w hwm)
    obtain ⟨p7, p8, p9⟩ := hPM2 w hwm
    refine r_6_valL cy tE U A qc i c' _ w g T0 (by rw [eLU]; exact hCL) hi.1 hLU hT1 hT2 (fun V hV => ?_)
    have eV : ar V.1 3 = ar U.1 3 := hV.1.2.2.1 3 (by decide)
    refine r_9_changeE cy tE V w.1 _ _ _ _ _ gg (by rw [eV]; exact hAG) hkd psI_r psI_r (cd_r (c := c')).2.2 p7 (fun h => ⟨(p8 h).1, (p8 h).2.1⟩) p9 (fun W f9 x9 g9 => ?_)
    have hW : KM S5 W := KM_tr hU (KM_tr (KV_KM hV) ⟨f9.wk (by decide), x9⟩)
    refine hk _ _ _ _ ⟨rfl, rfl, hW, n + 1, rest, _, nI_inc (by omega), by omega, fun t w' h => ?_, g9, hmkA⟩ ?_
    · have h5 := hrest (t + 1) w' h
      have e5 : n + 1 + t = n + (t + 1) := by omega
      rw [e5]; exact h5
    · rw [nI_inc (by omega), nI_toInt (by omega), xn]
      omega
  -- the cures
  have b76 : ∀ T, KV S5 T → ndI g (cdA c) (cdB c) (cdT c) a.2.2.2.1 0 = none → w_X2_why_B76 cy tE post T i c set (some q) := by
    intro T hT hno
    unfold w_X2_why_B76
    refine lr6 (fun (U : KS) (i' : Nat) (c' s' : Int32) (q' : Option Nat) (x : Int32) => i' = i ∧ c' = c ∧ s' = set ∧ q' = some q ∧ KV S5 U ∧ ∃ (n : Nat) (rest : List CuT), x = nI n ∧ n + rest.length = cu.length ∧ (∀ (t : Nat) (w : CuT), rest[t]? = some w → cu[n + t]? = some w) ∧ cuI g (cdA c) (cdB c) (cdT c) (c / 64) set rest n = cuI g (cdA c) (cdB c) (cdT c) (c / 64) set cu 0) (fun _ _ _ _ _ x => (10 - x.toInt).toNat) ?_ _ _ _ _ _ _ ⟨rfl, rfl, rfl, rfl, hT, 0, cu, rfl, Nat.zero_add _, fun t w h => (by rw [Nat.zero_add]; exact h), rfl⟩
    rintro kk U i' c' s' q' x ⟨rfl, rfl, rfl, rfl, hU, n, rest, rfl, hlen, hrest, hcu⟩ hk
    unfold w_X2_why_F79 w_X2_why_B138
    have eLU := eL U (KV_KM hU)
    have eA := eC U (KV_KM hU)
    have xn : (nI n).toInt = (n : Int) := nI_toInt (by omega)
    rw [eLU, eA]
    refine ⟨i3, _, hc3, r_size cy tE U _ i3 m3 n3 (.ref e3) _ (by rw [eLU]; exact hc3) ⟨fun hge => ?_, fun hlt => ?_⟩⟩
    · rcases rest with _ | ⟨w, rest⟩
      · exact b173 U hU hno hcu.symm
      · simp only [List.length_cons] at hlen
        exfalso; omega
    rcases rest with _ | ⟨w, rest⟩
    · simp only [List.length_nil] at hlen
      exfalso; omega
    simp only [List.length_cons] at hlen
    have hw0 : cu[n]? = some w := hrest 0 w rfl
    have hwm : w ∈ cu := List.mem_of_getElem? hw0
    obtain ⟨j2, c2, ff, ha2, hnc, qc, hqc, w', hw', hCU⟩ := hel3 n (by omega)
    obtain rfl : w = w' := Option.some.inj (hw0.symm.trans hw')
    obtain ⟨icu, cl, -, hcu2, hCL⟩ := hCU
    have nn : (nI n).toNatClampNeg = n := by rw [tnc, xn]; omega
    rw [eLU, eA]
    refine ⟨i3, _, hc3, r_getE cy tE U _ i3 j2 c2 e3 m3 n3 (nI n) ff _ (by rw [eLU]; exact hc3) (by rw [eLU]; exact ha2) ⟨by omega, hlt⟩ (by omega) ?_⟩
    rw [nn]
    have go : ∀ V, KV S5 V → ¬ (((s' >>> (nI n &&& 31)) &&& 1).toInt = 1 ∧ w.1.toInt = (c' / 64).toInt ∧ (rkV g (cdA c') (cdB c') (cdT c') w.2).toInt = 0) → kk V i' c' s' (some q) (nI n + 1) := by
      intro V hV hnot
      have hs : cuI g (cdA c') (cdB c') (cdT c') (c' / 64) s' (w :: rest) n = cuI g (cdA c') (cdB c') (cdT c') (c' / 64) s' rest (n + 1) := if_neg hnot
      refine hk _ _ _ _ _ _ ⟨rfl, rfl, rfl, rfl, hV, n + 1, rest, nI_inc (by omega), by omega, fun t w' h => ?_, hs.symm.trans hcu⟩ ?_
      · have h5 := hrest (t + 1) w' h
        have e5 : n + 1 + t = n + (t + 1) := by omega
        rw [e5]; exact h5
      · rw [nI_inc (by omega), nI_toInt (by omega), xn]
        omega
    have hT1 := hG.2.1 w hwm
    have b0 : ¬ (((s' >>> (nI n &&& 31)) &&& 1).toInt = 1 ∧ w.1.toInt = (c' / 64).toInt) → w_X2_why_B139 cy tE post kk (w_X2_why_B173 cy tE post) U i' c' s' (some q) (nI n) qc 0 := fun h => ⟨fun _ => go U hU (fun z => h ⟨z.1, z.2.1⟩), fun z => absurd li_0 z⟩
    refine ⟨qc, hqc, icu, _, by rw [eLU]; exact hcu2, fun hb => b0 (fun z => hb z.1), fun hb => ⟨icu, w.1, .ref cl, by rw [eLU]; exact hcu2, fun hx => b0 (fun z => hx z.2), fun hx => ⟨fun z => absurd z (by decide), fun _ => ⟨icu, w.1, cl, by rw [eLU]; exact hcu2, ?_⟩⟩⟩⟩
    refine r_6_valL cy tE U A cl i' c' _ (5, 0, w.2) g [true] (by rw [eLU]; exact hCL) hi.1 (LK_km hi hL5 (KV_KM hU)) hT1 (Nat.le_refl 1) (fun V hV => ?_)
    have hV2 := KV_tr hU hV
    refine ⟨fun hz => go V hV2 (fun z => hz z.2.2), fun hz => ?_⟩
    have hs : cuI g (cdA c') (cdB c') (cdT c') (c' / 64) s' (w :: rest) n = some n := if_pos ⟨hb, hx, hz⟩
    refine fin V ((10 : Int32) + nI n, g) ?_ (KV_KM hV2) (fun z => ?_)
    · rw [hno]
      show wyC g c' a (cuI g (cdA c') (cdB c') (cdT c') (c' / 64) s' cu 0) = _
      rw [← hcu, hs]
      all_goals rfl
    · exfalso
      have e10 : ((10 : Int32) + nI n).toInt = 10 + (n : Int) := by
        rw [ad_ab (by rw [li_10]; omega) (by rw [li_10]; omega), li_10, xn]
      have z2 : ((10 : Int32) + nI n).toInt = -1 := z
      omega
  -- the needs
  refine lr6 (fun (U : KS) (i' : Nat) (c' s' : Int32) (q' : Option Nat) (x : Int32) => i' = i ∧ c' = c ∧ s' = set ∧ q' = some q ∧ KV S5 U ∧ ∃ (n : Nat) (rest : List OL), x = nI n ∧ n + rest.length = a.2.2.2.1.length ∧ (∀ (t : Nat) (w : OL), rest[t]? = some w → a.2.2.2.1[n + t]? = some w) ∧ ndI g (cdA c) (cdB c) (cdT c) rest n = ndI g (cdA c) (cdB c) (cdT c) a.2.2.2.1 0) (fun _ _ _ _ _ x => (10 - x.toInt).toNat) ?_ _ _ _ _ _ _ ⟨rfl, rfl, rfl, rfl, ⟨Fr.rf, rfl⟩, 0, a.2.2.2.1, rfl, Nat.zero_add _, fun t w h => (by rw [Nat.zero_add]; exact h), rfl⟩
  rintro kk U i' c' s' q' x ⟨rfl, rfl, rfl, rfl, hU, n, rest, rfl, hlen, hrest, hnd2⟩ hk
  unfold w_X2_why_F31
  have eLU := eL U (KV_KM hU)
  have xn : (nI n).toInt = (n : Int) := nI_toInt (by omega)
  rw [eLU]
  refine ⟨q, rfl, ia, _, nd, .ref mk, _, _, hca, i4, _, hc4, r_size cy tE U nd i4 m4 n4 (.ref e4) _ (by rw [eLU]; exact hc4) ⟨fun hge => ?_, fun hlt => ?_⟩⟩
  · rcases rest with _ | ⟨w, rest⟩
    · exact b76 U hU hnd2.symm
    · simp only [List.length_cons] at hlen
      exfalso; omega
  rcases rest with _ | ⟨w, rest⟩
  · simp only [List.length_nil] at hlen
    exfalso; omega
  simp only [List.length_cons] at hlen
  have hw0 : a.2.2.2.1[n]? = some w := hrest 0 w rfl
  have hwm : w ∈ a.2.2.2.1 := List.mem_of_getElem? hw0
  obtain ⟨j2, c2, ff, ha2, hnc, qc, hqc, w', hw', hCL⟩ := hel4 n (by omega)
  obtain rfl : w = w' := Option.some.inj (hw0.symm.trans hw')
  have hCL2 := hCL
  obtain ⟨ic, oo, -, hcc, -⟩ := hCL2
  have nn : (nI n).toNatClampNeg = n := by rw [tnc, xn]; omega
  refine ⟨ia, _, nd, .ref mk, _, _, by rw [eLU]; exact hca, i4, _, by rw [eLU]; exact hc4, r_getE cy tE U nd i4 j2 c2 e4 m4 n4 (nI n) ff _ (by rw [eLU]; exact hc4) (by rw [eLU]; exact ha2) ⟨by omega, hlt⟩ (by omega) ?_⟩
  rw [nn]
  refine ⟨qc, hqc, ic, _, by rw [eLU]; exact hcc, ?_⟩
  refine r_6_valL cy tE U A qc i' c' _ (5, 0, w) g [true] (by rw [eLU]; exact hCL) hi.1 (LK_km hi hL5 (KV_KM hU)) (hGA.2.1 w hwm) (Nat.le_refl 1) (fun V hV => ?_)
  have hV2 := KV_tr hU hV
  refine ⟨fun hz => ?_, fun hz => ?_⟩
  · have hs : ndI g (cdA c') (cdB c') (cdT c') (w :: rest) n = ndI g (cdA c') (cdB c') (cdT c') rest (n + 1) := if_neg hz
    refine hk _ _ _ _ _ _ ⟨rfl, rfl, rfl, rfl, hV2, n + 1, rest, nI_inc (by omega), by omega, fun t w' h => ?_, hs.symm.trans hnd2⟩ ?_
    · have h5 := hrest (t + 1) w' h
      have e5 : n + 1 + t = n + (t + 1) := by omega
      rw [e5]; exact h5
    · rw [nI_inc (by omega), nI_toInt (by omega), xn]
      omega
  · have hs : ndI g (cdA c') (cdB c') (cdT c') (w :: rest) n = some n := if_pos hz
    refine fin V (nI n, g) ?_ (KV_KM hV2) (fun z => ?_)
    · rw [← hnd2, hs]
      rfl
    · exfalso
      have z2 : (nI n).toInt = -1 := z
      omega
