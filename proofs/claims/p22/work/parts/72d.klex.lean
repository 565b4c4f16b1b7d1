def isL (c : Int32) : Prop := 97 ≤ c.toInt ∧ c.toInt ≤ 122
def isD (c : Int32) : Prop := 48 ≤ c.toInt ∧ c.toInt ≤ 57
def isB (c : Int32) : Prop := c.toInt = 32 ∨ c.toInt = 10
def pkF (t : Nat → Int32) (q : Nat) : Nat → Int64
  | 0 => 0
  | m + 1 => if m < 8 then ((((pkF t q m) * 32) + (t (q + m)).toInt64) - 97) + 1 else pkF t q m
def nuF (t : Nat → Int32) (q : Nat) : Nat → Int32
  | 0 => 0
  | m + 1 => (((10 : Int32) * nuF t q m) + t (q + m)) - 48
/-- the kind of a word: v its letters packed, n how many -/
def KW (w : Nat → Int64) (v : Int64) (n : Nat) (k : Int32) : Prop := (8 < n ∧ k = 1) ∨ (n ≤ 8 ∧ ((∃ i, i < 19 ∧ w i = v ∧ (∀ j, j < i → w j ≠ v) ∧ k = (4 : Int32) + nI i) ∨ ((∀ j, j < 19 → w j ≠ v) ∧ ((n ≤ 1 ∧ k = 1) ∨ (1 < n ∧ k = 3)))))
def sgI (c : Int32) : Int32 := ixR (sN 1) (sF 1) ((c.toUInt32 % 65536).toInt32)
def sgK (c : Int32) : Int32 := if 0 ≤ (sgI c).toInt then (23 : Int32) + sgI c else 1
/-- from p over blanks to q: there stands a token of kind k, up to e, its value v -/
def TkA (t : Nat → Int32) (w : Nat → Int64) (n p q e : Nat) (k : Int32) (v : Int64) : Prop := p ≤ q ∧ q ≤ n ∧ (∀ i, p ≤ i → i < q → isB (t i)) ∧ ((q = n ∧ e = n ∧ k = 0) ∨ (q < n ∧ ((isL (t q) ∧ q < e ∧ e ≤ n ∧ (∀ i, q ≤ i → i < e → isL (t i)) ∧ (e = n ∨ ¬ isL (t e)) ∧ v = pkF t q (e - q) ∧ KW w v (e - q) k) ∨ (isD (t q) ∧ q < e ∧ e ≤ n ∧ (∀ i, q ≤ i → i < e → isD (t i)) ∧ (e = n ∨ ¬ isD (t e)) ∧ v = (nuF t q (e - q)).toInt64 ∧ ((e - q ≤ 3 ∧ k = 2) ∨ (3 < e - q ∧ k = 1))) ∨ (¬ isL (t q) ∧ ¬ isD (t q) ∧ ¬ isB (t q) ∧ e = q + 1 ∧ k = sgK (t q)))))
def enD (en : Nat → Nat) (j : Nat) : Nat := if j = 0 then 0 else en (j - 1)
/-- the first c tokens, and blanks up to x -/
def LXp (S : KS) (n c x : Nat) : Prop := ∃ en : Nat → Nat, (∀ j, j < c → TkA (ar S.1 0) (al S.1 0) n (enD en j) (ar S.1 14 j).toInt.toNat (en j) (ar S.1 13 j) (al S.1 1 j)) ∧ enD en c ≤ x ∧ (∀ i, enD en c ≤ i → i < x → isB (ar S.1 0 i))
def LXq (S : KS) (n x : Nat) : Prop := LXp S n (fi S.1 21).toInt.toNat x
theorem LX_add {S U : KS} {n c x e : Nat} {k p : Int32} {v : Int64} (h : LXp S n c x) (hA : TkA (ar S.1 0) (al S.1 0) n x x e k v) (hp : p.toInt.toNat = x) (e0 : ar U.1 0 = ar S.1 0) (ew : al U.1 0 = al S.1 0) (e13 : ar U.1 13 = upd (ar S.1 13) c k) (e14 : ar U.1 14 = upd (ar S.1 14) c p) (e1 : al U.1 1 = vp_updL (al S.1 1) c v) : LXp U n (c + 1) e := by
  obtain ⟨en, h1, h2, h3⟩ := h
  have eD : ∀ j, j ≤ c → enD (fun j => if j = c then e else en j) j = enD en j := by
    intro j hj
    unfold enD
    by_cases hz : j = 0
    · rw [if_pos hz, if_pos hz]
    · rw [if_neg hz, if_neg hz]
      show (if j - 1 = c then e else en (j - 1)) = en (j - 1)
      rw [if_neg (by omega)]
  have eC : enD (fun j => if j = c then e else en j) (c + 1) = e := by
    unfold enD
    rw [if_neg (by omega)]
    show (if c + 1 - 1 = c then e else _) = e
    rw [if_pos (by omega)]
  refine ⟨fun j => if j = c then e else en j, fun j hj => ?_, by rw [eC]; exact Nat.le_refl _, fun i hi hi2 => by rw [eC] at hi; omega⟩
  rw [e0, ew, e13, e14, e1, eD j (by omega)]
  show TkA _ _ _ _ _ (if j = c then e else en j) _ _
  by_cases hc : j = c
  · rw [hc, if_pos rfl, upd_at, upd_at, upl_at, hp]
    obtain ⟨a1, a2, a3, a4⟩ := hA
    exact ⟨h2, a2, h3, a4⟩
  · rw [if_neg hc, upd_ne hc, upd_ne hc, upl_ne hc]
    exact h1 j (by omega)
theorem LX_bl {S : KS} {n c x : Nat} (h : LXp S n c x) (hb : isB (ar S.1 0 x)) : LXp S n c (x + 1) := by
  obtain ⟨en, h1, h2, h3⟩ := h
  refine ⟨en, h1, by omega, fun i hi hi2 => ?_⟩
  by_cases e : i = x
  · rw [e]; exact hb
  · exact h3 i hi (by omega)
set_option maxHeartbeats 400000 in
theorem r_10_addE (cy : Nat → ClassId) (tE : Nat) (S : KS) (x p : Int32) (v : Int64) (post : KS → Prop) (t : Int) (hT : TK0 S t) (h1 : t ≤ p.toInt) (h2 : p.toInt ≤ 700) (n9 e9 : Nat) (hL : LXq S n9 p.toInt.toNat) (hA : TkA (ar S.1 0) (al S.1 0) n9 p.toInt.toNat p.toInt.toNat e9 x v) (k : ∀ S', KFt S S' → LXq S' n9 e9 → TK0 S' (p.toInt + wdt x.toInt) → cnt S' = cnt S + 1 → ar S'.1 13 (fi S.1 21).toNatClampNeg = x → ar S'.1 14 (fi S.1 21).toNatClampNeg = p → post S') : w_X10_add cy tE S x p v post := by
  have c0 : 0 ≤ (fi S.1 21).toInt := hT.c0
  have c1 : (fi S.1 21).toInt ≤ t := hT.c1
  unfold w_X10_add w_X10_add_B52
  refine ⟨fun g => by omega, fun g => ⟨by omega, by omega, by omega, ?_⟩⟩
  obtain ⟨n, hn⟩ : ∃ n : Nat, (fi S.1 21).toNatClampNeg = n := ⟨_, rfl⟩
  have hn2 : (n : Int) = (fi S.1 21).toInt := by rw [← hn, tnc]; omega
  rw [hn] at k ⊢
  have e21 : (fi (ksi (ksv (ksu (ksu S 13 n x) 14 n p) 1 n v) 21 (fi S.1 21 + 1)).1 21).toInt = (fi S.1 21).toInt + 1 := by
    show ((si _ 21 _).1 21).toInt = _
    rw [si_at, inc1 (by omega)]
  have e13 : ar (ksi (ksv (ksu (ksu S 13 n x) 14 n p) 1 n v) 21 (fi S.1 21 + 1)).1 13 = upd (ar S.1 13) n x := by
    show (su (su S.1 13 n x) 14 n p).2.2.1 13 = _
    rw [su_ne (by decide), su_at]
  have e14 : ar (ksi (ksv (ksu (ksu S 13 n x) 14 n p) 1 n v) 21 (fi S.1 21 + 1)).1 14 = upd (ar S.1 14) n p := by
    show (su (su S.1 13 n x) 14 n p).2.2.1 14 = _
    rw [su_at, su_ne (by decide)]
  have e11 : al (ksi (ksv (ksu (ksu S 13 n x) 14 n p) 1 n v) 21 (fi S.1 21 + 1)).1 1 = vp_updL (al S.1 1) n v := by
    show (sv (su (su S.1 13 n x) 14 n p) 1 n v).2.2.2 1 = _
    rw [sv_at]
    rfl
  have hF : KFt S (ksi (ksv (ksu (ksu S 13 n x) 14 n p) 1 n v) 21 (fi S.1 21 + 1)) := KF_si (by decide) (KF_sv (by decide) (KF_su (by decide) (KF_su (by decide) (KF_rf S))))
  generalize ksi (ksv (ksu (ksu S 13 n x) 14 n p) 1 n v) 21 (fi S.1 21 + 1) = U at e21 e13 e14 e11 hF ⊢
  have wx := wdt_ge x.toInt
  have hLU : LXq U n9 e9 := by
    have hL2 : LXp S n9 n p.toInt.toNat := by
      have e5 : (fi S.1 21).toInt.toNat = n := by rw [← hn, tnc]
      unfold LXq at hL
      rw [e5] at hL; exact hL
    have e6 : (fi U.1 21).toInt.toNat = n + 1 := by rw [e21]; omega
    unfold LXq
    rw [e6]
    exact LX_add hL2 hA rfl (hF.1.2.2.1 0 (by decide)) (hF.1.2.2.2 0 (by decide)) e13 e14 e11
  refine k U hF hLU ⟨?_, ?_, ?_, ?_⟩ e21 (by rw [e13, upd_at]) (by rw [e14, upd_at])
  · show 0 ≤ (fi U.1 21).toInt
    omega
  · show (fi U.1 21).toInt ≤ _
    omega
  · intro i hi
    unfold plc knd
    rw [e13, e14]
    by_cases hin : i = n
    · rw [hin, upd_at, upd_at]; omega
    · rw [upd_ne hin, upd_ne hin]
      have hi2 : (i : Int) < (fi U.1 21).toInt := hi
      have := hT.p i (by show (i : Int) < (fi S.1 21).toInt; omega)
      unfold plc knd at this
      omega
  · intro i hi
    have hi2 : (i : Int) + 1 < (fi U.1 21).toInt := hi
    unfold plc knd
    rw [e13, e14, upd_ne (j := i) (by omega), upd_ne (j := i) (by omega)]
    by_cases hin : i + 1 = n
    · rw [hin, upd_at]
      have := hT.p i (by show (i : Int) < (fi S.1 21).toInt; omega)
      unfold plc knd at this
      omega
    · rw [upd_ne hin]
      exact hT.a i (by show (i : Int) + 1 < (fi S.1 21).toInt; omega)
theorem lg_rf (a : Int64) : (lg_cmp a a).toInt = 0 := by
  have h : ¬ (a > a) := by
    intro h
    have h2 := Int64.lt_iff_toInt_lt.mp h
    omega
  unfold lg_cmp
  rw [if_neg h, if_pos rfl]
  decide
set_option maxHeartbeats 400000 in
theorem r_10_kindOfWordE (cy : Nat → ClassId) (tE : Nat) (S : KS) (v : Int64) (n : Int32) (post : Int32 → KS → Prop) (hW : WD S) (h0 : 0 ≤ n.toInt) (k : ∀ r : Int32, KW (al S.1 0) v n.toInt.toNat r → (wdt r.toInt ≤ 1 ∨ (wdt r.toInt ≤ 2 ∧ 32 ≤ v.toInt) ∨ (wdt r.toInt ≤ 3 ∧ 1024 ≤ v.toInt)) → post r S) : w_X10_kindOfWord cy tE S v n post := by
  unfold w_X10_kindOfWord
  refine ⟨fun g8 => ?_, fun g8 => k _ (Or.inl ⟨by omega, rfl⟩) (Or.inl (by decide))⟩
  refine lr4 (fun (T : KS) (v' : Int64) (n' x : Int32) => T = S ∧ v' = v ∧ n' = n ∧ (∀ j : Nat, (j : Int) < x.toInt → al S.1 0 j ≠ v) ∧ 0 ≤ x.toInt ∧ x.toInt ≤ 19) (fun _ _ _ x => (19 - x.toInt).toNat) ?_ _ _ _ _ ⟨rfl, rfl, rfl, fun j hj => by rw [li_0] at hj; omega, by decide, by decide⟩
  rintro kk T v' n x ⟨rfl, rfl, rfl, hJ, x0, x1⟩ hk
  unfold w_X10_kindOfWord_F11 w_X10_kindOfWord_B44 w_X10_kindOfWord_B54
  have all : 19 ≤ x.toInt → ∀ j, j < 19 → al T.1 0 j ≠ v' := fun g j hj => hJ j (by omega)
  refine ⟨fun g => ⟨fun g1 => k _ (Or.inr ⟨by omega, Or.inr ⟨all g, Or.inl ⟨by omega, rfl⟩⟩⟩) (Or.inl (by decide)), fun g1 => k _ (Or.inr ⟨by omega, Or.inr ⟨all g, Or.inr ⟨by omega, rfl⟩⟩⟩) (Or.inl (by decide))⟩, fun g => ⟨by omega, fun gne => ?_, fun g2 => ?_⟩⟩
  · refine hk _ _ _ _ ⟨rfl, rfl, rfl, fun j hj => ?_, by rw [inc1 (by omega)]; omega, by rw [inc1 (by omega)]; omega⟩ (by rw [inc1 (by omega)]; omega)
    rw [inc1 (by omega)] at hj
    by_cases ej : (j : Int) < x.toInt
    · exact hJ j ej
    · intro he
      apply gne
      have ex : x.toNatClampNeg = j := by rw [tnc]; omega
      rw [ex, he]
      exact lg_rf v'
  have hKW : KW (al T.1 0) v' n.toInt.toNat ((4 : Int32) + x) := by
    refine Or.inr ⟨by omega, Or.inl ⟨x.toInt.toNat, by omega, ?_, fun j hj => hJ j (by omega), ?_⟩⟩
    · have ev := lg_eq g2
      rw [tnc] at ev; exact ev
    · have ex : nI x.toInt.toNat = x := by
        apply i_eq
        rw [nI_toInt (Nat.lt_of_le_of_lt (show x.toInt.toNat ≤ 19 by omega) (by decide))]
        omega
      rw [ex]
  refine k _ hKW ?_
  have ev := lg_eq g2
  have e4 : ((4 : Int32) + x).toInt = 4 + x.toInt := by
    rw [ad_ab (by rw [li_4]; omega) (by rw [li_4]; omega), li_4]
  rw [e4]
  obtain ⟨w1, w2, w3⟩ := hW
  by_cases g11 : x.toInt = 11
  · rw [tnc, g11] at ev
    refine Or.inr (Or.inl ⟨?_, ?_⟩)
    · rw [g11]; decide
    · rw [← ev]; exact w1
  by_cases g12 : x.toInt = 12
  · rw [tnc, g12] at ev
    refine Or.inr (Or.inl ⟨?_, ?_⟩)
    · rw [g12]; decide
    · rw [← ev]; exact w2
  by_cases g13 : x.toInt = 13
  · rw [tnc, g13] at ev
    refine Or.inr (Or.inr ⟨?_, ?_⟩)
    · rw [g13]; decide
    · rw [← ev]; exact w3
  refine Or.inl ?_
  rw [wdt_1 (by omega) (by omega) (by omega)]
  exact Int.le_refl _
set_option maxHeartbeats 400000 in
theorem r_10_readNumberE (cy : Nat → ClassId) (tE : Nat) (S : KS) (p q : Int32) (post : Int32 → KS → Prop) (t : Int) (hT : TK0 S t) (h1 : t ≤ p.toInt) (h2 : p.toInt < q.toInt) (h3 : q.toInt ≤ 700) (hd : 48 ≤ (ar S.1 0 p.toNatClampNeg).toInt ∧ (ar S.1 0 p.toNatClampNeg).toInt ≤ 57) (hL : LXq S q.toInt.toNat p.toInt.toNat) (k : ∀ r S', KFt S S' → LXq S' q.toInt.toNat r.toInt.toNat → TK0 S' r.toInt → p.toInt < r.toInt → r.toInt ≤ q.toInt → post r S') : w_X10_readNumber cy tE S p q post := by
  have c0 : 0 ≤ (fi S.1 21).toInt := hT.c0
  have c1 : (fi S.1 21).toInt ≤ t := hT.c1
  unfold w_X10_readNumber
  refine lr5 (fun (T : KS) (p' q' z x : Int32) => T = S ∧ p' = p ∧ q' = q ∧ (z = nuF (ar S.1 0) p.toInt.toNat (x.toInt.toNat - p.toInt.toNat) ∧ ∀ i, p.toInt.toNat ≤ i → i < x.toInt.toNat → isD (ar S.1 0 i)) ∧ p.toInt ≤ x.toInt ∧ x.toInt ≤ q.toInt) (fun _ _ _ _ x => (q.toInt - x.toInt).toNat) ?_ _ _ _ _ _ ⟨rfl, rfl, rfl, ⟨by rw [Nat.sub_self]; rfl, fun i hi hi2 => by omega⟩, Int.le_refl _, by omega⟩
  rintro kk T p' q' z x ⟨rfl, rfl, rfl, ⟨hz, hDs⟩, x0, x1⟩ hk
  have p0 : 0 ≤ p'.toInt := by omega
  have out : p'.toInt < x.toInt → (x.toInt = q'.toInt ∨ ¬ isD (ar T.1 0 x.toInt.toNat)) → w_X10_readNumber_B43 cy tE post T p' z x := by
    intro g gend
    have tk : ∀ y : Int32, ((x.toInt.toNat - p'.toInt.toNat ≤ 3 ∧ y = 2) ∨ (3 < x.toInt.toNat - p'.toInt.toNat ∧ y = 1)) → TkA (ar T.1 0) (al T.1 0) q'.toInt.toNat p'.toInt.toNat p'.toInt.toNat x.toInt.toNat y z.toInt64 := by
      intro y hy
      refine ⟨Nat.le_refl _, by omega, fun i hi hi2 => by omega, Or.inr ⟨by omega, Or.inr (Or.inl ⟨hDs _ (Nat.le_refl _) (by omega), by omega, by omega, hDs, ?_, by rw [hz], hy⟩)⟩⟩
      rcases gend with g | g
      · exact Or.inl (by omega)
      · exact Or.inr g
    unfold w_X10_readNumber_B43 w_X10_readNumber_B57
    rw [i_sub (a := x) (b := p') (by omega) (by omega)]
    refine ⟨fun g3 => r_10_addE cy tE T _ _ _ _ t hT h1 (by omega) q'.toInt.toNat x.toInt.toNat hL (tk _ (Or.inr ⟨by omega, rfl⟩)) (fun U hU hLU hu _ _ _ => k _ _ hU hLU (TK0_mo hu ?_) g x1), fun g3 => r_10_addE cy tE T _ _ _ _ t hT h1 (by omega) q'.toInt.toNat x.toInt.toNat hL (tk _ (Or.inl ⟨by omega, rfl⟩)) (fun U hU hLU hu _ _ _ => k _ _ hU hLU (TK0_mo hu ?_) g x1)⟩
    · rw [wdt_1 (by decide) (by decide) (by decide)]; omega
    · rw [wdt_1 (by decide) (by decide) (by decide)]; omega
  unfold w_X10_readNumber_F6
  have e1 : x.toInt < q'.toInt → (x + 1).toInt = x.toInt + 1 := fun g => inc1 (by omega)
  refine ⟨fun g => out (by omega) (Or.inl (by omega)), fun g => ⟨by omega, r_10_isDigit _ _ _ _ _ (fun r _ hr => ⟨fun g2 => out ?_ (Or.inr ?_), fun g2 => ⟨by omega, hk _ _ _ _ _ ⟨rfl, rfl, rfl, ⟨?_, ?_⟩, by rw [e1 g]; omega, by rw [e1 g]; omega⟩ (by rw [e1 g]; omega)⟩⟩)⟩⟩
  · apply Classical.byContradiction
    intro hn
    have he : x = p' := i_eq (by omega)
    rw [he] at hr
    omega
  · intro hd2
    rw [tnc] at hr
    unfold isD at hd2
    omega
  · have e2 : (x + 1).toInt.toNat - p'.toInt.toNat = (x.toInt.toNat - p'.toInt.toNat) + 1 := by rw [e1 g]; omega
    rw [e2]
    unfold nuF
    rw [← hz]
    have e3 : p'.toInt.toNat + (x.toInt.toNat - p'.toInt.toNat) = x.toNatClampNeg := by rw [tnc]; omega
    rw [e3]
  · intro i hi hi2
    rw [e1 g] at hi2
    by_cases ei : i < x.toInt.toNat
    · exact hDs i hi ei
    · have ei2 : i = x.toNatClampNeg := by rw [tnc]; omega
      rw [ei2]
      unfold isD
      omega

set_option maxHeartbeats 400000 in
theorem r_10_readWordE (cy : Nat → ClassId) (tE : Nat) (S : KS) (p q : Int32) (post : Int32 → KS → Prop) (t : Int) (hW : WD S) (hT : TK0 S t) (h1 : t ≤ p.toInt) (h2 : p.toInt < q.toInt) (h3 : q.toInt ≤ 700) (hd : 97 ≤ (ar S.1 0 p.toNatClampNeg).toInt ∧ (ar S.1 0 p.toNatClampNeg).toInt ≤ 122) (hL : LXq S q.toInt.toNat p.toInt.toNat) (k : ∀ r S', KFt S S' → LXq S' q.toInt.toNat r.toInt.toNat → TK0 S' r.toInt → p.toInt < r.toInt → r.toInt ≤ q.toInt → post r S') : w_X10_readWord cy tE S p q post := by
  have c0 : 0 ≤ (fi S.1 21).toInt := hT.c0
  have c1 : (fi S.1 21).toInt ≤ t := hT.c1
  unfold w_X10_readWord
  refine lr5 (fun (T : KS) (p' q' : Int32) (v : Int64) (x : Int32) => T = S ∧ p' = p ∧ q' = q ∧ (v = pkF (ar S.1 0) p.toInt.toNat (x.toInt.toNat - p.toInt.toNat) ∧ ∀ i, p.toInt.toNat ≤ i → i < x.toInt.toNat → isL (ar S.1 0 i)) ∧ p.toInt ≤ x.toInt ∧ x.toInt ≤ q.toInt ∧ (x.toInt = p.toInt → v.toInt = 0) ∧ (x.toInt = p.toInt + 1 → 0 ≤ v.toInt ∧ v.toInt < 32) ∧ (x.toInt = p.toInt + 2 → 0 ≤ v.toInt ∧ v.toInt < 1024)) (fun _ _ _ _ x => (q.toInt - x.toInt).toNat) ?_ _ _ _ _ _ ⟨rfl, rfl, rfl, ⟨by rw [Nat.sub_self]; rfl, fun i hi hi2 => by omega⟩, Int.le_refl _, by omega, fun _ => by decide, fun g => by omega, fun g => by omega⟩
  rintro kk T p' q' v x ⟨rfl, rfl, rfl, ⟨hz, hLs⟩, x0, x1, v0, v1, v2⟩ hk
  have p0 : 0 ≤ p'.toInt := by omega
  have out : p'.toInt < x.toInt → (x.toInt = q'.toInt ∨ ¬ isL (ar T.1 0 x.toInt.toNat)) → w_X10_readWord_B48 cy tE post T p' v x := by
    intro g gend
    unfold w_X10_readWord_B48
    have es := i_sub (a := x) (b := p') (by omega) (by omega)
    refine r_10_kindOfWordE cy tE T _ _ _ hW (by rw [es]; omega) (fun r hKW hr => r_10_addE cy tE T _ _ _ _ t hT h1 (by omega) q'.toInt.toNat x.toInt.toNat hL ?_ (fun U hU hLU hu _ _ _ => k _ _ hU hLU (TK0_mo hu ?_) g x1))
    · have en : (x - p').toInt.toNat = x.toInt.toNat - p'.toInt.toNat := by rw [es]; omega
      rw [en] at hKW
      refine ⟨Nat.le_refl _, by omega, fun i hi hi2 => by omega, Or.inr ⟨by omega, Or.inl ⟨hLs _ (Nat.le_refl _) (by omega), by omega, by omega, hLs, ?_, hz, hKW⟩⟩⟩
      rcases gend with g | g
      · exact Or.inl (by omega)
      · exact Or.inr g
    · omega
  unfold w_X10_readWord_F6 w_X10_readWord_B42 w_X10_withLetter
  rw [i_sub (a := x) (b := p') (by omega) (by omega)]
  refine ⟨fun g => out (by omega) (Or.inl (by omega)), fun g => ⟨by omega, r_10_isLetter _ _ _ _ _ (fun r _ hr => ⟨fun g2 => out ?_ (Or.inr ?_), fun g2 => ?_⟩)⟩⟩
  · apply Classical.byContradiction
    intro hn
    have he : x = p' := i_eq (by omega)
    rw [he] at hr
    omega
  · intro hd2
    rw [tnc] at hr
    unfold isL at hd2
    omega
  have e1 := inc1 (x := x) (by omega)
  have hl : 97 ≤ (ar T.1 0 x.toNatClampNeg).toInt ∧ (ar T.1 0 x.toNatClampNeg).toInt ≤ 122 := by omega
  have hLs2 : ∀ i, p'.toInt.toNat ≤ i → i < (x + 1).toInt.toNat → isL (ar T.1 0 i) := by
    intro i hi hi2
    rw [e1] at hi2
    by_cases ei : i < x.toInt.toNat
    · exact hLs i hi ei
    · have ei2 : i = x.toNatClampNeg := by rw [tnc]; omega
      rw [ei2]
      exact hl
  have e2 : (x + 1).toInt.toNat - p'.toInt.toNat = (x.toInt.toNat - p'.toInt.toNat) + 1 := by rw [e1]; omega
  have e3 : p'.toInt.toNat + (x.toInt.toNat - p'.toInt.toNat) = x.toNatClampNeg := by rw [tnc]; omega
  refine ⟨fun g3 => ?_, fun g3 => ⟨by omega, ?_⟩⟩
  · refine hk _ _ _ _ _ ⟨rfl, rfl, rfl, ⟨?_, hLs2⟩, by rw [e1]; omega, by rw [e1]; omega, by rw [e1]; intro; omega, by rw [e1]; intro; omega, by rw [e1]; intro; omega⟩ (by rw [e1]; omega)
    rw [e2]
    unfold pkF
    rw [if_neg (by omega)]
    exact hz
  · refine hk _ _ _ _ _ ⟨rfl, rfl, rfl, ⟨?_, hLs2⟩, by rw [e1]; omega, by rw [e1]; omega, by rw [e1]; intro; omega, ?_, ?_⟩ (by rw [e1]; omega)
    · rw [e2]
      unfold pkF
      rw [if_pos (by omega), ← hz, e3]
    · rw [e1]
      intro gx
      have := v0 (by omega)
      rw [l_let (by omega) (by omega) hl]
      omega
    · rw [e1]
      intro gx
      have := v1 (by omega)
      rw [l_let (by omega) (by omega) hl]
      omega
/-- all tokens of a text of b bytes -/
def LXr (S : KS) (b : Nat) : Prop := ∃ en : Nat → Nat, ∀ j, j < (fi S.1 21).toInt.toNat → TkA (ar S.1 0) (al S.1 0) b (enD en j) (ar S.1 14 j).toInt.toNat (en j) (ar S.1 13 j) (al S.1 1 j)
set_option maxHeartbeats 400000 in
theorem r_10_readE (cy : Nat → ClassId) (tE : Nat) (S : KS) (b : Int32) (post : KS → Prop) (hW : WD S) (h0 : 0 ≤ b.toInt) (h7 : b.toInt ≤ 700) (k : ∀ S', KFt S S' → LXr S' b.toInt.toNat → TKr S' b.toInt → post S') : w_X10_read cy tE S b post := by
  unfold w_X10_read
  rw [if_neg (by rw [Int32.lt_iff_toInt_lt, li_700]; omega)]
  have s0 : KFt S (ksi S 21 0) := KF_si (by decide) (KF_rf S)
  have t0 : fi (ksi S 21 0).1 21 = 0 := si_at _ _ _
  have T0 : TK0 (ksi S 21 0) 0 := by
    have e : cnt (ksi S 21 0) = 0 := by
      show (fi (ksi S 21 0).1 21).toInt = 0
      rw [t0]; decide
    refine ⟨?_, ?_, ?_, ?_⟩
    · rw [e]; decide
    · rw [e]; decide
    · intro i hi; rw [e] at hi; omega
    · intro i hi; rw [e] at hi; omega
  have L0 : LXq (ksi S 21 0) b.toInt.toNat 0 := by
    have e : (fi (ksi S 21 0).1 21).toInt.toNat = 0 := by rw [t0]; decide
    unfold LXq
    rw [e]
    exact ⟨fun _ => 0, fun j hj => by omega, Nat.le_refl _, fun i hi hi2 => by omega⟩
  generalize ksi S 21 0 = U at s0 t0 T0 L0 ⊢
  refine lr4 (fun (T : KS) (b' x m : Int32) => b' = b ∧ KFt S T ∧ WD T ∧ TK0 T x.toInt ∧ LXq T b.toInt.toNat x.toInt.toNat ∧ 0 ≤ x.toInt ∧ x.toInt ≤ b.toInt ∧ 0 ≤ m.toInt ∧ m.toInt ≤ x.toInt) (fun _ _ _ m => (b.toInt - m.toInt).toNat) ?_ _ _ _ _ ⟨rfl, s0, WD_kf hW s0 (by decide), T0, L0, by decide, h0, by decide, by decide⟩
  rintro kk T b' x m ⟨rfl, hF, hWT, hT, hL, x0, x1, m0, m1⟩ hk
  have c0 : 0 ≤ (fi T.1 21).toInt := hT.c0
  have out : x.toInt = b'.toInt → w_X10_read_B139 cy tE post T b' := by
    intro hxb
    have ex : x = b' := i_eq hxb
    rw [ex] at hL hT
    unfold w_X10_read_B139
    refine r_10_addE cy tE T _ _ _ _ _ hT (Int.le_refl _) h7 b'.toInt.toNat b'.toInt.toNat hL ⟨Nat.le_refl _, Nat.le_refl _, fun i hi hi2 => by omega, Or.inl ⟨rfl, rfl, rfl⟩⟩ (fun V hV hLV hv hc h13 _ => k _ (KF_tr hF hV) ?_ ⟨?_, ?_, ?_⟩)
    · obtain ⟨en, hen, -, -⟩ := hLV
      exact ⟨en, hen⟩
    · rw [wdt_1 (by decide) (by decide) (by decide)] at hv
      exact hv
    · rw [hc]
      show 1 ≤ (fi T.1 21).toInt + 1
      omega
    · rw [hc, Int.add_sub_cancel]
      exact h13
  have go : m.toInt < b'.toInt → ∀ V y, KFt T V → LXq V b'.toInt.toNat y.toInt.toNat → TK0 V y.toInt → x.toInt < y.toInt → y.toInt ≤ b'.toInt → kk V b' y (m + 1) := fun g V y hV hLV hv y0 y1 => hk _ _ _ _ ⟨rfl, KF_tr hF hV, WD_kf hWT hV (by decide), hv, hLV, by omega, y1, by rw [inc1 (by omega)]; omega, by rw [inc1 (by omega)]; omega⟩ (by rw [inc1 (by omega)]; omega)
  unfold w_X10_read_F18 w_X10_read_B129 w_X10_read_B123
  refine ⟨fun g => out (by omega), fun g => ⟨fun g2 => out (by omega), fun g2 => ⟨by omega, ?_⟩⟩⟩
  have e1 := inc1 (x := x) (by omega)
  have e2 : (x + 1).toInt.toNat = x.toInt.toNat + 1 := by rw [e1]; omega
  have sk : isB (ar T.1 0 x.toInt.toNat) → kk T b' (x + 1) (m + 1) := fun hb => go g _ _ (KF_rf T) (by rw [e2]; exact LX_bl hL hb) (TK0_mo hT (by rw [e1]; omega)) (by rw [e1]; omega) (by rw [e1]; omega)
  have sg : ∀ y : Int32, wdt y.toInt = 1 → ¬ isL (ar T.1 0 x.toInt.toNat) → ¬ isD (ar T.1 0 x.toInt.toNat) → ¬ isB (ar T.1 0 x.toInt.toNat) → y = sgK (ar T.1 0 x.toInt.toNat) → w_X10_add cy tE T y x 0 (fun S8 => kk S8 b' (x + 1) (m + 1)) := fun y hy a1 a2 a3 a4 => r_10_addE cy tE T _ _ _ _ _ hT (Int.le_refl _) (by omega) b'.toInt.toNat (x.toInt.toNat + 1) hL ⟨Nat.le_refl _, by omega, fun i hi hi2 => by omega, Or.inr ⟨by omega, Or.inr (Or.inr ⟨a1, a2, a3, rfl, a4⟩)⟩⟩ (fun V hV hLV hv _ _ _ => go g _ _ hV (by rw [e2]; exact hLV) (by rw [e1]; rw [hy] at hv; exact hv) (by rw [e1]; omega) (by rw [e1]; omega))
  refine r_10_isLetter _ _ _ _ _ (fun r _ hr => ⟨fun g3 => ?_, fun g3 => ?_⟩)
  · rw [tnc] at hr
    have nL : ¬ isL (ar T.1 0 x.toInt.toNat) := by unfold isL; omega
    refine r_10_isDigit _ _ _ _ _ (fun r4 _ hr4 => ⟨fun g4 => ?_, fun g4 => ?_⟩)
    · rw [tnc] at hr4
      have nD : ¬ isD (ar T.1 0 x.toInt.toNat) := by unfold isD; omega
      rw [tnc]
      refine ⟨fun h => sk (Or.inl h), fun h5 => ⟨fun h => sk (Or.inr h), fun h6 => ⟨fun gi => ?_, fun gi => ?_⟩⟩⟩
      · refine sg _ (i_23 gi) nL nD (by unfold isB; omega) ?_
        unfold sgK sgI
        rw [if_pos gi]
      · refine sg _ (by decide) nL nD (by unfold isB; omega) ?_
        unfold sgK sgI
        rw [if_neg (by omega)]
    · exact r_10_readNumberE cy tE T _ _ _ _ hT (Int.le_refl _) g2 h7 (by omega) hL (fun y V hV hLV hv y0 y1 => go g _ _ hV hLV hv y0 y1)
  · exact r_10_readWordE cy tE T _ _ _ _ hWT hT (Int.le_refl _) g2 h7 (by omega) hL (fun y V hV hLV hv y0 y1 => go g _ _ hV hLV hv y0 y1)
