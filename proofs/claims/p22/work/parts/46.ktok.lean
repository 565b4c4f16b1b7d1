def wdt (k : Int) : Int := if k = 17 then 3 else if k = 15 ∨ k = 16 then 2 else 1
theorem wdt_1 {k : Int} (h1 : k ≠ 17) (h2 : k ≠ 15) (h3 : k ≠ 16) : wdt k = 1 := by
  unfold wdt
  rw [if_neg h1, if_neg (by omega)]
theorem wdt_ge (k : Int) : 1 ≤ wdt k ∧ wdt k ≤ 3 := by
  unfold wdt
  split
  · omega
  · split <;> omega
theorem lg_eq {a b : Int64} (h : (lg_cmp a b).toInt = 0) : a = b := by
  unfold lg_cmp at h
  split at h
  · exact absurd h (by decide)
  · split at h
    · assumption
    · exact absurd h (by decide)
abbrev KFt : KS → KS → Prop := KF [21] [13, 14] [1]
abbrev cnt (S : KS) : Int := (fi S.1 21).toInt
abbrev plc (S : KS) (i : Nat) : Int := (ar S.1 14 i).toInt
abbrev knd (S : KS) (i : Nat) : Int := (ar S.1 13 i).toInt
def TK0 (S : KS) (t : Int) : Prop := 0 ≤ cnt S ∧ cnt S ≤ t ∧ (∀ i : Nat, (i : Int) < cnt S → 0 ≤ plc S i ∧ plc S i + wdt (knd S i) ≤ t) ∧ (∀ i : Nat, (i : Int) + 1 < cnt S → plc S i + wdt (knd S i) ≤ plc S (i + 1))
theorem TK0.c0 {S : KS} {t : Int} (h : TK0 S t) : 0 ≤ cnt S := h.1
theorem TK0.c1 {S : KS} {t : Int} (h : TK0 S t) : cnt S ≤ t := h.2.1
theorem TK0.p {S : KS} {t : Int} (h : TK0 S t) : ∀ i : Nat, (i : Int) < cnt S → 0 ≤ plc S i ∧ plc S i + wdt (knd S i) ≤ t := h.2.2.1
theorem TK0.a {S : KS} {t : Int} (h : TK0 S t) : ∀ i : Nat, (i : Int) + 1 < cnt S → plc S i + wdt (knd S i) ≤ plc S (i + 1) := h.2.2.2
theorem TK0_mo {S : KS} {t u : Int} (h : TK0 S t) (g : t ≤ u) : TK0 S u := ⟨h.c0, Int.le_trans h.c1 g, fun i hi => ⟨(h.p i hi).1, Int.le_trans (h.p i hi).2 g⟩, h.a⟩
/-- WORDS' 12th, 13th, 14th -/
def WD (S : KS) : Prop := 32 ≤ (al S.1 0 11).toInt ∧ 32 ≤ (al S.1 0 12).toInt ∧ 1024 ≤ (al S.1 0 13).toInt
theorem WD_kf {I A M : List Nat} {S S' : KS} (h : WD S) (f : KF I A M S S') (h0 : 0 ∉ M) : WD S' := by
  unfold WD
  have e : al S'.1 0 = al S.1 0 := f.1.2.2.2 0 h0
  rw [e]; exact h
set_option maxHeartbeats 400000 in
theorem r_10_add (cy : Nat → ClassId) (tE : Nat) (S : KS) (x p : Int32) (v : Int64) (post : KS → Prop) (t : Int) (hT : TK0 S t) (h1 : t ≤ p.toInt) (h2 : p.toInt ≤ 700) (k : ∀ S', KFt S S' → TK0 S' (p.toInt + wdt x.toInt) → cnt S' = cnt S + 1 → ar S'.1 13 (fi S.1 21).toNatClampNeg = x → ar S'.1 14 (fi S.1 21).toNatClampNeg = p → post S') : w_X10_add cy tE S x p v post := by
  have c0 : 0 ≤ (fi S.1 21).toInt := hT.c0
  have c1 : (fi S.1 21).toInt ≤ t := hT.c1
  unfold w_X10_add w_X10_add_B52
  refine ⟨fun g => by omega, fun g => ⟨by omega, by omega, by omega, ?_⟩⟩
  obtain ⟨n, hn⟩ : ∃ n : Nat, (fi S.1 21).toNatClampNeg = n := ⟨_, rfl⟩
  have hn2 : (n : Int) = (fi S.1 21).toInt := by rw [← hn, tnc]; omega
  rw [hn] at k ⊢
  have e21 : (fi (ksi (ksv (ksu (ksu S 13 n x) 14 n p) 1 n v) 21 (fi S.1 21 + 1)).1 21).toInt = (fi S.1 21).toInt + 1 := by
    show ((si _ 21 _).1 21).toInt = _
    rw [si_at, inc1 (by omega)]
  have e13 : ar (ksi (ksv (ksu (ksu S 13 n x) 14 n p) 1 n v) 21 (fi S.1 21 + 1)).1 13 = upd (ar S.1 13) n x := by
    show (su (su S.1 13 n x) 14 n p).2.2.1 13 = _
    rw [su_ne (by decide), su_at]
  have e14 : ar (ksi (ksv (ksu (ksu S 13 n x) 14 n p) 1 n v) 21 (fi S.1 21 + 1)).1 14 = upd (ar S.1 14) n p := by
    show (su (su S.1 13 n x) 14 n p).2.2.1 14 = _
    rw [su_at, su_ne (by decide)]
  have hF : KFt S (ksi (ksv (ksu (ksu S 13 n x) 14 n p) 1 n v) 21 (fi S.1 21 + 1)) := KF_si (by decide) (KF_sv (by decide) (KF_su (by decide) (KF_su (by decide) (KF_rf S))))
  generalize ksi (ksv (ksu (ksu S 13 n x) 14 n p) 1 n v) 21 (fi S.1 21 + 1) = U at e21 e13 e14 hF ⊢
  have wx := wdt_ge x.toInt
  refine k U hF ⟨?_, ?_, ?_, ?_⟩ e21 (by rw [e13, upd_at]) (by rw [e14, upd_at])
  · show 0 ≤ (fi U.1 21).toInt
    omega
  · show (fi U.1 21).toInt ≤ _
    omega
  · intro i hi
    unfold plc knd
    rw [e13, e14]
    by_cases hin : i = n
    · rw [hin, upd_at, upd_at]; omega
    · rw [upd_ne hin, upd_ne hin]
      have hi2 : (i : Int) < (fi U.1 21).toInt := hi
      have := hT.p i (by show (i : Int) < (fi S.1 21).toInt; omega)
      unfold plc knd at this
      omega
  · intro i hi
    have hi2 : (i : Int) + 1 < (fi U.1 21).toInt := hi
    unfold plc knd
    rw [e13, e14, upd_ne (j := i) (by omega), upd_ne (j := i) (by omega)]
    by_cases hin : i + 1 = n
    · rw [hin, upd_at]
      have := hT.p i (by show (i : Int) < (fi S.1 21).toInt; omega)
      unfold plc knd at this
      omega
    · rw [upd_ne hin]
      exact hT.a i (by show (i : Int) + 1 < (fi S.1 21).toInt; omega)
set_option maxHeartbeats 400000 in
theorem r_10_readNumber (cy : Nat → ClassId) (tE : Nat) (S : KS) (p q : Int32) (post : Int32 → KS → Prop) (t : Int) (hT : TK0 S t) (h1 : t ≤ p.toInt) (h2 : p.toInt < q.toInt) (h3 : q.toInt ≤ 700) (hd : 48 ≤ (ar S.1 0 p.toNatClampNeg).toInt ∧ (ar S.1 0 p.toNatClampNeg).toInt ≤ 57) (k : ∀ r S', KFt S S' → TK0 S' r.toInt → p.toInt < r.toInt → r.toInt ≤ q.toInt → post r S') : w_X10_readNumber cy tE S p q post := by
  have c0 : 0 ≤ (fi S.1 21).toInt := hT.c0
  have c1 : (fi S.1 21).toInt ≤ t := hT.c1
  unfold w_X10_readNumber
  refine lr5 (fun (T : KS) (p' q' _ x : Int32) => T = S ∧ p' = p ∧ q' = q ∧ p.toInt ≤ x.toInt ∧ x.toInt ≤ q.toInt) (fun _ _ _ _ x => (q.toInt - x.toInt).toNat) ?_ _ _ _ _ _ ⟨rfl, rfl, rfl, Int.le_refl _, by omega⟩
  rintro kk T p' q' z x ⟨rfl, rfl, rfl, x0, x1⟩ hk
  have out : p'.toInt < x.toInt → w_X10_readNumber_B43 cy tE post T p' z x := by
    intro g
    unfold w_X10_readNumber_B43 w_X10_readNumber_B57
    refine ⟨fun _ => r_10_add cy tE T _ _ _ _ t hT h1 (by omega) (fun U hU hu _ _ _ => k _ _ hU (TK0_mo hu ?_) g x1), fun _ => r_10_add cy tE T _ _ _ _ t hT h1 (by omega) (fun U hU hu _ _ _ => k _ _ hU (TK0_mo hu ?_) g x1)⟩
    · rw [wdt_1 (by decide) (by decide) (by decide)]; omega
    · rw [wdt_1 (by decide) (by decide) (by decide)]; omega
  unfold w_X10_readNumber_F6
  refine ⟨fun g => out (by omega), fun g => ⟨by omega, r_10_isDigit _ _ _ _ _ (fun r _ hr => ⟨fun g2 => out ?_, fun g2 => ⟨by omega, hk _ _ _ _ _ ⟨rfl, rfl, rfl, by rw [inc1 (by omega)]; omega, by rw [inc1 (by omega)]; omega⟩ (by rw [inc1 (by omega)]; omega)⟩⟩)⟩⟩
  apply Classical.byContradiction
  intro hn
  have he : x = p' := i_eq (by omega)
  rw [he] at hr
  omega
set_option maxHeartbeats 400000 in
theorem r_10_kindOfWord (cy : Nat → ClassId) (tE : Nat) (S : KS) (v : Int64) (n : Int32) (post : Int32 → KS → Prop) (hW : WD S) (k : ∀ r : Int32, (wdt r.toInt ≤ 1 ∨ (wdt r.toInt ≤ 2 ∧ 32 ≤ v.toInt) ∨ (wdt r.toInt ≤ 3 ∧ 1024 ≤ v.toInt)) → post r S) : w_X10_kindOfWord cy tE S v n post := by
  unfold w_X10_kindOfWord
  refine ⟨fun _ => ?_, fun _ => k _ (Or.inl (by decide))⟩
  refine lr4 (fun (T : KS) (v' : Int64) (_ x : Int32) => T = S ∧ v' = v ∧ 0 ≤ x.toInt ∧ x.toInt ≤ 19) (fun _ _ _ x => (19 - x.toInt).toNat) ?_ _ _ _ _ ⟨rfl, rfl, by decide, by decide⟩
  rintro kk T v' n x ⟨rfl, rfl, x0, x1⟩ hk
  unfold w_X10_kindOfWord_F11 w_X10_kindOfWord_B44 w_X10_kindOfWord_B54
  refine ⟨fun _ => ⟨fun _ => k _ (Or.inl (by decide)), fun _ => k _ (Or.inl (by decide))⟩, fun g => ⟨by omega, fun _ => hk _ _ _ _ ⟨rfl, rfl, by rw [inc1 (by omega)]; omega, by rw [inc1 (by omega)]; omega⟩ (by rw [inc1 (by omega)]; omega), fun g2 => k _ ?_⟩⟩
  have ev := lg_eq g2
  have e4 : ((4 : Int32) + x).toInt = 4 + x.toInt := by
    rw [ad_ab (by rw [li_4]; omega) (by rw [li_4]; omega), li_4]
  rw [e4]
  obtain ⟨w1, w2, w3⟩ := hW
  by_cases g11 : x.toInt = 11
  · rw [tnc, g11] at ev
    refine Or.inr (Or.inl ⟨?_, ?_⟩)
    · rw [g11]; decide
    · rw [← ev]; exact w1
  by_cases g12 : x.toInt = 12
  · rw [tnc, g12] at ev
    refine Or.inr (Or.inl ⟨?_, ?_⟩)
    · rw [g12]; decide
    · rw [← ev]; exact w2
  by_cases g13 : x.toInt = 13
  · rw [tnc, g13] at ev
    refine Or.inr (Or.inr ⟨?_, ?_⟩)
    · rw [g13]; decide
    · rw [← ev]; exact w3
  refine Or.inl ?_
  rw [wdt_1 (by omega) (by omega) (by omega)]
  exact Int.le_refl _
theorem l_let {v : Int64} {c : Int32} (h0 : 0 ≤ v.toInt) (h1 : v.toInt < 1024) (h2 : 97 ≤ c.toInt ∧ c.toInt ≤ 122) : ((((v * 32) + c.toInt64) - 97) + 1).toInt = 32 * v.toInt + (c.toInt - 96) := by
  have e32 : (32 : Int64).toInt = 32 := by decide
  have e97 : (97 : Int64).toInt = 97 := by decide
  have e1 : (1 : Int64).toInt = 1 := by decide
  rw [Int64.toInt_add, Int64.toInt_sub, Int64.toInt_add, Int64.toInt_mul, Int32.toInt_toInt64, e32, e97, e1]
  have b1 : Int.bmod (v.toInt * 32) (2 ^ 64) = v.toInt * 32 := Int.bmod_eq_of_le (by omega) (by omega)
  rw [b1]
  have b2 : Int.bmod (v.toInt * 32 + c.toInt) (2 ^ 64) = v.toInt * 32 + c.toInt := Int.bmod_eq_of_le (by omega) (by omega)
  rw [b2]
  have b3 : Int.bmod (v.toInt * 32 + c.toInt - 97) (2 ^ 64) = v.toInt * 32 + c.toInt - 97 := Int.bmod_eq_of_le (by omega) (by omega)
  rw [b3, Int.bmod_eq_of_le (by omega) (by omega)]
  omega
theorem i_sub {a b : Int32} (h1 : -2147483648 ≤ a.toInt - b.toInt) (h2 : a.toInt - b.toInt ≤ 2147483647) : (a - b).toInt = a.toInt - b.toInt := by
  rw [Int32.toInt_sub]
  exact bm h1 h2
theorem i_23 {r : Int32} (h : 0 ≤ r.toInt) : wdt ((23 : Int32) + r).toInt = 1 := by
  have hr := i_rng r
  have e : ((23 : Int32) + r).toInt = Int.bmod (23 + r.toInt) (2 ^ 32) := by rw [Int32.toInt_add, li_23]
  rw [Int.bmod_def] at e
  have h2 : ((23 : Int32) + r).toInt ≠ 17 ∧ ((23 : Int32) + r).toInt ≠ 15 ∧ ((23 : Int32) + r).toInt ≠ 16 := by
    split at e <;> omega
  exact wdt_1 h2.1 h2.2.1 h2.2.2
set_option maxHeartbeats 400000 in
theorem r_10_readWord (cy : Nat → ClassId) (tE : Nat) (S : KS) (p q : Int32) (post : Int32 → KS → Prop) (t : Int) (hW : WD S) (hT : TK0 S t) (h1 : t ≤ p.toInt) (h2 : p.toInt < q.toInt) (h3 : q.toInt ≤ 700) (hd : 97 ≤ (ar S.1 0 p.toNatClampNeg).toInt ∧ (ar S.1 0 p.toNatClampNeg).toInt ≤ 122) (k : ∀ r S', KFt S S' → TK0 S' r.toInt → p.toInt < r.toInt → r.toInt ≤ q.toInt → post r S') : w_X10_readWord cy tE S p q post := by
  have c0 : 0 ≤ (fi S.1 21).toInt := hT.c0
  have c1 : (fi S.1 21).toInt ≤ t := hT.c1
  unfold w_X10_readWord
  refine lr5 (fun (T : KS) (p' q' : Int32) (v : Int64) (x : Int32) => T = S ∧ p' = p ∧ q' = q ∧ p.toInt ≤ x.toInt ∧ x.toInt ≤ q.toInt ∧ (x.toInt = p.toInt → v.toInt = 0) ∧ (x.toInt = p.toInt + 1 → 0 ≤ v.toInt ∧ v.toInt < 32) ∧ (x.toInt = p.toInt + 2 → 0 ≤ v.toInt ∧ v.toInt < 1024)) (fun _ _ _ _ x => (q.toInt - x.toInt).toNat) ?_ _ _ _ _ _ ⟨rfl, rfl, rfl, Int.le_refl _, by omega, fun _ => by decide, fun g => by omega, fun g => by omega⟩
  rintro kk T p' q' v x ⟨rfl, rfl, rfl, x0, x1, v0, v1, v2⟩ hk
  have out : p'.toInt < x.toInt → w_X10_readWord_B48 cy tE post T p' v x := by
    intro g
    unfold w_X10_readWord_B48
    refine r_10_kindOfWord cy tE T _ _ _ hW (fun r hr => r_10_add cy tE T _ _ _ _ t hT h1 (by omega) (fun U hU hu _ _ _ => k _ _ hU (TK0_mo hu ?_) g x1))
    omega
  unfold w_X10_readWord_F6 w_X10_readWord_B42 w_X10_withLetter
  rw [i_sub (a := x) (b := p') (by omega) (by omega)]
  refine ⟨fun g => out (by omega), fun g => ⟨by omega, r_10_isLetter _ _ _ _ _ (fun r _ hr => ⟨fun g2 => out ?_, fun g2 => ⟨fun g3 => ?_, fun g3 => ⟨by omega, ?_⟩⟩⟩)⟩⟩
  · apply Classical.byContradiction
    intro hn
    have he : x = p' := i_eq (by omega)
    rw [he] at hr
    omega
  · have e1 := inc1 (x := x) (by omega)
    exact hk _ _ _ _ _ ⟨rfl, rfl, rfl, by rw [e1]; omega, by rw [e1]; omega, by rw [e1]; intro; omega, by rw [e1]; intro; omega, by rw [e1]; intro; omega⟩ (by rw [e1]; omega)
  · have e1 := inc1 (x := x) (by omega)
    have hl : 97 ≤ (ar T.1 0 x.toNatClampNeg).toInt ∧ (ar T.1 0 x.toNatClampNeg).toInt ≤ 122 := by omega
    refine hk _ _ _ _ _ ⟨rfl, rfl, rfl, by rw [e1]; omega, by rw [e1]; omega, by rw [e1]; intro; omega, ?_, ?_⟩ (by rw [e1]; omega)
    · rw [e1]
      intro gx
      have := v0 (by omega)
      rw [l_let (by omega) (by omega) hl]
      omega
    · rw [e1]
      intro gx
      have := v1 (by omega)
      rw [l_let (by omega) (by omega) hl]
      omega
/-- what read leaves -/
def TKr (S : KS) (b : Int) : Prop := TK0 S (b + 1) ∧ 1 ≤ cnt S ∧ ar S.1 13 (cnt S - 1).toNat = 0
set_option maxHeartbeats 400000 in
theorem r_10_read (cy : Nat → ClassId) (tE : Nat) (S : KS) (b : Int32) (post : KS → Prop) (hW : WD S) (h0 : 0 ≤ b.toInt) (h7 : b.toInt ≤ 700) (k : ∀ S', KFt S S' → TKr S' b.toInt → post S') : w_X10_read cy tE S b post := by
  unfold w_X10_read
  rw [if_neg (by rw [Int32.lt_iff_toInt_lt, li_700]; omega)]
  have s0 : KFt S (ksi S 21 0) := KF_si (by decide) (KF_rf S)
  have t0 : fi (ksi S 21 0).1 21 = 0 := si_at _ _ _
  have T0 : TK0 (ksi S 21 0) 0 := by
    have e : cnt (ksi S 21 0) = 0 := by
      show (fi (ksi S 21 0).1 21).toInt = 0
      rw [t0]; decide
    refine ⟨?_, ?_, ?_, ?_⟩
    · rw [e]; decide
    · rw [e]; decide
    · intro i hi; rw [e] at hi; omega
    · intro i hi; rw [e] at hi; omega
  generalize ksi S 21 0 = U at s0 t0 T0 ⊢
  refine lr4 (fun (T : KS) (b' x m : Int32) => b' = b ∧ KFt S T ∧ WD T ∧ TK0 T x.toInt ∧ 0 ≤ x.toInt ∧ x.toInt ≤ b.toInt ∧ 0 ≤ m.toInt ∧ m.toInt ≤ b.toInt) (fun _ _ _ m => (b.toInt - m.toInt).toNat) ?_ _ _ _ _ ⟨rfl, s0, WD_kf hW s0 (by decide), T0, by decide, h0, by decide, h0⟩
  rintro kk T b' x m ⟨rfl, hF, hWT, hT, x0, x1, m0, m1⟩ hk
  have c0 : 0 ≤ (fi T.1 21).toInt := hT.c0
  have out : w_X10_read_B139 cy tE post T b' := by
    unfold w_X10_read_B139
    refine r_10_add cy tE T _ _ _ _ _ hT x1 h7 (fun V hV hv hc h13 _ => k _ (KF_tr hF hV) ⟨?_, ?_, ?_⟩)
    · rw [wdt_1 (by decide) (by decide) (by decide)] at hv
      exact hv
    · rw [hc]
      show 1 ≤ (fi T.1 21).toInt + 1
      omega
    · rw [hc, Int.add_sub_cancel]
      exact h13
  have go : m.toInt < b'.toInt → ∀ V y, KFt T V → TK0 V y.toInt → x.toInt < y.toInt → y.toInt ≤ b'.toInt → kk V b' y (m + 1) := fun g V y hV hv y0 y1 => hk _ _ _ _ ⟨rfl, KF_tr hF hV, WD_kf hWT hV (by decide), hv, by omega, y1, by rw [inc1 (by omega)]; omega, by rw [inc1 (by omega)]; omega⟩ (by rw [inc1 (by omega)]; omega)
  unfold w_X10_read_F18 w_X10_read_B129 w_X10_read_B123
  refine ⟨fun _ => out, fun g => ⟨fun _ => out, fun g2 => ⟨by omega, ?_⟩⟩⟩
  have e1 := inc1 (x := x) (by omega)
  have sk : kk T b' (x + 1) (m + 1) := go g _ _ (KF_rf T) (TK0_mo hT (by rw [e1]; omega)) (by rw [e1]; omega) (by rw [e1]; omega)
  have sg : ∀ y : Int32, wdt y.toInt = 1 → w_X10_add cy tE T y x 0 (fun S8 => kk S8 b' (x + 1) (m + 1)) := fun y hy => r_10_add cy tE T _ _ _ _ _ hT (Int.le_refl _) (by omega) (fun V hV hv _ _ _ => go g _ _ hV (by rw [e1]; rw [hy] at hv; exact hv) (by rw [e1]; omega) (by rw [e1]; omega))
  refine r_10_isLetter _ _ _ _ _ (fun r _ hr => ⟨fun g3 => ?_, fun g3 => ?_⟩)
  · refine r_10_isDigit _ _ _ _ _ (fun r4 _ hr4 => ⟨fun g4 => ⟨fun _ => sk, fun _ => ⟨fun _ => sk, fun _ => ⟨fun gi => sg _ (i_23 gi), fun _ => sg _ (by decide)⟩⟩⟩, fun g4 => ?_⟩)
    exact r_10_readNumber cy tE T _ _ _ _ hT (Int.le_refl _) g2 h7 (by omega) (fun y V hV hv y0 y1 => go g _ _ hV hv y0 y1)
  · exact r_10_readWord cy tE T _ _ _ _ hWT hT (Int.le_refl _) g2 h7 (by omega) (fun y V hV hv y0 y1 => go g _ _ hV hv y0 y1)

