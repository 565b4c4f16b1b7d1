theorem LXr_fr {I L A N : List Nat} {S S' : KS} {b : Nat} (h : LXr S b) (f : Fr I L A N S.1 S'.1) (h1 : 21 ∉ I) (h2 : 0 ∉ A ∧ 13 ∉ A ∧ 14 ∉ A) (h3 : 0 ∉ N ∧ 1 ∉ N) : LXr S' b := by
  have e21 : fi S'.1 21 = fi S.1 21 := f.1 21 h1
  have e0 : ar S'.1 0 = ar S.1 0 := f.2.2.1 0 h2.1
  have e13 : ar S'.1 13 = ar S.1 13 := f.2.2.1 13 h2.2.1
  have e14 : ar S'.1 14 = ar S.1 14 := f.2.2.1 14 h2.2.2
  have ew : al S'.1 0 = al S.1 0 := f.2.2.2 0 h3.1
  have e1 : al S'.1 1 = al S.1 1 := f.2.2.2 1 h3.2
  unfold LXr
  rw [e21, e0, e13, e14, ew, e1]
  exact h
set_option maxHeartbeats 400000 in
theorem r_5_openE (cy : Nat → ClassId) (tE : Nat) (S : KS) (b : Int32) (post : KS → Prop) (hW : WD S) (h0 : 0 ≤ b.toInt) (h7 : b.toInt ≤ 700) (i : Nat) (o : Option Nat) (n : Int32) (f : Nat → Option Nat) (hL : LLs cy tE S.2.2.2 (S.2.1 0) i o n f) (k : ∀ S' L' f', KF [15, 16, 19, 20, 21] [13, 14] [1] S S' → LLs cy tE L' (S.2.1 0) i o 0 f' → L'.length = S.2.2.2.length → (∀ t, t ≠ i → o ≠ some t → L'[t]? = S.2.2.2[t]?) → LXr S' b.toInt.toNat → TKr S' b.toInt → fi S'.1 15 = 0 → fi S'.1 16 = 0 → fi S'.1 19 = 0 → fi S'.1 20 = -1 → post (ksL S' L')) : w_X5_open cy tE S b post := by
  unfold w_X5_open
  refine r_10_readE cy tE S b _ hW h0 h7 (fun T hT hLT hK => ?_)
  have eL : T.2.2.2 = S.2.2.2 := by rw [hT.2.1]
  have e0 : T.2.1 0 = S.2.1 0 := hT.2.2.1 0 (by decide)
  obtain ⟨m, e, hi, hn, hc⟩ := hL
  rw [eL, e0]
  refine ⟨i, _, hi, ?_⟩
  have hF : KF [15, 16, 19, 20, 21] [13, 14] [1] S (ksi (ksi T 15 0) 16 0) := KF_si (by decide) (KF_si (by decide) (KF_wk hT (by decide)))
  have hK2 : TKr (ksi (ksi T 15 0) 16 0) b.toInt := TKr_kf (I := [15, 16]) (A := []) (M := []) hK (KF_si (by decide) (KF_si (by decide) (KF_rf T))) (by decide)
  have hL2 : LXr (ksi (ksi T 15 0) 16 0) b.toInt.toNat := LXr_fr (I := [15, 16]) (L := []) (A := []) (N := []) hLT (Fr.si (by decide) (Fr.si (by decide) Fr.rf)) (by decide) (by decide) (by decide)
  have e15 : fi (ksi (ksi T 15 0) 16 0).1 15 = 0 := (si_ne (by decide)).trans (si_at _ _ _)
  have e16 : fi (ksi (ksi T 15 0) 16 0).1 16 = 0 := si_at _ _ _
  have eU : (ksi (ksi T 15 0) 16 0).2.2.2 = S.2.2.2 := eL
  generalize ksi (ksi T 15 0) 16 0 = U at hF hK2 hL2 e15 e16 eU ⊢
  have fin : ∀ L' f', LLs cy tE L' (S.2.1 0) i o 0 f' → L'.length = S.2.2.2.length → (∀ t, t ≠ i → o ≠ some t → L'[t]? = S.2.2.2[t]?) → post (ksi (ksi (ksL U L') 19 0) 20 (-1)) := by
    intro L' f' h1 h2 h3
    have g15 : fi (ksi (ksi U 19 0) 20 (-1)).1 15 = 0 := ((si_ne (by decide)).trans (si_ne (by decide))).trans e15
    have g16 : fi (ksi (ksi U 19 0) 20 (-1)).1 16 = 0 := ((si_ne (by decide)).trans (si_ne (by decide))).trans e16
    exact k (ksi (ksi U 19 0) 20 (-1)) L' f' (KF_si (by decide) (KF_si (by decide) hF)) h1 h2 h3 (LXr_fr (I := [19, 20]) (L := []) (A := []) (N := []) hL2 (Fr.si (by decide) (Fr.si (by decide) Fr.rf)) (by decide) (by decide) (by decide)) (TKr_kf (I := [19, 20]) (A := []) (M := []) hK2 (KF_si (by decide) (KF_si (by decide) (KF_rf U))) (by decide)) g15 g16 ((si_ne (by decide)).trans (si_at _ _ _)) (si_at _ _ _)
  rcases hc with ⟨ho, he, hn0⟩ | ⟨j, ho, hji, hj⟩
  · rw [hn0] at hi
    refine r_clear0 cy tE U _ _ i e m (by rw [eU]; exact hi) ?_
    rw [eU]
    refine fin _ f ⟨m + 1, e, st_at hi, by decide, Or.inl ⟨ho, he, rfl⟩⟩ (List.length_set ..) (fun t ht _ => st_ne (fun h => ht h.symm))
  · refine r_clear cy tE U _ _ i j e m n f (by rw [eU]; exact hi) (by rw [eU]; exact hj) hji hn (fun g => ?_)
    rw [eU]
    have hj1 : (S.2.2.2.set i (lsC (S.2.1 0) (m + 1) e 0))[j]? = some (arC cy e 10 f) := by
      rw [st_ne (fun h => hji h.symm)]; exact hj
    refine fin _ g ⟨m + 1, e, ?_, by decide, Or.inr ⟨j, ho, hji, st_at hj1⟩⟩ (by rw [List.length_set, List.length_set]) (fun t ht ho2 => ?_)
    · rw [st_ne hji]; exact st_at hi
    · rw [st_ne (fun h => ho2 (by rw [ho, h])), st_ne (fun h => ht h.symm)]
set_option maxHeartbeats 400000 in
theorem r_11_takeTapeE (cy : Nat → ClassId) (tE : Nat) (S : KS) (post : KS → Prop) (hW : WD S) (h0 : 0 ≤ (fi S.1 0).toInt ∧ (fi S.1 0).toInt ≤ 700) (h17 : fi S.1 17 = 0 ∨ fi S.1 17 = 1) (h18 : fi S.1 18 = 0 ∨ fi S.1 18 = 1) (i : Nat) (o : Option Nat) (n : Int32) (f : Nat → Option Nat) (hL : LLs cy tE S.2.2.2 (S.2.1 0) i o n f) (k : ∀ S' L' f', KF [0, 15, 16, 19, 20, 21] [13, 14] [1] S S' → LLs cy tE L' (S.2.1 0) i o 0 f' → L'.length = S.2.2.2.length → (∀ t, t ≠ i → o ≠ some t → L'[t]? = S.2.2.2[t]?) → LXr S' (fi S.1 0).toInt.toNat → RD (fi S.1 0).toInt S' → fi S'.1 0 = 0 → fi S'.1 15 = 0 → fi S'.1 16 = 0 → fi S'.1 19 = 0 → fi S'.1 20 = -1 → post (ksL S' L')) : w_X11_takeTape cy tE S post := by
  unfold w_X11_takeTape
  refine r_5_openE cy tE S _ _ hW h0.1 h0.2 i o n f hL (fun T L' f' hT h1 h2 h3 hLT hK e15 e16 e19 e20 => ?_)
  have hF : KF [0, 15, 16, 19, 20, 21] [13, 14] [1] S (ksi T 0 0) := KF_si (by decide) (KF_wk hT (by decide))
  have e17 : fi (ksi T 0 0).1 17 = fi S.1 17 := hF.1.1 17 (by decide)
  have e18 : fi (ksi T 0 0).1 18 = fi S.1 18 := hF.1.1 18 (by decide)
  have g15 : fi (ksi T 0 0).1 15 = 0 := (si_ne (by decide)).trans e15
  have g16 : fi (ksi T 0 0).1 16 = 0 := (si_ne (by decide)).trans e16
  have hK2 : TKr (ksi T 0 0) (fi S.1 0).toInt := TKr_kf (I := [0]) (A := []) (M := []) hK (KF_si (by decide) (KF_rf T)) (by decide)
  exact k (ksi T 0 0) L' f' hF h1 h2 h3 (LXr_fr (I := [0]) (L := []) (A := []) (N := []) hLT (Fr.si (by decide) Fr.rf) (by decide) (by decide) (by decide)) (RD_0 hK2 h0.2 g15 g16 (by rw [e17]; exact h17) (by rw [e18]; exact h18)) (si_at _ _ _) g15 g16 ((si_ne (by decide)).trans e19) ((si_ne (by decide)).trans e20)
theorem sg_r : ∀ c, c < 256 → (sgK (nI c)).toInt = 1 ∨ (23 ≤ (sgK (nI c)).toInt ∧ (sgK (nI c)).toInt ≤ 31) := by decide +kernel
theorem kw_r : ∀ i, i < 19 → 4 ≤ ((4 : Int32) + nI i).toInt ∧ ((4 : Int32) + nI i).toInt ≤ 22 := by decide +kernel
theorem nu_r {t : Nat → Int32} {q : Nat} : ∀ m, m ≤ 3 → (∀ i, i < m → isD (t (q + i))) → 0 ≤ (nuF t q m).toInt ∧ (nuF t q m).toInt ≤ 999 ∧ (m ≤ 2 → (nuF t q m).toInt ≤ 99) ∧ (m ≤ 1 → (nuF t q m).toInt ≤ 9) ∧ (m = 0 → (nuF t q m).toInt = 0) := by
  intro m
  induction m with
  | zero =>
    intro _ _
    rw [show nuF t q 0 = 0 from rfl]
    exact ⟨by decide, by decide, fun _ => by decide, fun _ => by decide, fun _ => by decide⟩
  | succ m ih =>
    intro hm hd
    obtain ⟨h0, h1, h2, h3, h4⟩ := ih (by omega) (fun i hi => hd i (by omega))
    have hx := hd m (by omega)
    unfold isD at hx
    have e48 : (48 : Int32).toInt = 48 := by decide
    have e1 := ma_10 (p := nuF t q m) (q := t (q + m)) ⟨h0, by omega⟩ ⟨by omega, by omega⟩
    have e2 : (nuF t q (m + 1)).toInt = 10 * (nuF t q m).toInt + (t (q + m)).toInt - 48 := by
      show ((((10 : Int32) * nuF t q m) + t (q + m)) - 48).toInt = _
      rw [i_sub (by rw [e1, e48]; omega) (by rw [e1, e48]; omega), e1, e48]
    rw [e2]
    refine ⟨by omega, ?_, fun g => ?_, fun g => ?_, fun g => by omega⟩
    · have := h2 (by omega)
      omega
    · have := h3 (by omega)
      omega
    · have := h4 (by omega)
      omega
/-- what a token is -/
theorem TkA_k {t : Nat → Int32} {w : Nat → Int64} {n p q e : Nat} {k : Int32} {v : Int64} (h : TkA t w n p q e k v) (hb : ∀ i, i < n → 0 ≤ (t i).toInt ∧ (t i).toInt ≤ 255) : (0 ≤ k.toInt ∧ k.toInt ≤ 31) ∧ (k.toInt = 2 → (v.toInt32).toInt ≠ -1) ∧ (k.toInt = 3 → q < n ∧ q < e ∧ e ≤ n ∧ e - q ≤ 8 ∧ (∀ i, q ≤ i → i < e → isL (t i)) ∧ v = pkF t q (e - q)) := by
  obtain ⟨a1, a2, a3, a4⟩ := h
  rcases a4 with ⟨-, -, h0⟩ | ⟨x0, ⟨-, hqe, hen, hl, -, hv, hK⟩ | ⟨hd0, hqe, hen, hd, -, hv, hK⟩ | ⟨-, -, -, -, hkk⟩⟩
  · rw [h0]
    exact ⟨by decide, fun g => absurd g (by decide), fun g => absurd g (by decide)⟩
  · have fin : e - q ≤ 8 → (0 ≤ k.toInt ∧ k.toInt ≤ 31) → k.toInt ≠ 2 → (0 ≤ k.toInt ∧ k.toInt ≤ 31) ∧ (k.toInt = 2 → (v.toInt32).toInt ≠ -1) ∧ (k.toInt = 3 → q < n ∧ q < e ∧ e ≤ n ∧ e - q ≤ 8 ∧ (∀ i, q ≤ i → i < e → isL (t i)) ∧ v = pkF t q (e - q)) := fun g8 gr g2 => ⟨gr, fun g => absurd g g2, fun _ => ⟨x0, hqe, hen, g8, hl, hv⟩⟩
    rcases hK with ⟨-, h1⟩ | ⟨g8, ⟨i, hi, -, -, h1⟩ | ⟨-, ⟨-, h1⟩ | ⟨-, h1⟩⟩⟩
    · rw [h1]
      exact ⟨by decide, fun g => absurd g (by decide), fun g => absurd g (by decide)⟩
    · have := kw_r i hi
      rw [← h1] at this
      exact fin g8 (by omega) (by omega)
    · exact fin g8 (by rw [h1]; decide) (by rw [h1]; decide)
    · exact fin g8 (by rw [h1]; decide) (by rw [h1]; decide)
  · rcases hK with ⟨g3, h1⟩ | ⟨-, h1⟩
    · rw [h1, hv, i6432]
      have := nu_r (t := t) (q := q) (e - q) g3 (fun i hi => hd (q + i) (by omega) (by omega))
      exact ⟨by decide, fun _ => by omega, fun g => absurd g (by decide)⟩
    · rw [h1]
      exact ⟨by decide, fun g => absurd g (by decide), fun g => absurd g (by decide)⟩
  · have hx := hb q x0
    have e1 : nI (t q).toInt.toNat = t q := cd_n hx
    have := sg_r (t q).toInt.toNat (by omega)
    rw [e1, ← hkk] at this
    exact ⟨by omega, fun g => by omega, fun g => by omega⟩
/-- the tokens of S -/
def tkZ (S : KS) : TS := (ar S.1 13, al S.1 1, ar S.1 14)
theorem ZS_0 {b : Int} {S : KS} {n : Nat} (h : RD b S) (h15 : fi S.1 15 = 0) (hL : LXr S n) (hb : ∀ i, i < n → 0 ≤ (ar S.1 0 i).toInt ∧ (ar S.1 0 i).toInt ≤ 255) (hw : al S.1 0 = (sm 85).2) : ZS (tkZ S) 0 S ∧ ∃ Y : YT, STm (tkZ S) Y ∧ Y.2.1 = ar S.1 0 ∧ Y.2.2.1 = n ∧ 0 < Y.2.2.2 := by
  obtain ⟨en, hen⟩ := hL
  have hc := RD_c h
  obtain ⟨⟨⟨hT, h1, hz⟩, -⟩, -⟩ := h
  have h1' : 1 ≤ (fi S.1 21).toInt := h1
  have key : ∀ i : Nat, (i : Int) < (fi S.1 21).toInt → (0 ≤ (ar S.1 13 i).toInt ∧ (ar S.1 13 i).toInt ≤ 31) ∧ ((ar S.1 13 i).toInt = 2 → ((al S.1 1 i).toInt32).toInt ≠ -1) := by
    intro i hi
    have := TkA_k (hen i (by omega)) hb
    exact ⟨this.1, this.2.1⟩
  have key2 : ∀ i : Nat, i < (fi S.1 21).toInt.toNat → TkA (ar S.1 0) (sm 85).2 n (enD en i) (ar S.1 14 i).toInt.toNat (en i) (ar S.1 13 i) (al S.1 1 i) ∧ 0 ≤ (ar S.1 14 i).toInt ∧ (0 ≤ (ar S.1 13 i).toInt ∧ (ar S.1 13 i).toInt ≤ 31) := by
    intro i hi
    refine ⟨?_, (hT.p i (by show (i : Int) < (fi S.1 21).toInt; omega)).1, (key i (by omega)).1⟩
    have := hen i hi
    rw [hw] at this
    exact this
  refine ⟨⟨⟨rfl, rfl, rfl⟩, key, by rw [h15]; decide⟩, (en, ar S.1 0, n, (fi S.1 21).toInt.toNat), ⟨key2, fun i hi hk => ?_, ?_⟩, rfl, rfl, ?_⟩
  · show i + 1 < (fi S.1 21).toInt.toNat
    have hi' : i < (fi S.1 21).toInt.toNat := hi
    by_cases e : i = (cnt S - 1).toNat
    · exfalso
      have hk' : (ar S.1 13 i).toInt ≠ 0 := hk
      rw [e, hz] at hk'
      exact hk' (by decide)
    · have : i ≠ ((fi S.1 21).toInt - 1).toNat := e
      omega
  · show (fi S.1 21).toInt.toNat ≤ 701
    omega
  · show 0 < (fi S.1 21).toInt.toNat
    omega
theorem z32 {S : KS} : (fi (ksi S 32 0).1 32).toInt = 0 := by
  have e : fi (ksi S 32 0).1 32 = 0 := si_at _ _ _
  rw [e]; exact li_0
set_option maxHeartbeats 400000 in
theorem r_tapeF (cy : Nat → ClassId) (tE : Nat) (S : KS) (post : KS → Prop) (nv : List OL) (cu : List CuT) (ac : Nat → Option AcT) (hI : KI cy tE S) (hx : KIx cy tE S nv cu ac) (hw : al S.1 0 = (sm 85).2) (hb : ∀ i, i < (fi S.1 0).toInt.toNat → 0 ≤ (ar S.1 0 i).toInt ∧ (ar S.1 0 i).toInt ≤ 255) (k : ∀ U A i0 i1 i2 o0 o1 o2 n1 n2 f0 f1 f2 Y, FX S U → WD U → SQ U → FLG U → fi U.1 0 = 0 → RD (fi S.1 0).toInt U → (fi U.1 16).toInt = 0 → HX cy tE U A i0 i1 i2 o0 o1 o2 0 n1 n2 f0 f1 f2 → HV cy U A n1 n2 f1 f2 nv cu ac → ZS (tkZ U) 0 U → STm (tkZ U) Y → Y.2.1 = ar S.1 0 → Y.2.2.1 = (fi S.1 0).toInt.toNat → 0 < Y.2.2.2 → fi U.1 19 = 0 → fi U.1 20 = -1 → fi U.1 32 = fi S.1 32 → post U) : w_X11_takeTape cy tE S post := by
  obtain ⟨hW, hg, h0, hs, -⟩ := hI
  obtain ⟨A, i0, i1, i2, o0, o1, o2, n0, n1, n2, f0, f1, f2, hX, hV⟩ := hx
  refine r_11_takeTapeE cy tE S _ hW h0 hg.1 hg.2 i0 o0 n0 f0 hX.2.1.1 (fun T L' f' hT hl hn hk hLr hR e0 e15 e16 e19 e20 => ?_)
  have eL : T.2.2.2 = S.2.2.2 := by rw [hT.2.1]
  have eA : T.2.1 0 = S.2.1 0 := hT.2.2.1 0 (by decide)
  have hX0 := HX_kf hX hT
  have hX1 : HX cy tE (ksL T L') A i0 i1 i2 o0 o1 o2 0 n1 n2 f' f1 f2 := HX_tape hX0 (by rw [eA]; exact hl) (by rw [eL]; exact hn) (by rw [eL]; exact hk)
  have hV1 : HV cy (ksL T L') A n1 n2 f1 f2 nv cu ac := HV_mo (HX_k0 hX0 (fun t _ g1 g2 => by rw [eL]; exact hk t g1 g2)) rfl (HV_kf hV hT)
  have hF : FX S (ksL T L') := hT.1.wk (by decide)
  have hb2 := FX_b hF hW hs
  have t0 : ar T.1 0 = ar S.1 0 := hT.1.2.2.1 0 (by decide)
  have tw : al T.1 0 = al S.1 0 := hT.1.2.2.2 0 (by decide)
  obtain ⟨hz, Y, y1, y2, y3, y4⟩ := ZS_0 (S := T) hR e15 hLr (fun i hi => by rw [t0]; exact hb i hi) (tw.trans hw)
  exact k (ksL T L') A i0 i1 i2 o0 o1 o2 n1 n2 f' f1 f2 Y hF hb2.1 hb2.2 (hT.2.2.2.2 hg) e0 hR (by show (fi T.1 16).toInt = 0; rw [e16]; decide) hX1 hV1 hz y1 (y2.trans t0) y3 y4 e19 e20 (hT.1.1 32 (by decide))
