/-- the reader's list: its cell at i; with no array (o = none) it is empty -/
def LLs (cy : Nat → ClassId) (tE : Nat) (L : va_W) (q i : Nat) (o : Option Nat) (n : Int32) (f : Nat → Option Nat) : Prop := ∃ (m : Int32) (e : Nat), L[i]? = some (lsC q m e n) ∧ (0 ≤ n.toInt ∧ n.toInt ≤ 10) ∧ ((o = none ∧ e = tE ∧ n = 0) ∨ (∃ j, o = some j ∧ j ≠ i ∧ L[j]? = some (arC cy e 10 f)))
set_option maxHeartbeats 400000 in
theorem r_5_open (cy : Nat → ClassId) (tE : Nat) (S : KS) (b : Int32) (post : KS → Prop) (hW : WD S) (h0 : 0 ≤ b.toInt) (h7 : b.toInt ≤ 700) (i : Nat) (o : Option Nat) (n : Int32) (f : Nat → Option Nat) (hL : LLs cy tE S.2.2.2 (S.2.1 0) i o n f) (k : ∀ S' L' f', KF [15, 16, 19, 20, 21] [13, 14] [1] S S' → LLs cy tE L' (S.2.1 0) i o 0 f' → L'.length = S.2.2.2.length → (∀ t, t ≠ i → o ≠ some t → L'[t]? = S.2.2.2[t]?) → TKr S' b.toInt → fi S'.1 15 = 0 → fi S'.1 16 = 0 → post (ksL S' L')) : w_X5_open cy tE S b post := by
  unfold w_X5_open
  refine r_10_read cy tE S b _ hW h0 h7 (fun T hT hK => ?_)
  have eL : T.2.2.2 = S.2.2.2 := by rw [hT.2.1]
  have e0 : T.2.1 0 = S.2.1 0 := hT.2.2.1 0 (by decide)
  obtain ⟨m, e, hi, hn, hc⟩ := hL
  rw [eL, e0]
  refine ⟨i, _, hi, ?_⟩
  have hF : KF [15, 16, 19, 20, 21] [13, 14] [1] S (ksi (ksi T 15 0) 16 0) := KF_si (by decide) (KF_si (by decide) (KF_wk hT (by decide)))
  have hK2 : TKr (ksi (ksi T 15 0) 16 0) b.toInt := TKr_kf (I := [15, 16]) (A := []) (M := []) hK (KF_si (by decide) (KF_si (by decide) (KF_rf T))) (by decide)
  have e15 : fi (ksi (ksi T 15 0) 16 0).1 15 = 0 := (si_ne (by decide)).trans (si_at _ _ _)
  have e16 : fi (ksi (ksi T 15 0) 16 0).1 16 = 0 := si_at _ _ _
  have eU : (ksi (ksi T 15 0) 16 0).2.2.2 = S.2.2.2 := eL
  generalize ksi (ksi T 15 0) 16 0 = U at hF hK2 e15 e16 eU ⊢
  have fin : ∀ L' f', LLs cy tE L' (S.2.1 0) i o 0 f' → L'.length = S.2.2.2.length → (∀ t, t ≠ i → o ≠ some t → L'[t]? = S.2.2.2[t]?) → post (ksi (ksi (ksL U L') 19 0) 20 (-1)) := by
    intro L' f' h1 h2 h3
    have g15 : fi (ksi (ksi U 19 0) 20 (-1)).1 15 = 0 := ((si_ne (by decide)).trans (si_ne (by decide))).trans e15
    have g16 : fi (ksi (ksi U 19 0) 20 (-1)).1 16 = 0 := ((si_ne (by decide)).trans (si_ne (by decide))).trans e16
    exact k (ksi (ksi U 19 0) 20 (-1)) L' f' (KF_si (by decide) (KF_si (by decide) hF)) h1 h2 h3 (TKr_kf (I := [19, 20]) (A := []) (M := []) hK2 (KF_si (by decide) (KF_si (by decide) (KF_rf U))) (by decide)) g15 g16
  rcases hc with ⟨ho, he, hn0⟩ | ⟨j, ho, hji, hj⟩
  · rw [hn0] at hi
    refine r_clear0 cy tE U _ _ i e m (by rw [eU]; exact hi) ?_
    rw [eU]
    refine fin _ f ⟨m + 1, e, st_at hi, by decide, Or.inl ⟨ho, he, rfl⟩⟩ (List.length_set ..) (fun t ht _ => st_ne (fun h => ht h.symm))
  · refine r_clear cy tE U _ _ i j e m n f (by rw [eU]; exact hi) (by rw [eU]; exact hj) hji hn (fun g => ?_)
    rw [eU]
    have hj1 : (S.2.2.2.set i (lsC (S.2.1 0) (m + 1) e 0))[j]? = some (arC cy e 10 f) := by
      rw [st_ne (fun h => hji h.symm)]; exact hj
    refine fin _ g ⟨m + 1, e, ?_, by decide, Or.inr ⟨j, ho, hji, st_at hj1⟩⟩ (by rw [List.length_set, List.length_set]) (fun t ht ho2 => ?_)
    · rw [st_ne hji]; exact st_at hi
    · rw [st_ne (fun h => ho2 (by rw [ho, h])), st_ne (fun h => ht h.symm)]
theorem RD_0 {S : KS} {b : Int} (h : TKr S b) (h7 : b ≤ 700) (e15 : fi S.1 15 = 0) (e16 : fi S.1 16 = 0) (h17 : fi S.1 17 = 0 ∨ fi S.1 17 = 1) (h18 : fi S.1 18 = 0 ∨ fi S.1 18 = 1) : RD b S := by
  have hc : 1 ≤ (fi S.1 21).toInt := h.2.1
  have hz : (0 : Int32).toNatClampNeg = 0 := by decide
  have hp : 0 ≤ pn S := by
    unfold pn
    rw [e15, hz]
    exact (h.1.p 0 (by show ((0 : Nat) : Int) < (fi S.1 21).toInt; omega)).1
  refine ⟨⟨h, h7⟩, ?_, ?_, h17, h18⟩
  · rw [e15, li_0]; omega
  · rw [e16, li_0]; omega
set_option maxHeartbeats 400000 in
theorem r_11_takeTape (cy : Nat → ClassId) (tE : Nat) (S : KS) (post : KS → Prop) (hW : WD S) (h0 : 0 ≤ (fi S.1 0).toInt ∧ (fi S.1 0).toInt ≤ 700) (h17 : fi S.1 17 = 0 ∨ fi S.1 17 = 1) (h18 : fi S.1 18 = 0 ∨ fi S.1 18 = 1) (i : Nat) (o : Option Nat) (n : Int32) (f : Nat → Option Nat) (hL : LLs cy tE S.2.2.2 (S.2.1 0) i o n f) (k : ∀ S' L' f', KF [0, 15, 16, 19, 20, 21] [13, 14] [1] S S' → LLs cy tE L' (S.2.1 0) i o 0 f' → L'.length = S.2.2.2.length → (∀ t, t ≠ i → o ≠ some t → L'[t]? = S.2.2.2[t]?) → RD (fi S.1 0).toInt S' → fi S'.1 0 = 0 → fi S'.1 16 = 0 → post (ksL S' L')) : w_X11_takeTape cy tE S post := by
  unfold w_X11_takeTape
  refine r_5_open cy tE S _ _ hW h0.1 h0.2 i o n f hL (fun T L' f' hT h1 h2 h3 hK e15 e16 => ?_)
  have hF : KF [0, 15, 16, 19, 20, 21] [13, 14] [1] S (ksi T 0 0) := KF_si (by decide) (KF_wk hT (by decide))
  have e17 : fi (ksi T 0 0).1 17 = fi S.1 17 := hF.1.1 17 (by decide)
  have e18 : fi (ksi T 0 0).1 18 = fi S.1 18 := hF.1.1 18 (by decide)
  have g15 : fi (ksi T 0 0).1 15 = 0 := (si_ne (by decide)).trans e15
  have g16 : fi (ksi T 0 0).1 16 = 0 := (si_ne (by decide)).trans e16
  have hK2 : TKr (ksi T 0 0) (fi S.1 0).toInt := TKr_kf (I := [0]) (A := []) (M := []) hK (KF_si (by decide) (KF_rf T)) (by decide)
  exact k (ksi T 0 0) L' f' hF h1 h2 h3 (RD_0 hK2 h0.2 g15 g16 (by rw [e17]; exact h17) (by rw [e18]; exact h18)) (si_at _ _ _) g16
set_option maxHeartbeats 400000 in
theorem r_5_isNamed (cy : Nat → ClassId) (tE : Nat) (S : KS) (v : Int64) (post : Int32 → KS → Prop) (i : Nat) (o : Option Nat) (n : Int32) (f : Nat → Option Nat) (hL : LLs cy tE S.2.2.2 (S.2.1 0) i o n f) (hP : ∀ t : Nat, (t : Int) < n.toInt → ∃ (q' i' : Nat) (a : Int64) (x y : Value) (u w : Int32), f t = some q' ∧ S.2.2.2[i']? = some (acC q' a x y u w)) (k : ∀ r : Int32, (r = 0 ∨ r = 1) → post r S) : w_X5_isNamed cy tE S v post := by
  obtain ⟨m, e, hi, hn, hc⟩ := hL
  unfold w_X5_isNamed
  refine lr3 (fun (T : KS) (_ : Int64) (x : Int32) => T = S ∧ 0 ≤ x.toInt ∧ x.toInt ≤ 11) (fun _ _ x => (11 - x.toInt).toNat) ?_ _ _ _ ⟨rfl, by decide, by decide⟩
  rintro kk T v x ⟨rfl, x0, x1⟩ hk
  unfold w_X5_isNamed_F2 w_X5_isNamed_B40
  refine ⟨i, _, hi, r_size cy tE T _ i m n (.ref e) _ hi ⟨fun _ => k 0 (Or.inl rfl), fun g => ⟨i, _, hi, ?_⟩⟩⟩
  rcases hc with ⟨ho, he, hn0⟩ | ⟨j, ho, hji, hj⟩
  · rw [hn0, li_0] at g; omega
  obtain ⟨q', i', a, y, z, u, w, hf, hq⟩ := hP x.toNatClampNeg (by rw [tnc]; omega)
  exact r_getE cy tE T _ i j 10 e m n x f _ hi hj ⟨x0, g⟩ (by omega) ⟨q', hf, i', _, hq, i', a, y, z, u, w, hq, fun _ => hk _ _ _ ⟨rfl, by rw [inc1 (by omega)]; omega, by rw [inc1 (by omega)]; omega⟩ (by rw [inc1 (by omega)]; omega), fun _ => k 1 (Or.inr rfl)⟩

