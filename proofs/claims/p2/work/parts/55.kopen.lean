/-- the reader's list: its cell at i; with no array (o = none) it is empty -/
def LLs (cy : Nat → ClassId) (tE : Nat) (L : va_W) (q i : Nat) (o : Option Nat) (n : Int32) (f : Nat → Option Nat) : Prop := ∃ (m : Int32) (e : Nat), L[i]? = some (lsC q m e n) ∧ (0 ≤ n.toInt ∧ n.toInt ≤ 10) ∧ ((o = none ∧ e = tE ∧ n = 0) ∨ (∃ j, o = some j ∧ j ≠ i ∧ L[j]? = some (arC cy e 10 f)))
set_option maxHeartbeats 400000 in
theorem r_5_open (cy : Nat → ClassId) (tE : Nat) (S : KS) (b : Int32) (post : KS → Prop) (hW : WD S) (h0 : 0 ≤ b.toInt) (h7 : b.toInt ≤ 700) (i : Nat) (o : Option Nat) (n : Int32) (f : Nat → Option Nat) (hL : LLs cy tE S.2.2.2 (S.2.1 0) i o n f) (k : ∀ S' L' f', KF [15, 16, 19, 20, 21] [13, 14] [1] S S' → LLs cy tE L' (S.2.1 0) i o 0 f' → L'.length = S.2.2.2.length → (∀ t, t ≠ i → o ≠ some t → L'[t]? = S.2.2.2[t]?) → TKr S' b.toInt → fi S'.1 15 = 0 → fi S'.1 16 = 0 → post (ksL S' L')) : w_X5_open cy tE S b post := by
  unfold w_X5_open
  refine r_10_read cy tE S b _ hW h0 h7 (fun T hT hK => ?_)
  have eL : T.2.2.2 = S.2.2.2 := by rw [hT.2.1]
  have e0 : T.2.1 0 = S.2.1 0 := hT.2.2.1 0 (by decide)
  obtain ⟨m, e, hi, hn, hc⟩ := hL
  rw [eL, e0]
  refine ⟨i, _, hi, ?_⟩
  have hF : KF [15, 16, 19, 20, 21] [13, 14] [1] S (ksi (ksi T 15 0) 16 0) := KF_si (by decide) (KF_si (by decide) (KF_wk hT (by decide)))
  have hK2 : TKr (ksi (ksi T 15 0) 16 0) b.toInt := TKr_kf (I := [15, 16]) (A := []) (M := []) hK (KF_si (by decide) (KF_si (by decide) (KF_rf T))) (by decide)
  have e15 : fi (ksi (ksi T 15 0) 16 0).1 15 = 0 := (si_ne (by decide)).trans (si_at _ _ _)
  have e16 : fi (ksi (ksi T 15 0) 16 0).1 16 = 0 := si_at _ _ _
  have eU : (ksi (ksi T 15 0) 16 0).2.2.2 = S.2.2.2 := eL
  generalize ksi (ksi T 15 0) 16 0 = U at hF hK2 e15 e16 eU ⊢
  have fin : ∀ L' f', LLs cy tE L' (S.2.1 0) i o 0 f' → L'.length = S.2.2.2.length → (∀ t, t ≠ i → o ≠ some t → L'[t]? = S.2.2.2[t]?) → post (ksi (ksi (ksL U L') 19 0) 20 (-1)) := by
    intro L' f' h1 h2 h3
    have g15 : fi (ksi (ksi U 19 0) 20 (-1)).1 15 = 0 := ((si_ne (by decide)).trans (si_ne (by decide))).trans e15
    have g16 : fi (ksi (ksi U 19 0) 20 (-1)).1 16 = 0 := ((si_ne (by decide)).trans (si_ne (by decide))).trans e16
    exact k (ksi (ksi U 19 0) 20 (-1)) L' f' (KF_si (by decide) (KF_si (by decide) hF)) h1 h2 h3 (TKr_kf (I := [19, 20]) (A := []) (M := []) hK2 (KF_si (by decide) (KF_si (by decide) (KF_rf U))) (by decide)) g15 g16
  rcases hc with ⟨ho, he, hn0⟩ | ⟨j, ho, hji, hj⟩
  · rw [hn0] at hi
    refine r_clear0 cy tE U _ _ i e m (by rw [eU]; exact hi) ?_
    rw [eU]
    refine fin _ f ⟨m + 1, e, st_at hi, by decide, Or.inl ⟨ho, he, rfl⟩⟩ (List.length_set ..) (fun t ht _ => st_ne (fun h => ht h.symm))
  · refine r_clear cy tE U _ _ i j e m n f (by rw [eU]; exact hi) (by rw [eU]; exact hj) hji hn (fun g => ?_)
    rw [eU]
    have hj1 : (S.2.2.2.set i (lsC (S.2.1 0) (m + 1) e 0))[j]? = some (arC cy e 10 f) := by
      rw [st_ne (fun h => hji h.symm)]; exact hj
    refine fin _ g ⟨m + 1, e, ?_, by decide, Or.inr ⟨j, ho, hji, st_at hj1⟩⟩ (by rw [List.length_set, List.length_set]) (fun t ht ho2 => ?_)
    · rw [st_ne hji]; exact st_at hi
    · rw [st_ne (fun h => ho2 (by rw [ho, h])), st_ne (fun h => ht h.symm)]

