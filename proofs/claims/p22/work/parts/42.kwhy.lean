/-- the made cells, as the queries read them -/
def HQ (cy : Nat → ClassId) (S : KS) : Prop := ∃ A : Nat → Prop, S.2.1 3 < 5 ∧ LSp cy A S.2.2.2 (CLp cy A S.2.2.2) (S.2.1 1) ∧ LSp cy A S.2.2.2 (CUp cy A S.2.2.2) (S.2.1 2) ∧ (∀ i, i < 12 → ∀ q, S.2.2.1 i = some q → ACp cy A S.2.2.2 q)
theorem HQ_kf {I A M : List Nat} {cy : Nat → ClassId} {S S' : KS} (h : HQ cy S) (f : KF I A M S S') : HQ cy S' := by
  obtain ⟨B, h1, h2, h3, h4⟩ := h
  have e2 : S'.2.2.2 = S.2.2.2 := by rw [f.2.1]
  have e1 : S'.2.2.1 = S.2.2.1 := by rw [f.2.1]
  refine ⟨B, f.2.2.2.1 h1, ?_, ?_, ?_⟩
  · rw [e2, f.2.2.1 1 (by decide)]; exact h2
  · rw [e2, f.2.2.1 2 (by decide)]; exact h3
  · rw [e2, e1]; exact h4
abbrev KW1 : KS → KS → Prop := KF [23, 24, 25] [2, 3, 4, 5, 16] []
set_option maxHeartbeats 400000 in
theorem r_2_why (cy : Nat → ClassId) (tE : Nat) (S : KS) (i : Nat) (c laws set : Int32) (post : Int32 → KS → Prop) (hi : i < 5) (hH : HQ cy S) (k : ∀ r S', KW1 S S' → post r S') : w_X2_why cy tE S i c laws set post := by
  obtain ⟨A, h3, hN, hC, hA⟩ := hH
  unfold w_X2_why
  refine r_4_actOf cy tE S A _ _ _ hA (fun r hr => ⟨fun _ => k _ _ (KF_rf S), fun q hq => ?_⟩)
  have hq2 : ACp cy A S.2.2.2 q := by
    rcases hr with h | ⟨q', h, h'⟩
    · rw [h] at hq; exact absurd hq (by simp)
    · rw [hq] at h; cases h; exact h'
  obtain ⟨ia, nm, nd, mk, wo, wt, -, hca, hnd, hmk⟩ := hq2
  refine r_6_look cy tE S i c _ hi (fun S5 hS5 h5 => ?_)
  have hK5 : KW1 S S5 := KF_wk hS5 (by decide)
  have eqL : ∀ T, KW1 S T → T.2.2.2 = S.2.2.2 := fun T hT => by rw [hT.2.1]
  -- the makes
  have b173 : ∀ T, KW1 S T → w_X2_why_B173 cy tE post T i c (some q) := by
    intro T hT
    unfold w_X2_why_B173
    obtain ⟨i2, m2, e2, n2, -, hc2, n0, n10, hel⟩ := hmk
    refine r_9_copy cy tE T 2 i _ (by decide) hi (fun T2 hT2 => ?_)
    refine lr4 (fun (U : KS) (c' : Int32) (q' : Option Nat) (x : Int32) => c' = c ∧ q' = some q ∧ KW1 S U ∧ 0 ≤ x.toInt ∧ x.toInt ≤ 10) (fun _ _ _ x => (10 - x.toInt).toNat) ?_ _ _ _ _ ⟨rfl, rfl, KF_tr hT (KF_wk hT2 (by decide)), by decide, by decide⟩
    rintro kk U c' q' x ⟨rfl, rfl, hU, x0, x1⟩ hk
    unfold w_X2_why_F184 w_X2_why_B277 w_X2_why_B293
    have eL := eqL U hU
    rw [eL]
    refine ⟨q, rfl, ia, nm, .ref nd, mk, wo, wt, hca, i2, _, hc2, r_size cy tE U mk i2 m2 n2 (.ref e2) _ (by rw [eL]; exact hc2) ⟨fun _ => r_9_isInBounds _ _ _ _ _ (by decide) (fun _ => ⟨fun _ => k _ _ hU, fun _ => k _ _ hU⟩), fun g => ?_⟩⟩
    rcases hel with h | ⟨j2, c2, f2, -, ha2, hnc, hf2⟩
    · omega
    obtain ⟨qc, hqc, hCL⟩ := hf2 x.toInt.toNat (by omega)
    have hCL2 := hCL
    obtain ⟨ic, kd, frs, oo, -, hcc, -⟩ := hCL2
    refine ⟨ia, nm, .ref nd, mk, wo, wt, by rw [eL]; exact hca, i2, _, by rw [eL]; exact hc2, r_getE cy tE U mk i2 j2 c2 e2 m2 n2 x f2 _ (by rw [eL]; exact hc2) (by rw [eL]; exact ha2) ⟨x0, g⟩ hnc ?_⟩
    refine ⟨qc, hqc, ic, _, by rw [eL]; exact hcc, ic, kd, frs, .ref oo, by rw [eL]; exact hcc, ?_⟩
    refine r_6_person _ _ _ _ _ (fun r1 => ⟨ic, kd, frs, .ref oo, by rw [eL]; exact hcc, r_6_person _ _ _ _ _ (fun r2 => ⟨ic, kd, frs, .ref oo, by rw [eL]; exact hcc, r_11_thingOf _ _ _ _ _ (fun r3 _ => ?_)⟩)⟩)
    refine r_6_value cy tE U A qc _ (by rw [eL]; exact hCL) (hU.2.2.2.1 h3) (fun r4 V hV => ?_)
    refine r_9_change cy tE V 2 _ _ _ _ _ _ (by decide) (fun W hW => ?_)
    exact hk _ _ _ _ ⟨rfl, rfl, KF_tr hU (KF_tr (KF_wk hV (by decide)) (KF_wk hW (by decide))), by rw [inc1 (by omega)]; omega, by rw [inc1 (by omega)]; omega⟩ (by rw [inc1 (by omega)]; omega)
  -- the cures
  have b76 : ∀ T, KW1 S T → w_X2_why_B76 cy tE post T i c set (some q) := by
    intro T hT
    unfold w_X2_why_B76
    obtain ⟨i2, m2, e2, n2, -, hc2, n0, n10, hel⟩ := hC
    refine lr6 (fun (U : KS) (i' : Nat) (c' s' : Int32) (q' : Option Nat) (x : Int32) => i' = i ∧ c' = c ∧ q' = some q ∧ KW1 S U ∧ 0 ≤ x.toInt ∧ x.toInt ≤ 10) (fun _ _ _ _ _ x => (10 - x.toInt).toNat) ?_ _ _ _ _ _ _ ⟨rfl, rfl, rfl, hT, by decide, by decide⟩
    rintro kk U i' c' s' q' x ⟨rfl, rfl, rfl, hU, x0, x1⟩ hk
    unfold w_X2_why_F79 w_X2_why_B138
    have eL := eqL U hU
    have eA : U.2.1 2 = S.2.1 2 := hU.2.2.1 2 (by decide)
    rw [eL, eA]
    refine ⟨i2, _, hc2, r_size cy tE U _ i2 m2 n2 (.ref e2) _ (by rw [eL]; exact hc2) ⟨fun _ => b173 U hU, fun g => ?_⟩⟩
    rcases hel with h | ⟨j2, c2, f2, -, ha2, hnc, hf2⟩
    · omega
    obtain ⟨qc, hqc, icu, ac, cl, -, hcu, hCL⟩ := hf2 x.toInt.toNat (by omega)
    rw [eL, eA]
    refine ⟨i2, _, hc2, r_getE cy tE U _ i2 j2 c2 e2 m2 n2 x f2 _ (by rw [eL]; exact hc2) (by rw [eL]; exact ha2) ⟨x0, g⟩ hnc ?_⟩
    have go : ∀ V, KW1 S V → kk V i' c' s' (some q) (x + 1) := fun V hV => hk _ _ _ _ _ _ ⟨rfl, rfl, rfl, hV, by rw [inc1 (by omega)]; omega, by rw [inc1 (by omega)]; omega⟩ (by rw [inc1 (by omega)]; omega)
    have b139 : ∀ y0, w_X2_why_B139 cy tE post kk (w_X2_why_B173 cy tE post) U i' c' s' (some q) x qc y0 := by
      intro y0
      unfold w_X2_why_B139 w_X2_why_B167
      refine ⟨fun _ => go _ hU, fun _ => ⟨icu, ac, cl, by rw [eL]; exact hcu, r_6_value cy tE U A cl _ (by rw [eL]; exact hCL) (hU.2.2.2.1 h3) (fun r4 V hV => ?_)⟩⟩
      have hV2 : KW1 S V := KF_tr hU (KF_wk hV (by decide))
      exact ⟨fun _ => go _ hV2, fun _ => k _ _ hV2⟩
    exact ⟨qc, hqc, icu, _, by rw [eL]; exact hcu, fun _ => b139 0, fun _ => ⟨icu, ac, .ref cl, by rw [eL]; exact hcu, fun _ => b139 0, fun _ => b139 1⟩⟩
  obtain ⟨i2, m2, e2, n2, -, hc2, n0, n10, hel⟩ := hnd
  refine lr6 (fun (U : KS) (i' : Nat) (c' s' : Int32) (q' : Option Nat) (x : Int32) => i' = i ∧ c' = c ∧ s' = set ∧ q' = some q ∧ KW1 S U ∧ 0 ≤ x.toInt ∧ x.toInt ≤ 10) (fun _ _ _ _ _ x => (10 - x.toInt).toNat) ?_ _ _ _ _ _ _ ⟨rfl, rfl, rfl, rfl, hK5, by decide, by decide⟩
  rintro kk U i' c' s' q' x ⟨rfl, rfl, rfl, rfl, hU, x0, x1⟩ hk
  unfold w_X2_why_F31
  have eL := eqL U hU
  rw [eL]
  refine ⟨q, rfl, ia, nm, nd, .ref mk, wo, wt, hca, i2, _, hc2, r_size cy tE U nd i2 m2 n2 (.ref e2) _ (by rw [eL]; exact hc2) ⟨fun _ => b76 U hU, fun g => ?_⟩⟩
  rcases hel with h | ⟨j2, c2, f2, -, ha2, hnc, hf2⟩
  · omega
  obtain ⟨qc, hqc, hCL⟩ := hf2 x.toInt.toNat (by omega)
  have hCL2 := hCL
  obtain ⟨ic, kd, frs, oo, -, hcc, -⟩ := hCL2
  refine ⟨ia, nm, nd, .ref mk, wo, wt, by rw [eL]; exact hca, i2, _, by rw [eL]; exact hc2, r_getE cy tE U nd i2 j2 c2 e2 m2 n2 x f2 _ (by rw [eL]; exact hc2) (by rw [eL]; exact ha2) ⟨x0, g⟩ hnc ⟨qc, hqc, ic, _, by rw [eL]; exact hcc, ?_⟩⟩
  refine r_6_value cy tE U A qc _ (by rw [eL]; exact hCL) (hU.2.2.2.1 h3) (fun r4 V hV => ?_)
  have hV2 : KW1 S V := KF_tr hU (KF_wk hV (by decide))
  exact ⟨fun _ => hk _ _ _ _ _ _ ⟨rfl, rfl, rfl, rfl, hV2, by rw [inc1 (by omega)]; omega, by rw [inc1 (by omega)]; omega⟩ (by rw [inc1 (by omega)]; omega), fun _ => k _ _ hV2⟩
abbrev KW2 : KS → KS → Prop := KF [22, 23, 24, 25] [2, 3, 4, 5, 16] []
set_option maxHeartbeats 400000 in
theorem r_2_follow (cy : Nat → ClassId) (tE : Nat) (S : KS) (i j : Nat) (laws set : Int32) (post : Int32 → KS → Prop) (hi : i < 7) (hj : j < 5) (hH : HQ cy S) (k : ∀ r S', KW2 S S' → post r S') : w_X2_follow cy tE S i j laws set post := by
  unfold w_X2_follow
  refine r_9_copy cy tE S 3 j _ (by decide) hj (fun S2 hS2 => ?_)
  refine lr5 (fun (T : KS) (i' : Nat) (l' s' x : Int32) => i' = i ∧ KW2 S T ∧ 0 ≤ x.toInt) (fun T _ _ _ x => ((fi S.1 (1 + 2 * i)).toInt - x.toInt).toNat) ?_ _ _ _ _ _ ⟨rfl, KF_si (by decide) (KF_wk hS2 (by decide)), by decide⟩
  rintro kk T i' l' s' x ⟨rfl, hT, x0⟩ hk
  unfold w_X2_follow_F16 w_X2_follow_B74
  have ec : fi T.1 (1 + 2 * i') = fi S.1 (1 + 2 * i') := hT.1.1 _ (by
    have : i' = 0 ∨ i' = 1 ∨ i' = 2 ∨ i' = 3 ∨ i' = 4 ∨ i' = 5 ∨ i' = 6 := by omega
    rcases this with h | h | h | h | h | h | h <;> subst h <;> decide)
  rw [ec]
  have hr := i_rng (fi S.1 (1 + 2 * i'))
  refine ⟨hi, fun _ => ⟨hi, k _ _ hT⟩, fun g => ⟨hi, r_7_get _ _ _ _ _ _ hi (fun r5 => ?_)⟩⟩
  refine r_2_why cy tE T 3 _ _ _ _ (by decide) (HQ_kf hH hT) (fun r7 U hU => ?_)
  have hU2 : KW2 S U := KF_tr hT (KF_wk hU (by decide))
  refine ⟨fun _ => ?_, fun _ => k _ _ (KF_si (by decide) hU2)⟩
  refine r_9_copy cy tE _ 3 2 _ (by decide) (by decide) (fun V hV => ?_)
  exact hk _ _ _ _ _ ⟨rfl, KF_tr (KF_si (by decide) hU2) (KF_wk hV (by decide)), by rw [inc1 (by omega)]; omega⟩ (by rw [inc1 (by omega)]; omega)
set_option maxHeartbeats 400000 in
theorem r_2_isNever (cy : Nat → ClassId) (tE : Nat) (S : KS) (A : Nat → Prop) (i q : Nat) (post : Int32 → KS → Prop) (hi : i < 5) (hq : CLp cy A S.2.2.2 q) (k : ∀ r S', KW1 S S' → post r S') : w_X2_isNever cy tE S i q post := by
  unfold w_X2_isNever
  refine lr4 (fun (T : KS) (i' q' : Nat) (a : Int32) => i' = i ∧ q' = q ∧ KW1 S T ∧ 0 ≤ a.toInt ∧ a.toInt ≤ 3) (fun _ _ _ a => (3 - a.toInt).toNat) ?_ _ _ _ _ ⟨rfl, rfl, KF_rf S, by decide, by decide⟩
  rintro kk T i' q' a ⟨rfl, rfl, hT, a0, a3⟩ hk
  unfold w_X2_isNever_F2 w_X2_isNever_B82
  refine ⟨fun _ => k _ _ hT, fun g => ?_⟩
  refine lr5 (fun (U : KS) (i2 q2 : Nat) (a2 b : Int32) => i2 = i' ∧ q2 = q' ∧ a2 = a ∧ KW1 S U ∧ 0 ≤ b.toInt ∧ b.toInt ≤ 3) (fun _ _ _ _ b => (3 - b.toInt).toNat) ?_ _ _ _ _ _ ⟨rfl, rfl, rfl, hT, by decide, by decide⟩
  rintro kk2 U i2 q2 a2 b ⟨rfl, rfl, rfl, hU, b0, b3⟩ hk2
  unfold w_X2_isNever_F10 w_X2_isNever_B76
  refine ⟨fun _ => hk _ _ _ _ ⟨rfl, rfl, hU, by rw [inc1 (by omega)]; omega, by rw [inc1 (by omega)]; omega⟩ (by rw [inc1 (by omega)]; omega), fun g2 => ?_⟩
  refine lr6 (fun (V : KS) (i3 q3 : Nat) (a3 b2 t : Int32) => i3 = i2 ∧ q3 = q2 ∧ a3 = a2 ∧ b2 = b ∧ KW1 S V ∧ 0 ≤ t.toInt ∧ t.toInt ≤ 3) (fun _ _ _ _ _ t => (3 - t.toInt).toNat) ?_ _ _ _ _ _ _ ⟨rfl, rfl, rfl, rfl, hU, by decide, by decide⟩
  rintro kk3 V i3 q3 a4 b2 t ⟨rfl, rfl, rfl, rfl, hV, t0, t3⟩ hk3
  unfold w_X2_isNever_F19 w_X2_isNever_B70 w_X2_isNever_B64
  refine ⟨fun _ => hk2 _ _ _ _ _ ⟨rfl, rfl, rfl, hU.2.2.2 |> fun _ => hV, by rw [inc1 (by omega)]; omega, by rw [inc1 (by omega)]; omega⟩ (by rw [inc1 (by omega)]; omega), fun g3 => ?_⟩
  refine r_6_look cy tE V i3 _ _ hi (fun W hW h5 => ?_)
  have hW2 : KW1 S W := KF_tr hV (KF_wk hW (by decide))
  have go : ∀ Y, KW1 S Y → kk3 Y i3 q3 a4 b2 (t + 1) := fun Y hY => hk3 _ _ _ _ _ _ ⟨rfl, rfl, rfl, rfl, hY, by rw [inc1 (by omega)]; omega, by rw [inc1 (by omega)]; omega⟩ (by rw [inc1 (by omega)]; omega)
  have eL : W.2.2.2 = S.2.2.2 := by rw [hW2.2.1]
  refine ⟨fun _ => go _ hW2, fun _ => r_6_value cy tE W A q3 _ (by rw [eL]; exact hq) h5 (fun r4 Y hY => ?_)⟩
  have hY2 : KW1 S Y := KF_tr hW2 (KF_wk hY (by decide))
  exact ⟨fun _ => go _ hY2, fun _ => k _ _ hY2⟩
/-- the SEARCH's numbers -/
def SQ (S : KS) : Prop := (0 ≤ (fi S.1 33).toInt ∧ (fi S.1 33).toInt ≤ 400) ∧ (0 ≤ (fi S.1 31).toInt ∧ (fi S.1 31).toInt ≤ 400) ∧ (0 ≤ (fi S.1 26).toInt ∧ (fi S.1 26).toInt ≤ 216)
theorem SQ_kf {I A M : List Nat} {S S' : KS} (h : SQ S) (f : KF I A M S S') (h1 : 33 ∉ I ∧ 31 ∉ I ∧ 26 ∉ I) : SQ S' := by
  have e1 : fi S'.1 33 = fi S.1 33 := f.1.1 33 h1.1
  have e2 : fi S'.1 31 = fi S.1 31 := f.1.1 31 h1.2.1
  have e3 : fi S'.1 26 = fi S.1 26 := f.1.1 26 h1.2.2
  unfold SQ
  rw [e1, e2, e3]; exact h
abbrev KQs : KS → KS → Prop := KF [22, 23, 24, 25, 26, 27, 28, 29, 30, 31, 32, 33, 34] [2, 3, 4, 5, 16, 17, 18, 19, 20, 21] [2, 3]
set_option maxHeartbeats 400000 in
theorem r_8_load (cy : Nat → ClassId) (tE : Nat) (S : KS) (x : Int32) (post : KS → Prop) (hs : SQ S) (k : ∀ S', KF [] stQ [] S S' → post S') : w_X8_load cy tE S x post := by
  unfold w_X8_load w_X8_load_B25
  have := hs.1
  exact ⟨fun _ => k _ (KF_rf S), fun h => ⟨fun _ => k _ (KF_rf S), fun h2 => ⟨by omega, r_9_unpack _ _ _ _ _ _ (by decide) (fun S' hS' => k _ hS')⟩⟩⟩
set_option maxHeartbeats 400000 in
theorem r_8_grow (cy : Nat → ClassId) (tE : Nat) (S : KS) (post : Int32 → KS → Prop) (hH : HQ cy S) (hs : SQ S) (k : ∀ r S', KQs S S' → SQ S' → (fi S.1 33).toInt ≤ (fi S'.1 33).toInt → post r S') : w_X8_grow cy tE S post := by
  unfold w_X8_grow w_X8_grow_B34
  obtain ⟨s1, s2, s3⟩ := hs
  have no : post 0 S := k _ _ (KF_rf S) ⟨s1, s2, s3⟩ (Int.le_refl _)
  refine ⟨fun _ => no, fun _ => ⟨fun _ => no, fun g => ⟨by omega, fun _ => ⟨by omega, ?_⟩, fun _ => no⟩⟩⟩
  refine r_9_unpack _ _ _ _ _ _ (by decide) (fun S4 h4 => ?_)
  have hk4 : KQs S S4 := KF_wk h4 (by decide)
  have hs4 : SQ S4 := SQ_kf ⟨s1, s2, s3⟩ h4 (by decide)
  have e33 : fi S4.1 33 = fi S.1 33 := h4.1.1 33 (by decide)
  have e31 : fi S4.1 31 = fi S.1 31 := h4.1.1 31 (by decide)
  refine lr2 (fun (T : KS) (x : Int32) => KQs S T ∧ SQ T ∧ (fi S.1 33).toInt ≤ (fi T.1 33).toInt ∧ (fi T.1 31).toInt = (fi S.1 31).toInt ∧ 0 ≤ x.toInt ∧ x.toInt ≤ 216) (fun _ x => (216 - x.toInt).toNat) ?_ _ _ ⟨hk4, hs4, by rw [e33]; exact Int.le_refl _, by rw [e31], by decide, by decide⟩
  rintro kk T x ⟨hT, hsT, hm, hd, x0, x1⟩ hk
  unfold w_X8_grow_F54 w_X8_grow_B130 w_X8_grow_B124
  obtain ⟨t1, t2, t3⟩ := hsT
  have fin : post 1 (ksi T 31 (fi T.1 31 + 1)) := by
    have e3 : fi (ksi T 31 (fi T.1 31 + 1)).1 33 = fi T.1 33 := si_ne (by decide)
    have e1 : fi (ksi T 31 (fi T.1 31 + 1)).1 31 = fi T.1 31 + 1 := si_at _ _ _
    have e6 : fi (ksi T 31 (fi T.1 31 + 1)).1 26 = fi T.1 26 := si_ne (by decide)
    refine k _ _ (KF_si (by decide) hT) ⟨by rw [e3]; exact t1, ?_, by rw [e6]; exact t3⟩ (by rw [e3]; exact hm)
    rw [e1, inc1 (by omega)]
    omega
  refine ⟨fun _ => fin, fun gx => ⟨fun _ => fin, fun _ => ⟨by omega, ?_⟩⟩⟩
  refine r_2_why cy tE T 4 _ _ _ _ (by decide) (HQ_kf hH hT) (fun r6 U hU => ?_)
  have hU2 : KQs S U := KF_tr hT (KF_wk hU (by decide))
  have hsU : SQ U := SQ_kf ⟨t1, t2, t3⟩ hU (by decide)
  have u33 : fi U.1 33 = fi T.1 33 := hU.1.1 33 (by decide)
  have u31 : fi U.1 31 = fi T.1 31 := hU.1.1 31 (by decide)
  refine ⟨fun _ => hk _ _ ⟨hU2, hsU, by rw [u33]; exact hm, by rw [u31]; exact hd, by rw [inc1 (by omega)]; omega, by rw [inc1 (by omega)]; omega⟩ (by rw [inc1 (by omega)]; omega), fun _ => ?_⟩
  refine r_9_packed _ _ _ _ _ _ _ (by decide) (fun r8 => ⟨by omega, ?_⟩)
  refine r_8_meet cy tE U _ _ _ _ hsU.1 (fun V hV hc => ?_)
  have v31 : fi V.1 31 = fi U.1 31 := hV.1.1 31 (by decide)
  have v26 : fi V.1 26 = fi U.1 26 := hV.1.1 26 (by decide)
  obtain ⟨u1, u2, u3⟩ := hsU
  refine hk _ _ ⟨KF_tr hU2 (KF_wk hV (by decide)), ⟨by omega, by rw [v31]; exact u2, by rw [v26]; exact u3⟩, by rw [u33] at hc; omega, by rw [v31, u31]; exact hd, by rw [inc1 (by omega)]; omega, by rw [inc1 (by omega)]; omega⟩ (by rw [inc1 (by omega)]; omega)
