set_option maxRecDepth 100000 in
theorem cd_all : ∀ n, n < 768 → doI (nI n) = nI n / 16 - nI n / 16 / 4 * 4 ∧ otI (nI n) = nI n / 4 - nI n / 4 / 4 * 4 ∧ nI n &&& 3 = nI n - nI n / 4 * 4 ∧ (0 ≤ (nI n / 16 - nI n / 16 / 4 * 4).toInt ∧ (nI n / 16 - nI n / 16 / 4 * 4).toInt ≤ 3) ∧ (0 ≤ (nI n / 4 - nI n / 4 / 4 * 4).toInt ∧ (nI n / 4 - nI n / 4 / 4 * 4).toInt ≤ 3) ∧ (0 ≤ (nI n - nI n / 4 * 4).toInt ∧ (nI n - nI n / 4 * 4).toInt ≤ 3) := by decide +kernel
theorem cd_n {c : Int32} {b : Int} (h : 0 ≤ c.toInt ∧ c.toInt ≤ b) : nI c.toInt.toNat = c := by
  apply i_eq
  have h2 := i_rng c
  rw [nI_toInt (Nat.lt_of_le_of_lt (show c.toInt.toNat ≤ 2147483647 by omega) (by decide))]
  omega
theorem cd_c {c : Int32} (h : 0 ≤ c.toInt ∧ c.toInt ≤ 767) : doI c = c / 16 - c / 16 / 4 * 4 ∧ otI c = c / 4 - c / 4 / 4 * 4 ∧ c &&& 3 = c - c / 4 * 4 ∧ (0 ≤ (c / 16 - c / 16 / 4 * 4).toInt ∧ (c / 16 - c / 16 / 4 * 4).toInt ≤ 3) ∧ (0 ≤ (c / 4 - c / 4 / 4 * 4).toInt ∧ (c / 4 - c / 4 / 4 * 4).toInt ≤ 3) ∧ (0 ≤ (c - c / 4 * 4).toInt ∧ (c - c / 4 * 4).toInt ≤ 3) := by
  have e := cd_all c.toInt.toNat (by omega)
  rw [cd_n h] at e
  exact e
def pdF (z r : Int32) : Nat → Int32
  | 0 => z
  | j + 1 => ((10 : Int32) * pdF z r j) + bcI r (nI j)
set_option maxRecDepth 100000 in
theorem nm_all : ∀ n, n < 36 → (0 ≤ (nI n / 6).toInt ∧ (nI n / 6).toInt ≤ 5) ∧ (0 ≤ (nI n - nI n / 6 * 6).toInt ∧ (nI n - nI n / 6 * 6).toInt ≤ 5) ∧ pdF (pdF 0 (nI n / 6) 3) (nI n - nI n / 6 * 6) 3 = ((1000 : Int32) * dgI (nI n / 6)) + dgI (nI n - nI n / 6 * 6) := by decide +kernel
theorem nm_c {m : Int32} (h : 0 ≤ m.toInt ∧ m.toInt ≤ 35) : (0 ≤ (m / 6).toInt ∧ (m / 6).toInt ≤ 5) ∧ (0 ≤ (m - m / 6 * 6).toInt ∧ (m - m / 6 * 6).toInt ≤ 5) ∧ pdF (pdF 0 (m / 6) 3) (m - m / 6 * 6) 3 = ((1000 : Int32) * dgI (m / 6)) + dgI (m - m / 6 * 6) := by
  have e := nm_all m.toInt.toNat (by omega)
  rw [cd_n h] at e
  exact e
/-- the reference's renamings are the class's -/
def RN (M : GS) : Prop := ∀ i, i < 18 → ar M 31 i = becI i
theorem q_renamedX (S : GS) (r0 v : Int32) (post : Int32 → GS → Prop) (hn : RN S) (h1 : 0 ≤ r0.toInt ∧ r0.toInt ≤ 5) (h2 : 0 ≤ v.toInt ∧ v.toInt ≤ 3) (k : post (bcI r0 v) S) : w_X12_renamed S r0 v post := by
  unfold bcI at k
  unfold w_X12_renamed w_X12_renamed_B19
  have e := ma_3 (p := r0) (q := v) (by omega) (by omega)
  refine ⟨fun h => ⟨by omega, ?_⟩, fun h => ?_⟩
  · rw [if_pos (by omega)] at k
    rw [hn _ (by rw [tnc]; omega)]
    exact k
  · rw [if_neg (by omega)] at k
    exact k
theorem q_renamedCodeX (S : GS) (m c : Int32) (post : Int32 → GS → Prop) (hn : RN S) (h1 : 0 ≤ m.toInt ∧ m.toInt ≤ 35) (h2 : 0 ≤ c.toInt ∧ c.toInt ≤ 767) (k : post (rcI (m / 6) (m - m / 6 * 6) c) S) : w_X12_renamedCode S m c post := by
  obtain ⟨e1, e2, e3, b1, b2, b3⟩ := cd_c h2
  obtain ⟨n1, n2, -⟩ := nm_c h1
  unfold rcI at k
  rw [e1, e2, e3] at k
  unfold w_X12_renamedCode
  exact q_renamedX S _ _ _ hn n1 b1 (q_renamedX S _ _ _ hn n1 b2 (q_renamedX S _ _ _ hn n2 b3 k))
set_option maxHeartbeats 400000 in
theorem q_endF (S : GS) (r m : Int32) (post : Int32 → GS → Prop) (hK : KInv S) (hn : RN S) (hr : 0 ≤ r.toInt ∧ r.toInt ≤ 5) (h0 : (ar S 38 r.toNatClampNeg).toInt ≠ 0) (hm : 0 ≤ m.toInt ∧ m.toInt ≤ 35) (k : post (endF (ar S 40) (fun q => rcI (m / 6) (m - m / 6 * 6) (ar S 37 (12 * r.toNatClampNeg + q))) (ar S 38 r.toNatClampNeg).toInt (fi S 25).toInt.toNat 0 0) S) : w_X12_endsAt S r m post := by
  unfold w_X12_endsAt
  have h25 := hK.2.2.2.2.2.2.2.2.2.2
  have h38 := hK.2.2.2.2.2.2.2.1 r.toNatClampNeg (by rw [tnc]; omega)
  generalize eR : endF (ar S 40) (fun q => rcI (m / 6) (m - m / 6 * 6) (ar S 37 (12 * r.toNatClampNeg + q))) (ar S 38 r.toNatClampNeg).toInt (fi S 25).toInt.toNat 0 0 = R at k
  refine lr5 (fun (T : GS) (r' m' f z : Int32) => T = S ∧ r' = r ∧ m' = m ∧ (0 ≤ f.toInt ∧ f.toInt < (ar S 38 r.toNatClampNeg).toInt) ∧ (0 ≤ z.toInt ∧ z.toInt ≤ (fi S 25).toInt) ∧ endF (ar S 40) (fun q => rcI (m / 6) (m - m / 6 * 6) (ar S 37 (12 * r.toNatClampNeg + q))) (ar S 38 r.toNatClampNeg).toInt ((fi S 25).toInt.toNat - z.toInt.toNat) z.toInt.toNat f.toInt.toNat = R) (fun _ _ _ _ z => ((fi S 25).toInt - z.toInt).toNat) ?_ _ _ _ _ _ ⟨rfl, rfl, rfl, by rw [li_0]; omega, by rw [li_0]; omega, by rw [li_0]; exact eR⟩
  rintro kk T r' m' f z ⟨rfl, rfl, rfl, hf, hz, hR⟩ hk
  unfold w_X12_endsAt_F5 w_X12_endsAt_B65 w_X12_endsAt_B59
  have e12 := ma_12 (p := r') (q := f) (by omega) (by omega)
  have eI : ((12 : Int32) * r' + f).toNatClampNeg = 12 * r'.toNatClampNeg + f.toInt.toNat := by
    rw [tnc, e12, tnc]; omega
  have h37 := hK.2.2.2.2.2.2.2.2.1 ((12 : Int32) * r' + f).toNatClampNeg (by rw [tnc, e12]; omega)
  refine ⟨fun g => ?_, fun g => ⟨by omega, by omega, ?_⟩⟩
  · have e2 : (fi T 25).toInt.toNat - z.toInt.toNat = 0 := by omega
    rw [e2] at hR
    unfold endF at hR
    rw [hR]; exact k
  have e2 : (fi T 25).toInt.toNat - z.toInt.toNat = ((fi T 25).toInt.toNat - (z.toInt.toNat + 1)) + 1 := by omega
  rw [e2] at hR
  unfold endF at hR
  have ez := inc1 (x := z) (by omega)
  have ef := inc1 (x := f) (by omega)
  have ez2 : (z + 1).toInt.toNat = z.toInt.toNat + 1 := by rw [ez]; omega
  have ef2 : (f + 1).toInt.toNat = f.toInt.toNat + 1 := by rw [ef]; omega
  refine q_renamedCodeX T _ _ _ hn hm h37 ⟨fun g3 => ⟨by omega, fun g4 => ?_, fun g4 => ?_⟩, fun g3 => ?_⟩
  · rw [tnc z, eI] at g3
    rw [if_pos (i_eq g3), if_neg (by rw [ef] at g4; omega)] at hR
    exact hk _ _ _ _ _ ⟨rfl, rfl, rfl, by rw [ef] at g4 ⊢; omega, by rw [ez]; omega, by rw [ez2, ef2]; exact hR⟩ (by rw [ez]; omega)
  · rw [tnc z, eI] at g3
    rw [if_pos (i_eq g3), if_pos (by rw [ef] at g4; omega)] at hR
    rw [cd_n (b := 200) (by omega)] at hR
    rw [hR]; exact k
  · rw [tnc z, eI] at g3
    rw [if_neg (fun h => g3 (congrArg Int32.toInt h))] at hR
    exact hk _ _ _ _ _ ⟨rfl, rfl, rfl, hf, by rw [ez]; omega, by rw [ez2]; exact hR⟩ (by rw [ez]; omega)
def eM (M : GS) (r : Nat) (i : Nat) : Int32 := endF (ar M 40) (fun q => rcI (nI i / 6) (nI i - nI i / 6 * 6) (ar M 37 (12 * r + q))) (ar M 38 r).toInt (fi M 25).toInt.toNat 0 0
set_option maxHeartbeats 800000 in
theorem q_throughX (S : GS) (r x : Int32) (post : Int32 → GS → Prop) (hK : KInv S) (hn : RN S) (k0 : ¬ ((0 ≤ r.toInt ∧ r.toInt ≤ 5) ∧ (ar S 38 r.toNatClampNeg).toInt ≠ 0 ∧ (0 ≤ x.toInt ∧ x.toInt ≤ 1)) → post (-1) S) (k1 : ((0 ≤ r.toInt ∧ r.toInt ≤ 5) ∧ (ar S 38 r.toNatClampNeg).toInt ≠ 0 ∧ (0 ≤ x.toInt ∧ x.toInt ≤ 1)) → post (thA (eM S r.toNatClampNeg) x) S) : w_X12_through S r x post := by
  unfold w_X12_through w_X12_through_B25
  refine q_isRow _ _ _ (fun r1 _ hb1 => ⟨fun _ => k0 (by omega), fun g1 => ⟨by omega, fun g2 => k0 (by omega), fun g2 => ?_⟩⟩)
  refine q_isIn _ _ _ _ _ (fun r2 _ hb2 => ⟨fun g3 => ?_, fun _ => k0 (by rw [li_0, li_1] at hb2; omega)⟩)
  rw [li_0, li_1] at hb2
  have k2 := k1 (by omega)
  have h25 := hK.2.2.2.2.2.2.2.2.2.2
  have hE : ∀ i, (eM S r.toNatClampNeg i).toInt = -1 ∨ (0 ≤ (eM S r.toNatClampNeg i).toInt ∧ (eM S r.toNatClampNeg i).toInt ≤ 199) := fun i => endF_r _ _ _ (by omega)
  have hTr := thF_r hE
  refine lr6 (fun (T : GS) (r' x' b e m : Int32) => T = S ∧ r' = r ∧ x' = x ∧ (0 ≤ m.toInt ∧ m.toInt ≤ 36) ∧ ((thF (eM S r.toNatClampNeg) m.toInt.toNat).1.toInt = -1 → b.toInt = -1) ∧ ((thF (eM S r.toNatClampNeg) m.toInt.toNat).1.toInt ≠ -1 → b = (thF (eM S r.toNatClampNeg) m.toInt.toNat).2 ∧ e = (thF (eM S r.toNatClampNeg) m.toInt.toNat).1)) (fun _ _ _ _ _ m => (36 - m.toInt).toNat) ?_ _ _ _ _ _ _ ⟨rfl, rfl, rfl, by decide, fun _ => by decide, fun h => absurd (show ((-1 : Int32)).toInt = -1 by decide) h⟩
  rintro kk T r' x' b e m ⟨rfl, rfl, rfl, hm6, hb1', hb2'⟩ hk
  unfold w_X12_through_F35
  refine ⟨fun g => ?_, fun g => ?_⟩
  · have e36 : m.toInt.toNat = 36 := by omega
    rw [e36] at hb1' hb2'
    have hT36 := hTr 36 (by omega)
    unfold thA at k2
    unfold w_X12_through_B85 w_X12_through_B94 w_X12_through_B105
    by_cases hq : (thF (eM T r'.toNatClampNeg) 36).1.toInt = -1
    · have hb := hb1' hq
      rw [if_pos hq] at k2
      exact ⟨fun _ => ⟨fun g5 => absurd hb g5, fun _ => k2⟩, fun g5 => absurd hb g5⟩
    · obtain ⟨eb, ee⟩ := hb2' hq
      rw [if_neg hq, ← eb, ← ee] at k2
      have hbb : 0 ≤ b.toInt ∧ b.toInt ≤ 35 := by rw [eb]; omega
      obtain ⟨n1, n2, n3⟩ := nm_c hbb
      refine ⟨fun g5 => by exfalso; omega, fun g5 => ⟨fun g6 => ?_, fun g6 => ⟨fun _ => ?_, fun g7 => absurd g7 g5⟩⟩⟩
      · rw [if_neg g6, ← n3] at k2
        refine lr4 (fun (U : GS) (b' v j : Int32) => U = T ∧ b' = b ∧ (0 ≤ j.toInt ∧ j.toInt ≤ 3) ∧ v = pdF 0 (b / 6) j.toInt.toNat) (fun _ _ _ j => (3 - j.toInt).toNat) ?_ _ _ _ _ ⟨rfl, rfl, by decide, rfl⟩
        rintro kk2 U b' v j ⟨rfl, rfl, hj, hv⟩ hk2
        unfold w_X12_through_F112 w_X12_through_B142
        refine ⟨fun g7 => ?_, fun g7 => q_renamedX U _ _ _ hn n1 (by omega) ?_⟩
        · have e3 : j.toInt.toNat = 3 := by omega
          rw [e3] at hv
          rw [← hv] at k2
          refine lr4 (fun (V : GS) (b2 v2 j2 : Int32) => V = U ∧ b2 = b' ∧ (0 ≤ j2.toInt ∧ j2.toInt ≤ 3) ∧ v2 = pdF v (b' - b' / 6 * 6) j2.toInt.toNat) (fun _ _ _ j => (3 - j.toInt).toNat) ?_ _ _ _ _ ⟨rfl, rfl, by decide, rfl⟩
          rintro kk3 V b2 v2 j2 ⟨rfl, rfl, hj2, hv2⟩ hk3
          unfold w_X12_through_F145 w_X12_through_B175
          refine ⟨fun g8 => ?_, fun g8 => q_renamedX V _ _ _ hn n2 (by omega) ?_⟩
          · have e4 : j2.toInt.toNat = 3 := by omega
            rw [e4] at hv2
            rw [hv2]; exact k2
          · have ej := inc1 (x := j2) (by omega)
            have ej2 : (j2 + 1).toInt.toNat = j2.toInt.toNat + 1 := by rw [ej]; omega
            refine hk3 _ _ _ _ ⟨rfl, rfl, by rw [ej]; omega, ?_⟩ (by rw [ej]; omega)
            rw [ej2]
            unfold pdF
            rw [cd_n (c := j2) (b := 3) (by omega), ← hv2]
        · have ej := inc1 (x := j) (by omega)
          have ej2 : (j + 1).toInt.toNat = j.toInt.toNat + 1 := by rw [ej]; omega
          refine hk2 _ _ _ _ ⟨rfl, rfl, by rw [ej]; omega, ?_⟩ (by rw [ej]; omega)
          rw [ej2]
          unfold pdF
          rw [cd_n (c := j) (b := 3) (by omega), ← hv]
      · rw [if_pos g6] at k2
        exact k2
  · unfold w_X12_through_B79 w_X12_through_B72 w_X12_through_B79
    have em := inc1 (x := m) (by omega)
    have em2 : (m + 1).toInt.toNat = m.toInt.toNat + 1 := by rw [em]; omega
    have eN := cd_n (c := m) (b := 36) hm6
    have hTm := hTr m.toInt.toNat (by omega)
    have eE : eM T r'.toNatClampNeg m.toInt.toNat = endF (ar T 40) (fun q => rcI (m / 6) (m - m / 6 * 6) (ar T 37 (12 * r'.toNatClampNeg + q))) (ar T 38 r'.toNatClampNeg).toInt (fi T 25).toInt.toNat 0 0 := by
      unfold eM
      rw [eN]
    have go : ∀ b2 e2, ((thF (eM T r'.toNatClampNeg) (m.toInt.toNat + 1)).1.toInt = -1 → b2.toInt = -1) → ((thF (eM T r'.toNatClampNeg) (m.toInt.toNat + 1)).1.toInt ≠ -1 → b2 = (thF (eM T r'.toNatClampNeg) (m.toInt.toNat + 1)).2 ∧ e2 = (thF (eM T r'.toNatClampNeg) (m.toInt.toNat + 1)).1) → kk T r' x' b2 e2 (m + 1) := fun b2 e2 h1 h2 => hk _ _ _ _ _ _ ⟨rfl, rfl, rfl, by rw [em]; omega, by rw [em2]; exact h1, by rw [em2]; exact h2⟩ (by rw [em]; omega)
    refine q_endF T _ _ _ hK hn (by omega) g2 (by omega) ?_
    rw [← eE]
    have hEm := hE m.toInt.toNat
    have old : (thF (eM T r'.toNatClampNeg) (m.toInt.toNat + 1)) = thF (eM T r'.toNatClampNeg) m.toInt.toNat → kk T r' x' b e (m + 1) := fun h => go b e (by rw [h]; exact hb1') (by rw [h]; exact hb2')
    have new : (thF (eM T r'.toNatClampNeg) (m.toInt.toNat + 1)) = (eM T r'.toNatClampNeg m.toInt.toNat, m) → (eM T r'.toNatClampNeg m.toInt.toNat).toInt ≠ -1 → kk T r' x' m (eM T r'.toNatClampNeg m.toInt.toNat) (m + 1) := fun h h2 => go _ _ (by rw [h]; intro h3; exact absurd h3 h2) (by rw [h]; intro _; exact ⟨rfl, rfl⟩)
    have u1 : (eM T r'.toNatClampNeg m.toInt.toNat).toInt = -1 → (thF (eM T r'.toNatClampNeg) (m.toInt.toNat + 1)) = thF (eM T r'.toNatClampNeg) m.toInt.toNat := by
      intro h
      show (if _ then _ else _) = _
      rw [if_pos h]
    have u2 : (eM T r'.toNatClampNeg m.toInt.toNat).toInt ≠ -1 → ((thF (eM T r'.toNatClampNeg) m.toInt.toNat).1.toInt = -1 ∨ (eM T r'.toNatClampNeg m.toInt.toNat).toInt < (thF (eM T r'.toNatClampNeg) m.toInt.toNat).1.toInt) → (thF (eM T r'.toNatClampNeg) (m.toInt.toNat + 1)) = (eM T r'.toNatClampNeg m.toInt.toNat, m) := by
      intro h h2
      show (if _ then _ else _) = _
      rw [if_neg h, if_pos h2, eN]
    have u3 : ¬ ((thF (eM T r'.toNatClampNeg) m.toInt.toNat).1.toInt = -1 ∨ (eM T r'.toNatClampNeg m.toInt.toNat).toInt < (thF (eM T r'.toNatClampNeg) m.toInt.toNat).1.toInt) → (thF (eM T r'.toNatClampNeg) (m.toInt.toNat + 1)) = thF (eM T r'.toNatClampNeg) m.toInt.toNat := by
      intro h
      show (if _ then _ else _) = _
      by_cases h1 : (eM T r'.toNatClampNeg m.toInt.toNat).toInt = -1
      · rw [if_pos h1]
      · rw [if_neg h1, if_neg h]
    refine ⟨fun g4 => old (u1 g4), fun g4 => ⟨fun g5 => ?_, fun g5 => ⟨fun g6 => ?_, fun g6 => ?_⟩⟩⟩
    · refine new (u2 g4 (Or.inl ?_)) g4
      by_cases hq : (thF (eM T r'.toNatClampNeg) m.toInt.toNat).1.toInt = -1
      · exact hq
      · exfalso
        obtain ⟨eb, -⟩ := hb2' hq
        rw [eb] at g5
        omega
    · refine new (u2 g4 (Or.inr ?_)) g4
      by_cases hq : (thF (eM T r'.toNatClampNeg) m.toInt.toNat).1.toInt = -1
      · exact absurd (hb1' hq) g5
      · rw [← (hb2' hq).2]; exact g6
    · refine old (u3 ?_)
      by_cases hq : (thF (eM T r'.toNatClampNeg) m.toInt.toNat).1.toInt = -1
      · exact absurd (hb1' hq) g5
      · have he := (hb2' hq).2
        rw [he] at g6
        omega
