theorem JI_row {cy : Nat → ClassId} {tE : Nat} {S S' : KS} {M M' : GS} (h : JI cy tE S M) (hF : KF (List.range 15) (List.range 13) [] S S') (hM : Fr [25] [] [37, 38, 39, 40] [] M M') (e0 : fi S'.1 0 = fi S.1 0) (c38 : ∀ r, r < 6 → fi S'.1 (1 + 2 * r) = ar M' 38 r) (c39 : ∀ r, r < 6 → fi S'.1 (2 + 2 * r) = ar M' 39 r) (c25 : fi S'.1 13 = fi M' 25) (h38 : ∀ r, r < 6 → 0 ≤ (ar M' 38 r).toInt ∧ (ar M' 38 r).toInt ≤ 12) (h37 : ∀ i, i < 72 → 0 ≤ (ar M' 37 i).toInt ∧ (ar M' 37 i).toInt ≤ 767) (h25 : 0 ≤ (fi M' 25).toInt ∧ (fi M' 25).toInt ≤ 200) (hT : JT S' M') (hE : JE cy tE S' M') (a1 : ar S'.1 1 = ar S.1 1) : JI cy tE S' M' ∧ tp S' ≤ tp S + 20 := by
  obtain ⟨hK, ⟨m1, m2, m3⟩, t0, -⟩ := id h
  have e1 : fi M' 1 = fi M 1 := hM.1 1 (by decide)
  refine ⟨⟨KI_kf hK hF (by decide) (SQ_kf hK.2.2.2.1 hF (by decide)) (by rw [e0]; exact hK.2.2.1), ⟨KInv_rw m1 (hM.wk (by decide)) (by rw [e1]; exact m1.1) h38 h37 h25, SInv_g m2 hM (by decide) (by decide), BR.fr hM (by decide) (by decide) m3⟩, by rw [e0, e1]; exact t0, c38, c39, c25, hT, hE, JS_kf h.s a1 (hM.2.1 0 (by decide))⟩, by unfold tp; rw [e0]; omega⟩
set_option maxHeartbeats 400000 in
theorem j_put {cy : Nat → ClassId} {tE : Nat} {S : KS} {M : GS} (hJ : JI cy tE S M) (r c : Int32) : w_X11_put cy tE S r c (fun r1 S' => w_X12_put M r c (fun r2 M' => JP cy tE S r1 S' r2 M')) := by
  obtain ⟨hK, ⟨m1, m2, m3⟩, t0, h1, h2, h3, ⟨h4, h5, h6⟩, -⟩ := id hJ
  have b38 := m1.2.2.2.2.2.2.2.1
  have b37 := m1.2.2.2.2.2.2.2.2.1
  have b25 := m1.2.2.2.2.2.2.2.2.2.2
  refine r_11_put cy tE S r c _ (fun g => q_put M r c _ m1 (fun _ => ⟨rfl, hJ, by omega⟩) (fun g2 => ?_)) (fun g => q_put M r c _ m1 (fun g2 => ?_) (fun _ => ?_))
  · exfalso
    have e := h1 r.toNatClampNeg (by rw [tnc]; omega)
    have b := b38 r.toNatClampNeg (by rw [tnc]; omega)
    rw [e] at g
    exact g ⟨g2.1, g2.2.1, b.1, g2.2.2⟩
  · exfalso
    have e := h1 r.toNatClampNeg (by rw [tnc]; omega)
    rw [e] at g
    exact g2 ⟨g.1, g.2.1, by omega⟩
  · obtain ⟨gr, gc, gn⟩ := g
    have hn : r.toNatClampNeg < 6 := by rw [tnc]; omega
    have e := h1 r.toNatClampNeg hn
    rw [e] at gn ⊢
    have er : r.toInt.toNat = r.toNatClampNeg := (tnc r).symm
    rw [er]
    generalize r.toNatClampNeg = n at *
    have ex := inc1 (x := ar M 38 n) (by omega)
    generalize ar M 38 n + 1 = x at *
    have hF : KF (List.range 15) (List.range 13) [] S (ksi (ksu S (6 + n) (ar M 38 n).toNatClampNeg c) (1 + 2 * n) x) := KF_si (List.mem_range.mpr (by omega)) (KF_su (List.mem_range.mpr (by omega)) (KF_rf S)) ⟨by omega, by omega⟩
    have hM : Fr [25] [] [37, 38, 39, 40] [] M (su (su M 37 (12 * n + (ar M 38 n).toInt.toNat) c) 38 n x) := Fr.su (by decide) (Fr.su (by decide) Fr.rf)
    have a38 : ar (su (su M 37 (12 * n + (ar M 38 n).toInt.toNat) c) 38 n x) 38 = upd (ar M 38) n x := by
      have q1 : ar (su (su M 37 (12 * n + (ar M 38 n).toInt.toNat) c) 38 n x) 38 = upd (ar (su M 37 (12 * n + (ar M 38 n).toInt.toNat) c) 38) n x := su_at _ _ _ _
      rw [q1]
      have q2 : ar (su M 37 (12 * n + (ar M 38 n).toInt.toNat) c) 38 = ar M 38 := su_ne (by decide)
      rw [q2]
    have a37 : ar (su (su M 37 (12 * n + (ar M 38 n).toInt.toNat) c) 38 n x) 37 = upd (ar M 37) (12 * n + (ar M 38 n).toInt.toNat) c := by
      have q1 : ar (su (su M 37 (12 * n + (ar M 38 n).toInt.toNat) c) 38 n x) 37 = ar (su M 37 (12 * n + (ar M 38 n).toInt.toNat) c) 37 := su_ne (by decide)
      rw [q1]
      exact su_at _ _ _ _
    have a39 : ar (su (su M 37 (12 * n + (ar M 38 n).toInt.toNat) c) 38 n x) 39 = ar M 39 := (su_ne (by decide)).trans (su_ne (by decide))
    refine ⟨rfl, JI_row hJ hF hM ?_ ?_ ?_ ?_ ?_ ?_ b25 ⟨fun k hk i hi => ?_, fun i hi => ?_, h6⟩ (JE_kf hJ.e hF (su_ne (by omega)) hM (by decide) (by decide) (by decide) (fun _ _ q => CJx_r q hF (su_ne (by omega)) (su_ne (by omega)))) (su_ne (by omega))⟩
    · exact si_ne (by omega)
    · intro k hk
      rw [a38]
      by_cases ek : k = n
      · rw [ek, upd_at]; exact si_at _ _ _
      · rw [upd_ne ek]
        exact (si_ne (by omega)).trans (h1 k hk)
    · intro k hk
      rw [a39]
      exact (si_ne (by omega)).trans (h2 k hk)
    · exact (si_ne (by omega)).trans h3
    · intro k hk
      rw [a38]
      by_cases ek : k = n
      · rw [ek, upd_at]; omega
      · rw [upd_ne ek]; exact b38 k hk
    · intro k hk
      rw [a37]
      by_cases ek : k = 12 * n + (ar M 38 n).toInt.toNat
      · rw [ek, upd_at]; exact gc
      · rw [upd_ne ek]; exact b37 k hk
    · rw [a38] at hi
      rw [a37]
      have bk := b38 k hk
      by_cases ek : k = n
      · rw [ek] at hi ⊢
        rw [upd_at] at hi
        have q1 : ar (ksi (ksu S (6 + n) (ar M 38 n).toNatClampNeg c) (1 + 2 * n) x).1 (6 + n) = upd (ar S.1 (6 + n)) (ar M 38 n).toNatClampNeg c := su_at _ _ _ _
        rw [q1]
        by_cases ei : i = (ar M 38 n).toInt.toNat
        · rw [ei, upd_at, ← tnc, upd_at]
        · rw [upd_ne (by rw [tnc]; exact ei), upd_ne (by omega)]
          exact h4 n hn i (by omega)
      · rw [upd_ne ek] at hi
        have q1 : ar (ksi (ksu S (6 + n) (ar M 38 n).toNatClampNeg c) (1 + 2 * n) x).1 (6 + k) = ar S.1 (6 + k) := su_ne (by omega)
        rw [q1, upd_ne (by omega)]
        exact h4 k hk i hi
    · have q1 : ar (ksi (ksu S (6 + n) (ar M 38 n).toNatClampNeg c) (1 + 2 * n) x).1 12 = ar S.1 12 := su_ne (by omega)
      rw [q1]
      exact h5 i hi
set_option maxHeartbeats 400000 in
theorem j_clear {cy : Nat → ClassId} {tE : Nat} {S : KS} {M : GS} (hJ : JI cy tE S M) (r : Int32) : w_X11_clear cy tE S r (fun r1 S' => w_X12_clear M r (fun r2 M' => JP cy tE S r1 S' r2 M')) := by
  obtain ⟨hK, ⟨m1, m2, m3⟩, t0, h1, h2, h3, ⟨h4, h5, h6⟩, -⟩ := id hJ
  have b38 := m1.2.2.2.2.2.2.2.1
  have b37 := m1.2.2.2.2.2.2.2.2.1
  have b25 := m1.2.2.2.2.2.2.2.2.2.2
  refine r_11_clear cy tE S r _ (fun g => q_clear M r _ (fun _ => ⟨rfl, hJ, by omega⟩) (fun g2 => absurd g2 g)) (fun g => q_clear M r _ (fun g2 => absurd g g2) (fun _ => ?_))
  have hn : r.toNatClampNeg < 6 := by rw [tnc]; omega
  generalize r.toNatClampNeg = n at *
  have hF : KF (List.range 15) (List.range 13) [] S (ksi (ksi S (1 + 2 * n) 0) (2 + 2 * n) 0) := KF_si (List.mem_range.mpr (by omega)) (KF_si (List.mem_range.mpr (by omega)) (KF_rf S) ⟨by omega, by omega⟩) ⟨by omega, by omega⟩
  have hM : Fr [25] [] [37, 38, 39, 40] [] M (su (su M 38 n 0) 39 n 0) := Fr.su (by decide) (Fr.su (by decide) Fr.rf)
  have a38 : ar (su (su M 38 n 0) 39 n 0) 38 = upd (ar M 38) n 0 := by
    have q1 : ar (su (su M 38 n 0) 39 n 0) 38 = ar (su M 38 n 0) 38 := su_ne (by decide)
    rw [q1]
    exact su_at _ _ _ _
  have a39 : ar (su (su M 38 n 0) 39 n 0) 39 = upd (ar M 39) n 0 := by
    have q1 : ar (su (su M 38 n 0) 39 n 0) 39 = upd (ar (su M 38 n 0) 39) n 0 := su_at _ _ _ _
    rw [q1]
    have q2 : ar (su M 38 n 0) 39 = ar M 39 := su_ne (by decide)
    rw [q2]
  have a37 : ar (su (su M 38 n 0) 39 n 0) 37 = ar M 37 := (su_ne (by decide)).trans (su_ne (by decide))
  refine ⟨rfl, JI_row hJ hF hM ?_ ?_ ?_ ?_ ?_ (by rw [a37]; exact b37) b25 ⟨fun k hk i hi => ?_, fun i hi => h5 i hi, h6⟩ (JE_kf hJ.e hF (rfl) hM (by decide) (by decide) (by decide) (fun _ _ q => CJx_r q hF (rfl) (rfl))) (rfl)⟩
  · exact (si_ne (by omega)).trans (si_ne (by omega))
  · intro k hk
    rw [a38]
    by_cases ek : k = n
    · rw [ek, upd_at]; exact (si_ne (by omega)).trans (si_at _ _ _)
    · rw [upd_ne ek]
      exact ((si_ne (by omega)).trans (si_ne (by omega))).trans (h1 k hk)
  · intro k hk
    rw [a39]
    by_cases ek : k = n
    · rw [ek, upd_at]; exact si_at _ _ _
    · rw [upd_ne ek]
      exact ((si_ne (by omega)).trans (si_ne (by omega))).trans (h2 k hk)
  · exact ((si_ne (by omega)).trans (si_ne (by omega))).trans h3
  · intro k hk
    rw [a38]
    by_cases ek : k = n
    · rw [ek, upd_at]; decide
    · rw [upd_ne ek]; exact b38 k hk
  · rw [a38] at hi
    rw [a37]
    by_cases ek : k = n
    · rw [ek, upd_at, li_0] at hi
      omega
    · rw [upd_ne ek] at hi
      exact h4 k hk i hi
set_option maxHeartbeats 400000 in
theorem j_honest {cy : Nat → ClassId} {tE : Nat} {S : KS} {M : GS} (hJ : JI cy tE S M) (r z : Int32) (hz : z = 0 ∨ z = 1) : w_X11_honest cy tE S r z (fun r1 S' => w_X12_honest M r z (fun r2 M' => JP cy tE S r1 S' r2 M')) := by
  obtain ⟨hK, ⟨m1, m2, m3⟩, t0, h1, h2, h3, ⟨h4, h5, h6⟩, -⟩ := id hJ
  have b38 := m1.2.2.2.2.2.2.2.1
  have b37 := m1.2.2.2.2.2.2.2.2.1
  have b25 := m1.2.2.2.2.2.2.2.2.2.2
  refine r_11_honest cy tE S r z _ hz (fun g => q_honest M r z _ hz (fun _ => ⟨rfl, hJ, by omega⟩) (fun g2 => ?_)) (fun g => q_honest M r z _ hz (fun g2 => ?_) (fun _ => ?_))
  · exfalso
    have e := h2 r.toNatClampNeg (by rw [tnc]; omega)
    rw [e] at g
    exact g g2
  · exfalso
    have e := h2 r.toNatClampNeg (by rw [tnc]; omega)
    rw [e] at g
    exact g2 g
  have hn : r.toNatClampNeg < 6 := by rw [tnc]; omega
  generalize r.toNatClampNeg = n at *
  have hF : KF (List.range 15) (List.range 13) [] S (ksi S (2 + 2 * n) z) := KF_si (List.mem_range.mpr (by omega)) (KF_rf S) ⟨by omega, by omega⟩
  have hM : Fr [25] [] [37, 38, 39, 40] [] M (su M 39 n z) := Fr.su (by decide) Fr.rf
  have a38 : ar (su M 39 n z) 38 = ar M 38 := su_ne (by decide)
  have a39 : ar (su M 39 n z) 39 = upd (ar M 39) n z := su_at _ _ _ _
  have a37 : ar (su M 39 n z) 37 = ar M 37 := su_ne (by decide)
  refine ⟨rfl, JI_row hJ hF hM ?_ ?_ ?_ ?_ (by rw [a38]; exact b38) (by rw [a37]; exact b37) b25 ⟨fun k hk i hi => (by rw [a38] at hi; rw [a37]; exact h4 k hk i hi), fun i hi => h5 i hi, h6⟩ (JE_kf hJ.e hF (rfl) hM (by decide) (by decide) (by decide) (fun _ _ q => CJx_r q hF (rfl) (rfl))) (rfl)⟩
  · exact si_ne (by omega)
  · intro k hk
    rw [a38]
    exact (si_ne (by omega)).trans (h1 k hk)
  · intro k hk
    rw [a39]
    by_cases ek : k = n
    · rw [ek, upd_at]; exact si_at _ _ _
    · rw [upd_ne ek]
      exact (si_ne (by omega)).trans (h2 k hk)
  · exact (si_ne (by omega)).trans h3
set_option maxHeartbeats 400000 in
theorem j_past {cy : Nat → ClassId} {tE : Nat} {S : KS} {M : GS} (hJ : JI cy tE S M) (c : Int32) : w_X11_past cy tE S c (fun r1 S' => w_X12_past M c (fun r2 M' => JP cy tE S r1 S' r2 M')) := by
  obtain ⟨hK, ⟨m1, m2, m3⟩, t0, h1, h2, h3, ⟨h4, h5, h6⟩, -⟩ := id hJ
  have b38 := m1.2.2.2.2.2.2.2.1
  have b37 := m1.2.2.2.2.2.2.2.2.1
  have b25 := m1.2.2.2.2.2.2.2.2.2.2
  have tI : (fi S.1 13).toInt = (fi M 25).toInt := by rw [h3]
  refine r_11_past cy tE S c _ (fun g => q_past M c _ m1 (fun _ => ⟨rfl, hJ, by omega⟩) (fun g2 => by exfalso; omega)) (fun g => q_past M c _ m1 (fun g2 => by exfalso; omega) (fun _ => ?_))
  obtain ⟨gc, gn⟩ := g
  rw [h3] at gn ⊢
  have ex := inc1 (x := fi M 25) (by omega)
  generalize fi M 25 + 1 = x at *
  have hF : KF (List.range 15) (List.range 13) [] S (ksi (ksu S 12 (fi M 25).toNatClampNeg c) 13 x) := KF_si (List.mem_range.mpr (by omega)) (KF_su (List.mem_range.mpr (by omega)) (KF_rf S)) ⟨by omega, by omega⟩
  have hM : Fr [25] [] [37, 38, 39, 40] [] M (si (su M 40 (fi M 25).toNatClampNeg c) 25 x) := Fr.si (by decide) (Fr.su (by decide) Fr.rf)
  have a38 : ar (si (su M 40 (fi M 25).toNatClampNeg c) 25 x) 38 = ar M 38 := su_ne (by decide)
  have a39 : ar (si (su M 40 (fi M 25).toNatClampNeg c) 25 x) 39 = ar M 39 := su_ne (by decide)
  have a37 : ar (si (su M 40 (fi M 25).toNatClampNeg c) 25 x) 37 = ar M 37 := su_ne (by decide)
  have a25 : fi (si (su M 40 (fi M 25).toNatClampNeg c) 25 x) 25 = x := si_at _ _ _
  refine ⟨rfl, JI_row hJ hF hM ?_ ?_ ?_ ?_ (by rw [a38]; exact b38) (by rw [a37]; exact b37) (by rw [a25]; omega) ⟨fun k hk i hi => ?_, fun i hi => ?_, h6⟩ (JE_kf hJ.e hF (su_ne (by decide)) hM (by decide) (by decide) (by decide) (fun _ _ q => CJx_r q hF (su_ne (by decide)) (su_ne (by decide)))) (su_ne (by decide))⟩
  · exact si_ne (by decide)
  · intro k hk
    rw [a38]
    exact (si_ne (by omega)).trans (h1 k hk)
  · intro k hk
    rw [a39]
    exact (si_ne (by omega)).trans (h2 k hk)
  · rw [a25]; exact si_at _ _ _
  · rw [a38] at hi
    rw [a37]
    have q1 : ar (ksi (ksu S 12 (fi M 25).toNatClampNeg c) 13 x).1 (6 + k) = ar S.1 (6 + k) := su_ne (by omega)
    rw [q1]
    exact h4 k hk i hi
  · rw [a25] at hi
    have q1 : ar (ksi (ksu S 12 (fi M 25).toNatClampNeg c) 13 x).1 12 = upd (ar S.1 12) (fi M 25).toNatClampNeg c := su_at _ _ _ _
    have q2 : ar (si (su M 40 (fi M 25).toNatClampNeg c) 25 x) 40 = upd (ar M 40) (fi M 25).toNatClampNeg c := su_at _ _ _ _
    rw [q1, q2]
    by_cases ei : i = (fi M 25).toNatClampNeg
    · rw [ei, upd_at, upd_at]
    · rw [upd_ne ei, upd_ne ei]
      exact h5 i (by rw [tnc] at ei; omega)
