set_option maxHeartbeats 400000 in
theorem r_8_listCodes (cy : Nat → ClassId) (tE : Nat) (S : KS) (post : KS → Prop) (hH : HQ cy S) (k : ∀ S', KF [26] [21] [] S S' → (0 ≤ (fi S'.1 26).toInt ∧ (fi S'.1 26).toInt ≤ 216) → post S') : w_X8_listCodes cy tE S post := by
  unfold w_X8_listCodes
  refine lr2 (fun (T : KS) (x : Int32) => KF [26] [21] [] S T ∧ (0 ≤ (fi T.1 26).toInt ∧ (fi T.1 26).toInt ≤ 216) ∧ 0 ≤ x.toInt ∧ x.toInt ≤ 768) (fun _ x => (768 - x.toInt).toNat) ?_ _ _ ⟨KF_si (by decide) (KF_rf S), by
    have e : fi (ksi S 26 0).1 26 = 0 := si_at _ _ _
    rw [e]; decide, by decide, by decide⟩
  rintro kk T x ⟨hT, hc, x0, x1⟩ hk
  unfold w_X8_listCodes_F7 w_X8_listCodes_B55 w_X8_listCodes_B51 w_X8_listCodes_B117
  have go : x.toInt < 768 → ∀ U, KF [26] [21] [] S U → (0 ≤ (fi U.1 26).toInt ∧ (fi U.1 26).toInt ≤ 216) → kk U (x + 1) := fun g U hU hu => hk _ _ ⟨hU, hu, by rw [inc1 (by omega)]; omega, by rw [inc1 (by omega)]; omega⟩ (by rw [inc1 (by omega)]; omega)
  have b56 : x.toInt < 768 → ∀ y, w_X8_listCodes_B56 cy tE post kk (w_X8_listCodes_B117 cy tE post) T x y := by
    intro g y
    unfold w_X8_listCodes_B56 w_X8_listCodes_B111
    obtain ⟨A, -, -, -, hA⟩ := HQ_kf hH hT
    refine ⟨fun _ => go g _ hT hc, fun _ => ⟨fun _ => go g _ hT hc, fun g2 => r_4_actOf cy tE T A _ _ _ hA (fun r _ => ⟨fun _ => go g _ hT hc, fun q _ => ⟨by omega, go g _ (KF_si (by decide) (KF_su (by decide) hT)) ?_⟩⟩)⟩⟩
    have e : fi (ksi (ksu T 21 (fi T.1 26).toNatClampNeg x) 26 (fi T.1 26 + 1)).1 26 = fi T.1 26 + 1 := si_at _ _ _
    rw [e, inc1 (by omega)]; omega
  exact ⟨fun _ => k _ hT hc, fun g => r_11_otherOf _ _ _ _ _ (fun _ _ => r_11_doerOf _ _ _ _ _ (fun _ _ => ⟨fun _ => b56 g _, fun _ => ⟨fun _ => b56 g _, fun _ => ⟨fun _ => b56 g _, fun _ => b56 g _⟩⟩⟩))⟩
set_option maxHeartbeats 400000 in
theorem r_fill (cy : Nat → ClassId) (tE : Nat) (S : KS) (v : Int32) (post : KS → Prop) (k : ∀ S', KF [] [20] [] S S' → post S') : w_J7_fill_53178 cy tE S v post := by
  unfold w_J7_fill_53178
  refine lr4 (fun (T : KS) (_ x n : Int32) => n = 1024 ∧ KF [] [20] [] S T ∧ 0 ≤ x.toInt ∧ x.toInt ≤ 1024) (fun _ _ x _ => (1024 - x.toInt).toNat) ?_ _ _ _ _ ⟨rfl, KF_rf S, by decide, by decide⟩
  rintro kk T v x n ⟨rfl, hT, x0, x1⟩ hk
  unfold w_J7_fill_53178_F5 w_J7_fill_53178_B20
  rw [li_1024]
  exact ⟨fun _ => k _ hT, fun g => ⟨by omega, hk _ _ _ _ ⟨rfl, KF_su (by decide) hT, by rw [inc1 (by omega)]; omega, by rw [inc1 (by omega)]; omega⟩ (by rw [inc1 (by omega)]; omega)⟩⟩
set_option maxHeartbeats 400000 in
theorem r_8_begin (cy : Nat → ClassId) (tE : Nat) (S : KS) (a b c d : Int32) (post : KS → Prop) (hH : HQ cy S) (hs : SQ S) (k : ∀ S', KQs S S' → SQ S' → post S') : w_X8_begin cy tE S a b c d post := by
  have b53 : w_X8_begin_B53 cy tE post S a b c d := by
    unfold w_X8_begin_B53
    have h0 : KQs S (ksi (ksi (ksi (ksi (ksi S 32 1) 27 a) 28 b) 29 c) 30 d) := KF_si (by decide) (KF_si (by decide) (KF_si (by decide) (KF_si (by decide) (KF_si (by decide) (KF_rf S)))))
    generalize ksi (ksi (ksi (ksi (ksi S 32 1) 27 a) 28 b) 29 c) 30 d = T at h0 ⊢
    refine r_8_listCodes cy tE T _ (HQ_kf hH h0) (fun T2 h2 hc => ?_)
    refine r_fill cy tE T2 _ _ (fun T3 h3 => ?_)
    have c3 : fi T3.1 26 = fi T2.1 26 := h3.1.1 26 (by decide)
    have h4 : KQs S (ksi (ksi (ksi T3 33 0) 31 0) 34 0) := KF_si (by decide) (KF_si (by decide) (KF_si (by decide) (KF_tr h0 (KF_tr (KF_wk h2 (by decide)) (KF_wk h3 (by decide))))))
    have e33 : fi (ksi (ksi (ksi T3 33 0) 31 0) 34 0).1 33 = 0 := (si_ne (by decide)).trans ((si_ne (by decide)).trans (si_at _ _ _))
    have e31 : fi (ksi (ksi (ksi T3 33 0) 31 0) 34 0).1 31 = 0 := (si_ne (by decide)).trans (si_at _ _ _)
    have e26 : fi (ksi (ksi (ksi T3 33 0) 31 0) 34 0).1 26 = fi T2.1 26 := ((si_ne (by decide)).trans ((si_ne (by decide)).trans (si_ne (by decide)))).trans c3
    generalize ksi (ksi (ksi T3 33 0) 31 0) 34 0 = U at h4 e33 e31 e26 ⊢
    refine r_9_packed _ _ _ _ _ _ _ (by decide) (fun v => ?_)
    refine r_8_meet cy tE U _ _ _ _ (by rw [e33]; decide) (fun V hV hm => ?_)
    have v31 : fi V.1 31 = fi U.1 31 := hV.1.1 31 (by decide)
    have v26 : fi V.1 26 = fi U.1 26 := hV.1.1 26 (by decide)
    refine k _ (KF_tr h4 (KF_wk hV (by decide))) ⟨?_, by rw [v31, e31]; decide, by rw [v26, e26]; exact hc⟩
    rw [e33, li_0] at hm; omega
  have b38 : ∀ y, w_X8_begin_B38 cy tE post S a b c d y := fun y => ⟨fun _ => b53, fun _ => ⟨fun _ => b53, fun _ => k _ (KF_rf S) hs⟩⟩
  have b37 : w_X8_begin_B37 cy tE post S a b c d := b38 0
  exact ⟨fun _ => b37, fun _ => ⟨fun _ => b37, fun _ => ⟨fun _ => b37, fun _ => ⟨fun _ => b37, fun _ => b38 1⟩⟩⟩⟩
set_option maxHeartbeats 400000 in
theorem r_8_finish (cy : Nat → ClassId) (tE : Nat) (S : KS) (post : KS → Prop) (hH : HQ cy S) (hs : SQ S) (k : ∀ S', KQs S S' → SQ S' → post S') : w_X8_finish cy tE S post := by
  unfold w_X8_finish
  refine lr3 (fun (T : KS) (_ x : Int32) => KQs S T ∧ SQ T ∧ 0 ≤ x.toInt ∧ x.toInt ≤ 401) (fun _ _ x => (401 - x.toInt).toNat) ?_ _ _ _ ⟨KF_rf S, hs, by decide, by decide⟩
  rintro kk T y x ⟨hT, hsT, x0, x1⟩ hk
  unfold w_X8_finish_F4 w_X8_finish_B26
  exact ⟨fun _ => k _ hT hsT, fun g => ⟨fun _ => k _ hT hsT, fun _ => r_8_grow cy tE T _ (HQ_kf hH hT) hsT (fun r U hU hsU _ => hk _ _ _ ⟨KF_tr hT hU, hsU, by rw [inc1 (by omega)]; omega, by rw [inc1 (by omega)]; omega⟩ (by rw [inc1 (by omega)]; omega))⟩⟩
set_option maxHeartbeats 400000 in
theorem r_8_first (cy : Nat → ClassId) (tE : Nat) (S : KS) (n : Int32) (post : Int32 → KS → Prop) (hH : HQ cy S) (hs : SQ S) (k : ∀ r S', KQs S S' → SQ S' → post r S') : w_X8_first cy tE S n post := by
  have hH0 := hH
  obtain ⟨A, h3, ⟨i2, m2, e2, n2, -, hc2, n0, n10, hel⟩, hC, hA⟩ := hH
  unfold w_X8_first w_X8_first_B21
  refine ⟨fun _ => k _ _ (KF_rf S) hs, fun g => ⟨i2, _, hc2, r_size cy tE S _ i2 m2 n2 (.ref e2) _ hc2 ⟨fun g2 => ⟨i2, _, hc2, ?_⟩, fun _ => k _ _ (KF_rf S) hs⟩⟩⟩
  rcases hel with h | ⟨j2, c2, f2, -, ha2, hnc, hf2⟩
  · omega
  obtain ⟨qc, hqc, hCL⟩ := hf2 n.toInt.toNat (by omega)
  have hCL2 := hCL
  obtain ⟨ic, kd, frs, oo, -, hcc, -⟩ := hCL2
  refine r_getE cy tE S _ i2 j2 c2 e2 m2 n2 n f2 _ hc2 ha2 ⟨g, g2⟩ hnc ⟨qc, hqc, ic, _, hcc, ?_⟩
  refine lr4 (fun (T : KS) (q' : Nat) (l x : Int32) => q' = qc ∧ KQs S T ∧ SQ T ∧ (0 ≤ l.toInt ∧ l.toInt ≤ 400) ∧ 0 ≤ x.toInt ∧ x.toInt ≤ 401) (fun _ _ _ x => (401 - x.toInt).toNat) ?_ _ _ _ _ ⟨rfl, KF_rf S, hs, by decide, by decide, by decide⟩
  rintro kk T q' l x ⟨rfl, hT, hsT, hl, x0, x1⟩ hk
  unfold w_X8_first_F46 w_X8_first_B105
  refine ⟨fun _ => k _ _ hT hsT, fun g3 => ?_⟩
  refine lr4 (fun (U : KS) (q2 : Nat) (l x' : Int32) => q2 = q' ∧ x' = x ∧ KQs S U ∧ SQ U ∧ 0 ≤ l.toInt ∧ l.toInt ≤ 400) (fun _ _ l _ => (400 - l.toInt).toNat) ?_ _ _ _ _ ⟨rfl, rfl, hT, hsT, hl.1, hl.2⟩
  rintro kk2 U q2 l x' ⟨rfl, rfl, hU, hsU, l0, l1⟩ hk2
  unfold w_X8_first_F54 w_X8_first_B90
  have u1 := hsU.1
  refine ⟨fun _ => r_8_grow cy tE U _ (HQ_kf hH0 hU) hsU (fun r V hV hsV _ => ⟨fun _ => hk _ _ _ _ ⟨rfl, KF_tr hU hV, hsV, ⟨l0, l1⟩, by rw [inc1 (by omega)]; omega, by rw [inc1 (by omega)]; omega⟩ (by rw [inc1 (by omega)]; omega), fun _ => k _ _ (KF_tr hU hV) hsV⟩), fun g4 => ?_⟩
  refine r_8_load cy tE U _ _ hsU (fun V hV => ?_)
  have hV2 : KQs S V := KF_tr hU (KF_wk hV (by decide))
  have hsV : SQ V := SQ_kf hsU hV (by decide)
  have eL : V.2.2.2 = S.2.2.2 := by rw [hV2.2.1]
  refine r_2_isNever cy tE V A 4 q2 _ (by decide) (by rw [eL]; exact hCL) (fun r W hW => ?_)
  have hW2 : KQs S W := KF_tr hV2 (KF_wk hW (by decide))
  have hsW : SQ W := SQ_kf hsV hW (by decide)
  exact ⟨fun _ => hk2 _ _ _ _ ⟨rfl, rfl, hW2, hsW, by rw [inc1 (by omega)]; omega, by rw [inc1 (by omega)]; omega⟩ (by rw [inc1 (by omega)]; omega), fun _ => k _ _ hW2 hsW⟩
set_option maxHeartbeats 400000 in
theorem r_8_wealth (cy : Nat → ClassId) (tE : Nat) (S : KS) (x p : Int32) (post : Int32 → KS → Prop) (hs : SQ S) (k : ∀ r S', KF [] stQ [] S S' → post r S') : w_X8_wealth cy tE S x p post := by
  unfold w_X8_wealth
  refine r_8_load cy tE S _ _ hs (fun T hT => r_9_get _ _ _ _ _ _ (by decide) (fun r => ?_))
  refine lr4 (fun (U : KS) (_ _ q : Int32) => U = T ∧ 0 ≤ q.toInt ∧ q.toInt ≤ 3) (fun _ _ _ q => (3 - q.toInt).toNat) ?_ _ _ _ _ ⟨rfl, by decide, by decide⟩
  rintro kk U p' m q ⟨rfl, q0, q3⟩ hk
  unfold w_X8_wealth_F17 w_X8_wealth_B54 w_X8_wealth_B48
  have go : q.toInt < 3 → ∀ m, kk U p' m (q + 1) := fun g m => hk _ _ _ _ ⟨rfl, by rw [inc1 (by omega)]; omega, by rw [inc1 (by omega)]; omega⟩ (by rw [inc1 (by omega)]; omega)
  exact ⟨fun _ => k _ _ hT, fun g => ⟨fun _ => go g _, fun _ => r_9_get _ _ _ _ _ _ (by decide) (fun _ => go g _)⟩⟩
set_option maxHeartbeats 400000 in
theorem r_8_richest (cy : Nat → ClassId) (tE : Nat) (S : KS) (p : Int32) (post : Int32 → KS → Prop) (hs : SQ S) (k : ∀ r S', KF [] stQ [] S S' → post r S') : w_X8_richest cy tE S p post := by
  unfold w_X8_richest
  refine r_8_wealth cy tE S _ _ _ hs (fun r T hT => ?_)
  refine lr5 (fun (U : KS) (_ _ _ x : Int32) => KF [] stQ [] S U ∧ 0 ≤ x.toInt ∧ x.toInt ≤ 400) (fun _ _ _ _ x => (400 - x.toInt).toNat) ?_ _ _ _ _ _ ⟨hT, by decide, by decide⟩
  rintro kk U p' b m x ⟨hU, x0, x1⟩ hk
  unfold w_X8_richest_F12 w_X8_richest_B56 w_X8_richest_B50
  refine ⟨fun _ => k _ _ hU, fun g => ⟨fun _ => k _ _ hU, fun g2 => r_8_wealth cy tE U _ _ _ (SQ_kf hs hU (by decide)) (fun r3 V hV => ?_)⟩⟩
  have go : ∀ b m, kk V p' b m (x + 1) := fun b m => hk _ _ _ _ _ ⟨KF_tr hU hV, by rw [inc1 (by omega)]; omega, by rw [inc1 (by omega)]; omega⟩ (by rw [inc1 (by omega)]; omega)
  exact ⟨fun _ => go _ _, fun _ => go _ _⟩
set_option maxHeartbeats 400000 in
theorem r_8_leastName (cy : Nat → ClassId) (tE : Nat) (S : KS) (post : Int64 → KS → Prop) (k : ∀ v, post v S) : w_X8_leastName cy tE S post := by
  unfold w_X8_leastName
  refine r_9_packed _ _ _ _ _ _ _ (by decide) (fun v => ?_)
  refine lr3 (fun (T : KS) (_ : Int64) (x : Int32) => T = S ∧ 0 ≤ x.toInt ∧ x.toInt ≤ 36) (fun _ _ x => (36 - x.toInt).toNat) ?_ _ _ _ ⟨rfl, by decide, by decide⟩
  rintro kk T v x ⟨rfl, x0, x1⟩ hk
  unfold w_X8_leastName_F12 w_X8_leastName_B44
  exact ⟨fun _ => k _, fun g => r_9_packed _ _ _ _ _ _ _ (by decide) (fun _ => hk _ _ _ ⟨rfl, by rw [inc1 (by omega)]; omega, by rw [inc1 (by omega)]; omega⟩ (by rw [inc1 (by omega)]; omega))⟩
set_option maxHeartbeats 400000 in
theorem r_8_unlike (cy : Nat → ClassId) (tE : Nat) (S : KS) (post : Int32 → KS → Prop) (hs : SQ S) (k : ∀ r S', KF [] stQ [3] S S' → post r S') : w_X8_unlike cy tE S post := by
  unfold w_X8_unlike
  refine lr3 (fun (T : KS) (m x : Int32) => KF [] stQ [3] S T ∧ 0 ≤ m.toInt ∧ m.toInt ≤ x.toInt ∧ x.toInt ≤ 400) (fun _ _ x => (400 - x.toInt).toNat) ?_ _ _ _ ⟨KF_rf S, by decide, by decide, by decide⟩
  rintro kk T m x ⟨hT, m0, m1, x1⟩ hk
  unfold w_X8_unlike_F4 w_X8_unlike_B92
  refine ⟨fun _ => k _ _ hT, fun g => ⟨fun _ => k _ _ hT, fun g2 => r_8_load cy tE T _ _ (SQ_kf hs hT (by decide)) (fun U hU => r_8_leastName _ _ _ _ (fun v => ?_))⟩⟩
  have hU2 : KF [] stQ [3] S U := KF_tr hT (KF_wk hU (by decide))
  refine lr6 (fun (V : KS) (m' x' : Int32) (_ : Int64) (_ j : Int32) => V = U ∧ m' = m ∧ x' = x ∧ 0 ≤ j.toInt ∧ j.toInt ≤ m.toInt) (fun _ _ _ _ _ j => (m.toInt - j.toInt).toNat) ?_ _ _ _ _ _ _ ⟨rfl, rfl, rfl, by decide, by rw [li_0]; omega⟩
  rintro kk2 V m' x' v y j ⟨rfl, rfl, rfl, j0, j1⟩ hk2
  unfold w_X8_unlike_F35 w_X8_unlike_B63
  have b71 : ∀ y, w_X8_unlike_B71 cy tE post kk (w_X8_unlike_B92 cy tE post) V m' x' v y := by
    intro y
    unfold w_X8_unlike_B71 w_X8_unlike_B86
    refine ⟨fun _ => hk _ _ _ ⟨hU2, m0, by rw [inc1 (by omega)]; omega, by rw [inc1 (by omega)]; omega⟩ (by rw [inc1 (by omega)]; omega), fun _ => ⟨by omega, hk _ _ _ ⟨KF_sv (by decide) hU2, by rw [inc1 (by omega)]; omega, by rw [inc1 (by omega), inc1 (by omega)]; omega, by rw [inc1 (by omega)]; omega⟩ (by rw [inc1 (by omega)]; omega)⟩⟩
  have go : j.toInt < m'.toInt → ∀ y, kk2 V m' x' v y (j + 1) := fun g y => hk2 _ _ _ _ _ _ ⟨rfl, rfl, rfl, by rw [inc1 (by omega)]; omega, by rw [inc1 (by omega)]; omega⟩ (by rw [inc1 (by omega)]; omega)
  exact ⟨fun _ => b71 _, fun g3 => ⟨fun _ => b71 _, fun _ => ⟨by omega, fun _ => go g3 _, fun _ => go g3 _⟩⟩⟩
