/-- j bytes of x have been laid behind the tape of S -/
def FB (S T : KS) (x : Int32) (j : Nat) : Prop := KF [0] [0] [] S T ∧ (fi T.1 0).toInt = (fi S.1 0).toInt + (j : Int) ∧ (∀ i : Nat, (i : Int) < (fi S.1 0).toInt → ar T.1 0 i = ar S.1 0 i) ∧ ∀ k, k < j → ar T.1 0 ((fi S.1 0).toInt.toNat + k) = byM x k
set_option maxHeartbeats 400000 in
theorem r_11_feedFourE (cy : Nat → ClassId) (tE : Nat) (S : KS) (x : Int32) (post : KS → Prop) (h0 : 0 ≤ (fi S.1 0).toInt ∧ (fi S.1 0).toInt ≤ 696) (k : ∀ S', FB S S' x 4 → post S') : w_X11_feedFour cy tE S x post := by
  unfold w_X11_feedFour
  refine lr3 (fun (T : KS) (x' s : Int32) => x' = x ∧ ∃ j : Nat, j ≤ 4 ∧ s.toInt = 24 - 8 * (j : Int) ∧ FB S T x j) (fun _ _ s => (s.toInt + 8).toNat) ?_ _ _ _ ⟨rfl, 0, by omega, by decide, KF_rf S, by omega, fun i _ => rfl, fun k hk => by omega⟩
  rintro kk T x' s ⟨rfl, j, hj, hs, hF, hc, ho, hn⟩ hk
  unfold w_X11_feedFour_F3 w_X11_feedFour_B51 w_X11_feedFour_B45
  have e8 : (s + -8).toInt = s.toInt - 8 := by
    have e : (-8 : Int32).toInt = -8 := by decide
    rw [ad_ab (by omega) (by omega), e]
    omega
  refine ⟨fun g => ?_, fun g => ⟨fun g2 => by exfalso; omega, fun g2 => ⟨by omega, ?_⟩⟩⟩
  · have e4 : j = 4 := by omega
    rw [e4] at hc hn
    exact k T ⟨hF, hc, ho, hn⟩
  · rw [byK hs (by omega)]
    have e0 : fi (ksi (ksu T 0 (fi T.1 0).toNatClampNeg (byM x' j)) 0 (fi T.1 0 + 1)).1 0 = fi T.1 0 + 1 := si_at _ _ _
    have eA : ar (ksi (ksu T 0 (fi T.1 0).toNatClampNeg (byM x' j)) 0 (fi T.1 0 + 1)).1 0 = upd (ar T.1 0) (fi T.1 0).toNatClampNeg (byM x' j) := su_at _ _ _ _
    have eN : (fi T.1 0).toNatClampNeg = (fi S.1 0).toInt.toNat + j := by rw [tnc]; omega
    have e1 := inc1 (x := fi T.1 0) (by omega)
    refine hk _ _ _ ⟨rfl, j + 1, by omega, by rw [e8]; omega, KF_si (by decide) (KF_su (by decide) hF), by rw [e0, e1]; omega, fun i hi => ?_, fun q hq => ?_⟩ (by rw [e8]; omega)
    · rw [eA, upd_ne (by omega)]
      exact ho i hi
    · rw [eA, eN]
      by_cases eq : q = j
      · rw [eq, upd_at]
      · rw [upd_ne (by omega)]
        exact hn q (by omega)
def agF (a b c d e : Int32) (k : Nat) : Int32 := if k < 4 then a else if k < 8 then b else if k < 12 then c else if k < 16 then d else e
/-- twenty bytes more -/
def FK (S T : KS) (a b c d e : Int32) : Prop := KF [0] [0] [] S T ∧ (fi T.1 0).toInt = (fi S.1 0).toInt + 20 ∧ (∀ i : Nat, (i : Int) < (fi S.1 0).toInt → ar T.1 0 i = ar S.1 0 i) ∧ ∀ k, k < 20 → ar T.1 0 ((fi S.1 0).toInt.toNat + k) = byM (agF a b c d e k) (k % 4)
theorem FB_5 {S T1 T2 T3 T4 T5 : KS} {a b c d e : Int32} (h0 : 0 ≤ (fi S.1 0).toInt) (h1 : FB S T1 a 4) (h2 : FB T1 T2 b 4) (h3 : FB T2 T3 c 4) (h4 : FB T3 T4 d 4) (h5 : FB T4 T5 e 4) : FK S T5 a b c d e := by
  obtain ⟨f1, c1, o1, n1⟩ := h1
  obtain ⟨f2, c2, o2, n2⟩ := h2
  obtain ⟨f3, c3, o3, n3⟩ := h3
  obtain ⟨f4, c4, o4, n4⟩ := h4
  obtain ⟨f5, c5, o5, n5⟩ := h5
  refine ⟨KF_tr f1 (KF_tr f2 (KF_tr f3 (KF_tr f4 f5))), by omega, fun i hi => ?_, fun k hk => ?_⟩
  · rw [o5 i (by omega), o4 i (by omega), o3 i (by omega), o2 i (by omega), o1 i hi]
  · unfold agF
    by_cases g1 : k < 4
    · rw [if_pos g1, o5 _ (by omega), o4 _ (by omega), o3 _ (by omega), o2 _ (by omega), n1 k g1, Nat.mod_eq_of_lt g1]
    rw [if_neg g1]
    by_cases g2 : k < 8
    · have en : (fi S.1 0).toInt.toNat + k = (fi T1.1 0).toInt.toNat + (k - 4) := by omega
      have em : k % 4 = k - 4 := by omega
      rw [if_pos g2, o5 _ (by omega), o4 _ (by omega), o3 _ (by omega), en, n2 _ (by omega), em]
    rw [if_neg g2]
    by_cases g3 : k < 12
    · have en : (fi S.1 0).toInt.toNat + k = (fi T2.1 0).toInt.toNat + (k - 8) := by omega
      have em : k % 4 = k - 8 := by omega
      rw [if_pos g3, o5 _ (by omega), o4 _ (by omega), en, n3 _ (by omega), em]
    rw [if_neg g3]
    by_cases g4 : k < 16
    · have en : (fi S.1 0).toInt.toNat + k = (fi T3.1 0).toInt.toNat + (k - 12) := by omega
      have em : k % 4 = k - 12 := by omega
      rw [if_pos g4, o5 _ (by omega), en, n4 _ (by omega), em]
    rw [if_neg g4]
    have en : (fi S.1 0).toInt.toNat + k = (fi T4.1 0).toInt.toNat + (k - 16) := by omega
    have em : k % 4 = k - 16 := by omega
    rw [en, n5 _ (by omega), em]
set_option maxRecDepth 100000 in
theorem md_4 : ∀ j, j < 20 → nI j - nI j / 4 * 4 = nI (j % 4) := by decide +kernel
set_option maxHeartbeats 400000 in
theorem q_feedE (S : GS) (a b c d e : Int32) (post : Int32 → GS → Prop) (h1 : 0 ≤ (fi S 1).toInt ∧ (fi S 1).toInt ≤ 700) (k0 : 680 < (fi S 1).toInt → post (-1) S) (k1 : (fi S 1).toInt ≤ 680 → ∀ M, Fr [1] [] [21] [] S M → (fi M 1).toInt = (fi S 1).toInt + 20 → (∀ i : Nat, (i : Int) < (fi S 1).toInt → ar M 21 i = ar S 21 i) → (∀ k, k < 20 → ar M 21 ((fi S 1).toInt.toNat + k) = byM (agF a b c d e k) (k % 4)) → post (fi M 1) M) : w_X12_feed S a b c d e post := by
  unfold w_X12_feed
  have e20 : (fi S 1 + 20).toInt = (fi S 1).toInt + 20 := by
    rw [ad_ab (by rw [li_20]; omega) (by rw [li_20]; omega), li_20]
  rw [e20]
  refine ⟨fun g => ?_, fun g => k0 (by omega)⟩
  clear e20
  refine lr7 (fun (T : GS) (a' b' c' d' e' j : Int32) => (a' = a ∧ b' = b ∧ c' = c ∧ d' = d ∧ e' = e) ∧ Fr [1] [] [21] [] S T ∧ ((fi T 1).toInt = (fi S 1).toInt + j.toInt ∧ 0 ≤ j.toInt ∧ j.toInt ≤ 20) ∧ (∀ i : Nat, (i : Int) < (fi S 1).toInt → ar T 21 i = ar S 21 i) ∧ (∀ k : Nat, (k : Int) < j.toInt → ar T 21 ((fi S 1).toInt.toNat + k) = byM (agF a b c d e k) (k % 4))) (fun _ _ _ _ _ _ j => (20 - j.toInt).toNat) ?_ _ _ _ _ _ _ _ ⟨⟨rfl, rfl, rfl, rfl, rfl⟩, Fr.rf, by rw [li_0]; omega, fun i _ => rfl, fun k hk => by rw [li_0] at hk; omega⟩
  rintro kk T a' b' c' d' e' j ⟨⟨rfl, rfl, rfl, rfl, rfl⟩, hF, ⟨hj, j0, j2⟩, ho, hn⟩ hk
  unfold w_X12_feed_F18 w_X12_feed_B115
  have ej := fun (g : j.toInt < 20) => inc1 (x := j) (by omega)
  have b71 : j.toInt < 20 → ∀ y, y = agF a' b' c' d' e' j.toInt.toNat → w_X12_feed_B71 post kk (w_X12_feed_B115 post) T a' b' c' d' e' j y := by
    intro gj y hy
    unfold w_X12_feed_B71
    have em := md_4 j.toInt.toNat (by omega)
    rw [cd_n (b := 20) ⟨j0, j2⟩] at em
    have ev : (y >>> (((24 : Int32) - ((8 : Int32) * (j - j / 4 * 4))) &&& 31)) &&& 255 = byM y (j.toInt.toNat % 4) := by
      unfold byM
      rw [em]
    rw [ev, hy]
    have e1 := inc1 (x := fi T 1) (by omega)
    have eN : (fi T 1).toNatClampNeg = (fi S 1).toInt.toNat + j.toInt.toNat := by rw [tnc]; omega
    have eF : fi (si (su T 21 (fi T 1).toNatClampNeg (byM (agF a' b' c' d' e' j.toInt.toNat) (j.toInt.toNat % 4))) 1 (fi T 1 + 1)) 1 = fi T 1 + 1 := si_at _ _ _
    have eA : ar (si (su T 21 (fi T 1).toNatClampNeg (byM (agF a' b' c' d' e' j.toInt.toNat) (j.toInt.toNat % 4))) 1 (fi T 1 + 1)) 21 = upd (ar T 21) (fi T 1).toNatClampNeg (byM (agF a' b' c' d' e' j.toInt.toNat) (j.toInt.toNat % 4)) := su_at _ _ _ _
    refine ⟨by omega, hk _ _ _ _ _ _ _ ⟨⟨rfl, rfl, rfl, rfl, rfl⟩, Fr.si (by decide) (Fr.su (by decide) hF), ⟨by rw [eF, e1, ej gj]; omega, by rw [ej gj]; omega, by rw [ej gj]; omega⟩, fun i hi => ?_, fun q hq => ?_⟩ (by rw [ej gj]; omega)⟩
    · rw [eA, upd_ne (by omega)]
      exact ho i hi
    · rw [eA, eN]
      rw [ej gj] at hq
      by_cases eq : q = j.toInt.toNat
      · rw [eq, upd_at]
      · rw [upd_ne (by omega)]
        exact hn q (by omega)
  exact ⟨fun _ => k1 (by omega) _ hF (by omega) ho (fun q hq => hn q (by omega)), fun gj => ⟨fun g4 => ⟨fun g8 => ⟨fun g12 => ⟨fun g16 => b71 gj _ (by unfold agF; rw [if_neg (by omega), if_neg (by omega), if_neg (by omega), if_neg (by omega)]), fun g16 => b71 gj _ (by unfold agF; rw [if_neg (by omega), if_neg (by omega), if_neg (by omega), if_pos (by omega)])⟩, fun g12 => b71 gj _ (by unfold agF; rw [if_neg (by omega), if_neg (by omega), if_pos (by omega)])⟩, fun g8 => b71 gj _ (by unfold agF; rw [if_neg (by omega), if_pos (by omega)])⟩, fun g4 => b71 gj _ (by unfold agF; rw [if_pos (by omega)])⟩⟩
