def SGm (d : Int) (Z : TS) (Y : YT) (sg : GS → (Int32 → GS → Prop) → Prop) : Prop := ∀ (S : GS) (post : Int32 → GS → Prop) (j D : Nat), Lx S → MZ Z Y j S → (fi S 9).toInt = 8 - (D : Int) → D ≤ 8 → (D : Int) < d → (∀ (r : Int32) (S' : GS), EE S S' → (r = 0 ∨ r = 1) → (r.toInt ≠ 0 → OKx S S') → MX Z Y S S' r (ypCl Z D j) → post r S') → sg S post

set_option maxHeartbeats 800000 in
theorem q_everyE (d : Int) (sg : GS → (Int32 → GS → Prop) → Prop) (S : GS) (post : Int32 → GS → Prop) (hL : Lx S) (Z : TS) (Y : YT) (j : Nat) (hz : MZ Z Y j S) (hsg : SGm d Z Y sg) (D : Nat) (hD9 : (fi S 9).toInt = 8 - (D : Int)) (hD : D ≤ 8) (hd2 : (D : Int) < d) (k : ∀ (r : Int32) (S' : GS), EE S S' → (r = 0 ∨ r = 1) → (r.toInt ≠ 0 → OKx S S') → MX Z Y S S' r (ypLs Z 16 16 (ypCl Z D) j) → post r S') : w_X12_every_R sg S post := by
  have hn0 := hL.2.2.2.2.2.1
  have hgo : ypGo (ypCl Z D) := ypCl_lt Z D
  have e0 : ypLs Z 16 16 (ypCl Z D) j = ypBn (ypCl Z D j) (ypWh Z 16 16 (ypCl Z D) 800) := rfl
  generalize ypLs Z 16 16 (ypCl Z D) j = RES at e0 k
  unfold w_X12_every_R
  refine hsg S _ j D hL hz hD9 hD hd2 (fun r1 S2 hE2 _ h2 hM2 => ⟨fun g1 => ?_, fun g1 => k 0 S2 hE2 (Or.inl rfl) no0 (Or.inr ⟨rfl, by rw [e0]; exact MB_l (MX_0 hM2 g1)⟩)⟩)
  refine lr1 (fun (T : GS) => EE S T ∧ OKx S T ∧ ∃ (acc : YR) (nt : Nat), MG Z Y S T acc ∧ RES = ypBn acc (ypWh Z 16 16 (ypCl Z D) nt) ∧ 800 ≤ nt + acc.2.1) (fun T => (700 - (fi T 4).toInt).toNat) ?_ _ ⟨hE2, h2 g1, _, 800, MX_1 hM2 g1, e0, by omega⟩
  rintro kk T ⟨hE, hO, acc, nt, hM, hR, hnt⟩ hk
  have hzT : MZ Z Y acc.2.1 T := hM.2.1
  have tt := MZ_t hzT 16 313 (by decide) (by decide)
  have hc7 := hzT.1.2.2
  have hjc := hzT.2.1
  unfold w_X12_every_F9 w_X12_every_B42
  refine ⟨fun g => k 1 T hE (Or.inr rfl) (fun _ => hO) (Or.inl ⟨rfl, by rw [hR, ypW_no (by omega)]; exact hM⟩), fun g => ?_⟩
  have gk : (Z.1 acc.2.1).toInt = 16 := tt.mp g
  obtain ⟨n, hn⟩ : ∃ n, nt = n + 1 := ⟨nt - 1, by omega⟩
  rw [hn] at hR
  have hR2 := hR.trans (ypW_in (Or.inl gk))
  refine q_nextE _ _ Z Y acc.2.1 hzT (by omega) (fun S4 hN hz4 => ?_)
  have g4 := GO_nx hO.1 (by omega) hN
  have e4 := NX_ee hN
  have hTn : 0 ≤ nn T := hO.1.2.2.2.2.2.1
  have d4 : fi S4 9 = fi S 9 := g4.2.2.2.1.trans hO.2.2.1
  refine hsg S4 _ (acc.2.1 + 1) D g4.1 hz4 (by rw [d4]; exact hD9) hD hd2 (fun r5 S6 hE6 _ h6 hM6 => ⟨fun g5 => ?_, fun g5 => k 0 S6 (EE_tr hE (EE_tr e4 hE6)) (Or.inl rfl) no0 (Or.inr ⟨rfl, ?_⟩)⟩)
  case refine_2 =>
    have hB : MB Z S6 (ypBn acc (fun i => ypBn (ypCl Z D (i + 1)) (ypEm (Z.1 i) 0))) := MB_tr hM (MB_l (MX_0 hM6 g5))
    rw [hR2]
    exact MB_l hB
  have o6 := h6 g5
  have hG6 := MX_1 hM6 g5
  have eL : Z.1 acc.2.1 = 16 := i_eq (by rw [gk]; decide)
  refine q_layE S6 15 0 (Z.1 acc.2.1) 0 _ (nn_lx o6.1) (by rw [eL]; decide) (fun _ => rfl) Z Y _ hG6.2.1 (fun S8 e8 hF h1 h2 hG8 => ?_)
  have o8 := OK_bin hL hO e4 g4 hE6 o6 e8 hF h1 h2 (by decide)
  have q4 : fi S8 4 = fi S6 4 := hF.1 4 (by decide)
  have y1 := o6.2.1
  have y2 := hE6.2.2.2
  have y3 := g4.2.2.1
  have y4 := o8.1.2.1
  have y5 := o8.1.2.2.1
  have y6 := o8.1.2.2.2.1
  have hXT : MG Z Y T S8 (ypBn (ypCl Z D (acc.2.1 + 1)) (ypEm (Z.1 acc.2.1) 0)) := MG_tr hTn (MG_t0 hTn (MG_nx hz4 hN) hG6 hE6) hG8 e8
  have hXS : MG Z Y S S8 (ypBn acc (fun i => ypBn (ypCl Z D (i + 1)) (ypEm (Z.1 i) 0))) := MG_tr hn0 hM hXT (EE_tr e4 (EE_tr hE6 e8))
  have hpp : (ypBn acc (fun i => ypBn (ypCl Z D (i + 1)) (ypEm (Z.1 i) 0))).2.1 = (ypCl Z D (acc.2.1 + 1)).2.1 := by
    rw [ypBn_2 hXS.1, ypBn_2 hXT.1]
    rfl
  have hlt := hgo _ hG6.1
  exact hk _ ⟨EE_tr hE (EE_tr e4 (EE_tr hE6 e8)), o8, _, n, hXS, hR2, by omega⟩ (by rw [q4] at *; omega)

set_option maxHeartbeats 800000 in
theorem q_anyE (d : Int) (sg : GS → (Int32 → GS → Prop) → Prop) (S : GS) (post : Int32 → GS → Prop) (hL : Lx S) (Z : TS) (Y : YT) (j : Nat) (hz : MZ Z Y j S) (hsg : SGm d Z Y sg) (D : Nat) (hD9 : (fi S 9).toInt = 8 - (D : Int)) (hD : D ≤ 8) (hd2 : (D : Int) < d) (k : ∀ (r : Int32) (S' : GS), EE S S' → (r = 0 ∨ r = 1) → (r.toInt ≠ 0 → OKx S S') → MX Z Y S S' r (ypAny Z (ypCl Z D) j) → post r S') : w_X12_any_R sg S post := by
  have hn0 := hL.2.2.2.2.2.1
  have hgo : ypGo (ypLs Z 16 16 (ypCl Z D)) := ypLs_lt (ypCl_lt Z D)
  have e0 : ypAny Z (ypCl Z D) j = ypBn (ypLs Z 16 16 (ypCl Z D) j) (ypWh Z 15 15 (ypLs Z 16 16 (ypCl Z D)) 800) := rfl
  generalize ypAny Z (ypCl Z D) j = RES at e0 k
  unfold w_X12_any_R
  refine q_everyE d sg S _ hL Z Y j hz hsg D hD9 hD hd2 (fun r1 S2 hE2 _ h2 hM2 => ⟨fun g1 => ?_, fun g1 => k 0 S2 hE2 (Or.inl rfl) no0 (Or.inr ⟨rfl, by rw [e0]; exact MB_l (MX_0 hM2 g1)⟩)⟩)
  refine lr1 (fun (T : GS) => EE S T ∧ OKx S T ∧ ∃ (acc : YR) (nt : Nat), MG Z Y S T acc ∧ RES = ypBn acc (ypWh Z 15 15 (ypLs Z 16 16 (ypCl Z D)) nt) ∧ 800 ≤ nt + acc.2.1) (fun T => (700 - (fi T 4).toInt).toNat) ?_ _ ⟨hE2, h2 g1, _, 800, MX_1 hM2 g1, e0, by omega⟩
  rintro kk T ⟨hE, hO, acc, nt, hM, hR, hnt⟩ hk
  have hzT : MZ Z Y acc.2.1 T := hM.2.1
  have tt := MZ_t hzT 15 312 (by decide) (by decide)
  have hc7 := hzT.1.2.2
  have hjc := hzT.2.1
  unfold w_X12_any_F9 w_X12_any_B42
  refine ⟨fun g => k 1 T hE (Or.inr rfl) (fun _ => hO) (Or.inl ⟨rfl, by rw [hR, ypW_no (by omega)]; exact hM⟩), fun g => ?_⟩
  have gk : (Z.1 acc.2.1).toInt = 15 := tt.mp g
  obtain ⟨n, hn⟩ : ∃ n, nt = n + 1 := ⟨nt - 1, by omega⟩
  rw [hn] at hR
  have hR2 := hR.trans (ypW_in (Or.inl gk))
  refine q_nextE _ _ Z Y acc.2.1 hzT (by omega) (fun S4 hN hz4 => ?_)
  have g4 := GO_nx hO.1 (by omega) hN
  have e4 := NX_ee hN
  have hTn : 0 ≤ nn T := hO.1.2.2.2.2.2.1
  have d4 : fi S4 9 = fi S 9 := g4.2.2.2.1.trans hO.2.2.1
  refine q_everyE d sg S4 _ g4.1 Z Y (acc.2.1 + 1) hz4 hsg D (by rw [d4]; exact hD9) hD hd2 (fun r5 S6 hE6 _ h6 hM6 => ⟨fun g5 => ?_, fun g5 => k 0 S6 (EE_tr hE (EE_tr e4 hE6)) (Or.inl rfl) no0 (Or.inr ⟨rfl, ?_⟩)⟩)
  case refine_2 =>
    have hB : MB Z S6 (ypBn acc (fun i => ypBn (ypLs Z 16 16 (ypCl Z D) (i + 1)) (ypEm (Z.1 i) 0))) := MB_tr hM (MB_l (MX_0 hM6 g5))
    rw [hR2]
    exact MB_l hB
  have o6 := h6 g5
  have hG6 := MX_1 hM6 g5
  have eL : Z.1 acc.2.1 = 15 := i_eq (by rw [gk]; decide)
  refine q_layE S6 16 0 (Z.1 acc.2.1) 0 _ (nn_lx o6.1) (by rw [eL]; decide) (fun _ => rfl) Z Y _ hG6.2.1 (fun S8 e8 hF h1 h2 hG8 => ?_)
  have o8 := OK_bin hL hO e4 g4 hE6 o6 e8 hF h1 h2 (by decide)
  have q4 : fi S8 4 = fi S6 4 := hF.1 4 (by decide)
  have y1 := o6.2.1
  have y2 := hE6.2.2.2
  have y3 := g4.2.2.1
  have y4 := o8.1.2.1
  have y5 := o8.1.2.2.1
  have y6 := o8.1.2.2.2.1
  have hXT : MG Z Y T S8 (ypBn (ypLs Z 16 16 (ypCl Z D) (acc.2.1 + 1)) (ypEm (Z.1 acc.2.1) 0)) := MG_tr hTn (MG_t0 hTn (MG_nx hz4 hN) hG6 hE6) hG8 e8
  have hXS : MG Z Y S S8 (ypBn acc (fun i => ypBn (ypLs Z 16 16 (ypCl Z D) (i + 1)) (ypEm (Z.1 i) 0))) := MG_tr hn0 hM hXT (EE_tr e4 (EE_tr hE6 e8))
  have hpp : (ypBn acc (fun i => ypBn (ypLs Z 16 16 (ypCl Z D) (i + 1)) (ypEm (Z.1 i) 0))).2.1 = (ypLs Z 16 16 (ypCl Z D) (acc.2.1 + 1)).2.1 := by
    rw [ypBn_2 hXS.1, ypBn_2 hXT.1]
    rfl
  have hlt := hgo _ hG6.1
  exact hk _ ⟨EE_tr hE (EE_tr e4 (EE_tr hE6 e8)), o8, _, n, hXS, hR2, by omega⟩ (by rw [q4] at *; omega)

set_option maxHeartbeats 800000 in
theorem q_opensE (S : GS) (post : Int32 → GS → Prop) (hL : Lx S) (Z : TS) (Y : YT) (j : Nat) (hz : MZ Z Y j S) (hk : (Z.1 j).toInt ≠ 0) (D : Nat) (hD9 : (fi S 9).toInt = 8 - (D : Int)) (hD : D ≤ 8) (k0 : ∀ S', EE S S' → D = 0 → MB Z S' (ypNo 3 j) → post 0 S') (k1 : ∀ S', EE S S' → D ≠ 0 → Lx S' → nn S' = nn S → (fi S 4).toInt < (fi S' 4).toInt → (fi S' 9).toInt = (fi S 9).toInt + 1 → BM S S' → MG Z Y S S' (ypOk (j + 1)) → post 1 S') : w_X12_opens S post := by
  have ht : (fi S 3).toInt ≠ 0 := fun g => hk ((MZ_0 hz).mp g)
  unfold w_X12_opens
  refine ⟨fun g => ?_, fun g => ⟨Or.inl rfl, k0 _ (EE_bad S 3) (by omega) (MB_bad hz 3 3 (by decide) (by decide))⟩⟩
  have eF : Fr [9] [] [] [] S (si S 9 (fi S 9 + 1)) := Fr.si (by decide) Fr.rf
  have f9 : fi (si S 9 (fi S 9 + 1)) 9 = fi S 9 + 1 := si_at _ _ _
  generalize si S 9 (fi S 9 + 1) = U at eF f9 ⊢
  have t1 : fi U 1 = fi S 1 := eF.1 1 (by decide)
  have t2 : fi U 2 = fi S 2 := eF.1 2 (by decide)
  have t3 : fi U 3 = fi S 3 := eF.1 3 (by decide)
  have t4 : fi U 4 = fi S 4 := eF.1 4 (by decide)
  have t14 : fi U 14 = fi S 14 := eF.1 14 (by decide)
  have t15 : fi U 15 = fi S 15 := eF.1 15 (by decide)
  have tn := nn_fr eF (by decide)
  have hLU : Lx U := by
    unfold Lx at hL ⊢
    rw [t1, t2, t3, t4, tn]; exact hL
  have hzU : MZ Z Y j U := MZ_fr hz eF (by decide) (by rw [t14]; exact hz.2.2.2.2.2.2.2.1) (by rw [t15]; exact hz.2.2.2.2.2.2.2.2)
  refine q_nextE _ _ Z Y j hzU hk (fun T hN hzN => ?_)
  obtain ⟨a, b, c, d, e⟩ := GO_nx hLU (by rw [t3]; exact ht) hN
  have e9 : (fi T 9).toInt = (fi S 9).toInt + 1 := by rw [d, f9, inc1 (by omega)]
  have hM : MG Z Y U T (ypOk (j + 1)) := MG_nx hzN hN
  have hMS : MG Z Y S T (ypOk (j + 1)) := ⟨rfl, hzN, MO_0 (b.trans tn) ((hN.1.1 6 (by decide)).trans (eF.1 6 (by decide))), hM.2.2.2.1.trans (by rw [t14]), hM.2.2.2.2.trans (by rw [t15])⟩
  exact k1 T (EE_tr (EE_fr (eF.wk (by decide))) (NX_ee hN)) (by omega) a (b.trans tn) (by rw [t4] at c; exact c) e9 (BM_tr (BM_fr eF (by decide) (by decide)) e) hMS
set_option maxHeartbeats 800000 in
theorem q_needE (S : GS) (t : Int32) (post : Int32 → GS → Prop) (hL : Lx S) (Z : TS) (Y : YT) (j : Nat) (hz : MZ Z Y j S) (m : Int) (hm : m ≠ 0) (ht : (fi S 3).toInt = t.toInt ↔ (Z.1 j).toInt = m) (k : ∀ (r : Int32) (S' : GS), EE S S' → Fr [2, 3, 4, 5, 6, 7] [] [] [] S S' → (r = 0 ∨ r = 1) → (r.toInt ≠ 0 → GOx S S') → MX Z Y S S' r (if (Z.1 j).toInt = m then ypOk (j + 1) else ypNo 1 j) → post r S') : w_X12_need S t post := by
  unfold w_X12_need
  refine ⟨fun g => ?_, fun g => ⟨Or.inl rfl, k 0 _ (EE_bad S 1) (Fr.si (by decide) (Fr.si (by decide) Fr.rf)) (Or.inl rfl) no0 (Or.inr ⟨rfl, by rw [if_neg (fun h => g (ht.mpr h))]; exact MB_bad hz 1 1 (by decide) (by decide)⟩)⟩⟩
  have gk := ht.mp g
  have g0 : (fi S 3).toInt ≠ 0 := fun g => by
    have := (MZ_0 hz).mp g
    omega
  exact q_nextE _ _ Z Y j hz (by omega) (fun T hN hzN => k 1 T (NX_ee hN) (hN.1.wk (by decide)) (Or.inr rfl) (fun _ => GO_nx hL g0 hN) (Or.inl ⟨rfl, by rw [if_pos gk]; exact MG_nx hzN hN⟩))
/-- the depth set back -/
theorem MG_9 {Z : TS} {Y : YT} {S T : GS} {r : YR} {x : Int32} (h : MG Z Y S T r) : MG Z Y S (si T 9 x) r := MG_fr h (Fr.si (k := 9) (I := [9]) (L := []) (A := []) (M := []) (by decide) Fr.rf) (by decide) (by decide)
set_option maxHeartbeats 800000 in
theorem q_singleE (d : Int) (Z : TS) (Y : YT) (sg : GS → (Int32 → GS → Prop) → Prop) (hsg : SGm d Z Y sg) : SGm (d + 1) Z Y (w_X12_single_R sg) := by
  intro S post j D hL hz hD9 hD hd2 k
  have hn0 := hL.2.2.2.2.2.1
  have t17 := MZ_t hz 17 314 (by decide) (by decide)
  have t27 := MZ_t hz 27 40 (by decide) (by decide)
  unfold w_X12_single_R w_X12_single_B77 w_X12_single_B24
  refine ⟨fun n17 => ⟨fun n27 => ?_, fun g => ?_⟩, fun g => ?_⟩
  · rw [ypCl_c ⟨fun h => n17 (t17.mpr h), fun h => n27 (t27.mpr h)⟩] at k
    unfold ypCmp at k
    refine q_sumUpE S _ hL Z Y j hz (fun r1 S2 hE2 _ h2 hM2 => ⟨fun g1 => ?_, fun g1 => k 0 S2 hE2 (Or.inl rfl) no0 (Or.inr ⟨rfl, MB_l (MX_0 hM2 g1)⟩)⟩)
    have o2 := h2 g1
    have hG2 := MX_1 hM2 g1
    clear hM2
    generalize ypSum Z j = rr at k hG2
    have hz2 : MZ Z Y rr.2.1 S2 := hG2.2.1
    have h2n : 0 ≤ nn S2 := o2.1.2.2.2.2.2.1
    have u29 := MZ_t hz2 29 60 (by decide) (by decide)
    have u30 := MZ_t hz2 30 61 (by decide) (by decide)
    have u31 := MZ_t hz2 31 62 (by decide) (by decide)
    have lit : ∀ m : Int32, (Z.1 rr.2.1).toInt = m.toInt → Z.1 rr.2.1 = m := fun m g => i_eq g
    have b143 : ∀ y : Int32, ((Z.1 rr.2.1).toInt = 29 ∨ (Z.1 rr.2.1).toInt = 30 ∨ (Z.1 rr.2.1).toInt = 31) → y = mS (Z.1 rr.2.1) → y.toInt ≠ -1 → 8 ≤ y.toInt ∧ y.toInt ≠ 14 → w_X12_single_B143 sg post S2 y := by
      intro y hkk hyS hy1 hy
      unfold w_X12_single_B143
      refine ⟨fun gy => ?_, fun gy => absurd gy hy1⟩
      have g0 : (fi S2 3).toInt ≠ 0 := fun g => by
        have := (MZ_0 hz2).mp g
        omega
      refine q_nextE _ _ Z Y rr.2.1 hz2 (by omega) (fun S4 hN hz4 => ?_)
      have g4 := GO_nx o2.1 g0 hN
      have e4 := NX_ee hN
      refine q_sumUpE S4 _ g4.1 Z Y (rr.2.1 + 1) hz4 (fun r5 S6 hE6 _ h6 hM6 => ⟨fun g5 => ?_, fun g5 => k 0 S6 (EE_tr hE2 (EE_tr e4 hE6)) (Or.inl rfl) no0 (Or.inr ⟨rfl, MB_tr hG2 ?_⟩)⟩)
      case refine_2 =>
        show MB Z S6 (if (Z.1 rr.2.1).toInt = 29 ∨ (Z.1 rr.2.1).toInt = 30 ∨ (Z.1 rr.2.1).toInt = 31 then _ else _)
        rw [if_pos hkk]
        exact MB_l (MX_0 hM6 g5)
      have o6 := h6 g5
      have hG6 := MX_1 hM6 g5
      refine q_layE S6 y 0 (Z.1 rr.2.1) 0 _ (nn_lx o6.1) hyS (fun _ => rfl) Z Y _ hG6.2.1 (fun S8 e8 hF h1 h2 hG8 => ?_)
      refine k 1 S8 (EE_tr hE2 (EE_tr e4 (EE_tr hE6 e8))) (Or.inr rfl) (fun _ => OK_bin hL o2 e4 g4 hE6 o6 e8 hF h1 h2 hy) (Or.inl ⟨rfl, MG_tr hn0 hG2 ?_ (EE_tr e4 (EE_tr hE6 e8))⟩)
      show MG Z Y S2 S8 (if (Z.1 rr.2.1).toInt = 29 ∨ (Z.1 rr.2.1).toInt = 30 ∨ (Z.1 rr.2.1).toInt = 31 then _ else _)
      rw [if_pos hkk]
      exact MG_tr h2n (MG_t0 h2n (MG_nx hz4 hN) hG6 hE6) hG8 e8
    have bno : ¬ ((Z.1 rr.2.1).toInt = 29 ∨ (Z.1 rr.2.1).toInt = 30 ∨ (Z.1 rr.2.1).toInt = 31) → w_X12_single_B143 sg post S2 (-1) := by
      intro hno
      unfold w_X12_single_B143
      refine ⟨fun gy => absurd (by decide) gy, fun _ => ⟨Or.inl rfl, k 0 _ (EE_tr hE2 (EE_bad S2 1)) (Or.inl rfl) no0 (Or.inr ⟨rfl, MB_tr hG2 ?_⟩)⟩⟩
      show MB Z _ (if (Z.1 rr.2.1).toInt = 29 ∨ (Z.1 rr.2.1).toInt = 30 ∨ (Z.1 rr.2.1).toInt = 31 then _ else _)
      rw [if_neg hno]
      exact MB_bad hz2 1 1 (by decide) (by decide)
    refine ⟨fun n60 => ⟨fun n61 => ⟨fun n62 => bno (by omega), fun g => b143 13 (by omega) (by rw [lit 31 (u31.mp g)]; decide) (by decide) (by decide)⟩, fun g => b143 12 (by omega) (by rw [lit 30 (u30.mp g)]; decide) (by decide) (by decide)⟩, fun g => b143 11 (by omega) (by rw [lit 29 (u29.mp g)]; decide) (by decide) (by decide)⟩
  · have gk : (Z.1 j).toInt = 27 := t27.mp g
    refine q_opensE S _ hL Z Y j hz (by omega) D hD9 hD (fun S2 hE2 eD hB => ⟨fun _ => k 0 S2 hE2 (Or.inl rfl) no0 (Or.inr ⟨rfl, ?_⟩), fun g1 => absurd li_0 g1⟩) (fun S2 hE2 hD0 a b c e bm hG2 => ⟨fun g1 => absurd g1 (by decide), fun _ => ?_⟩)
    · have e : ypCl Z D j = ypNo 3 j := by
        rw [eD]
        show (if (Z.1 j).toInt = 17 ∨ (Z.1 j).toInt = 27 then _ else _) = _
        rw [if_pos (by omega)]
      rw [e]; exact hB
    obtain ⟨D', hD'⟩ : ∃ D', D = D' + 1 := ⟨D - 1, by omega⟩
    have eC : ypCl Z D j = ypBn (ypAny Z (ypCl Z D') (j + 1)) (ypEnd Z) := by
      rw [hD']
      show (if (Z.1 j).toInt = 17 then _ else _) = _
      rw [if_neg (by omega), if_pos gk]
    rw [eC] at k
    have h2n : 0 ≤ nn S2 := a.2.2.2.2.2.1
    refine q_anyE d sg S2 _ a Z Y (j + 1) hG2.2.1 hsg D' (by omega) (by omega) (by omega) (fun r3 S4 hE4 _ h4 hM4 => ⟨fun g3 => k 0 S4 (EE_tr hE2 hE4) (Or.inl rfl) no0 (Or.inr ⟨rfl, MB_l (MX_0 hM4 g3)⟩), fun g3 => ?_⟩)
    have o4 := h4 g3
    have hG4 := MG_t0 hn0 hG2 (MX_1 hM4 g3) hE4
    clear hM4
    generalize ypAny Z (ypCl Z D') (j + 1) = rr at k hG4
    have hz4 : MZ Z Y rr.2.1 S4 := hG4.2.1
    have u28 := MZ_t hz4 28 41 (by decide) (by decide)
    refine q_needE S4 _ _ o4.1 Z Y rr.2.1 hz4 28 (by decide) u28 (fun r5 S6 hE6 hF6 _ h6 hM6 => ⟨fun g5 => ?_, fun g5 => k 0 S6 (EE_tr hE2 (EE_tr hE4 hE6)) (Or.inl rfl) no0 (Or.inr ⟨rfl, MB_tr hG4 (MX_0 hM6 g5)⟩)⟩)
    have o6 := h6 g5
    have hG6 : MG Z Y S S6 (ypBn rr (ypEnd Z)) := MG_tr hn0 hG4 (MX_1 hM6 g5) hE6
    have hGU := MG_9 (x := fi S6 9 - 1) hG6
    have eF : Fr [9] [] [] [] S6 (si S6 9 (fi S6 9 - 1)) := Fr.si (by decide) Fr.rf
    have f9 : fi (si S6 9 (fi S6 9 - 1)) 9 = fi S6 9 - 1 := si_at _ _ _
    generalize si S6 9 (fi S6 9 - 1) = U at eF f9 hGU ⊢
    have t1 : fi U 1 = fi S6 1 := eF.1 1 (by decide)
    have t2 : fi U 2 = fi S6 2 := eF.1 2 (by decide)
    have t3 : fi U 3 = fi S6 3 := eF.1 3 (by decide)
    have t4 : fi U 4 = fi S6 4 := eF.1 4 (by decide)
    have tn := nn_fr eF (by decide)
    have hEU : EE S6 U := EE_fr (eF.wk (by decide))
    have d6 : (fi S6 9).toInt = (fi S 9).toInt + 1 := by rw [o6.2.2.2.1, o4.2.2.1]; exact e
    refine k 1 U (EE_tr hE2 (EE_tr hE4 (EE_tr hE6 hEU))) (Or.inr rfl) (fun _ => ⟨?_, ?_, ?_, ?_, ?_⟩) (Or.inl ⟨rfl, hGU⟩)
    · have := o6.1
      unfold Lx at this ⊢
      rw [t1, t2, t3, t4, tn]; exact this
    · have y1 := o4.2.1
      have y2 := o6.2.1
      have y3 := o6.2.2.1
      rw [tn, t4]; omega
    · exact i_eq (by rw [f9, sub1 (by omega)]; omega)
    · exact BM_tr bm (BM_tr o4.2.2.2.1 (BM_tr o6.2.2.2.2 (BM_fr eF (by decide) (by decide))))
    · have y2 := o6.2.1
      have y4 := a.2.2.2.2.2.1
      have y5 := o4.1.2.2.2.2.2.1
      have y6 := o6.1.2.2.2.2.2.1
      rw [tn, y2, ← b]
      exact EE_sx hEU y6 (by omega) (EE_sx hE6 y5 (by omega) o4.2.2.2.2)
  · have gk : (Z.1 j).toInt = 17 := t17.mp g
    refine q_opensE S _ hL Z Y j hz (by omega) D hD9 hD (fun S2 hE2 eD hB => ⟨fun _ => k 0 S2 hE2 (Or.inl rfl) no0 (Or.inr ⟨rfl, ?_⟩), fun g1 => absurd li_0 g1⟩) (fun S2 hE2 hD0 a b c e bm hG2 => ⟨fun g1 => absurd g1 (by decide), fun _ => ?_⟩)
    · have e : ypCl Z D j = ypNo 3 j := by
        rw [eD]
        show (if (Z.1 j).toInt = 17 ∨ (Z.1 j).toInt = 27 then _ else _) = _
        rw [if_pos (by omega)]
      rw [e]; exact hB
    obtain ⟨D', hD'⟩ : ∃ D', D = D' + 1 := ⟨D - 1, by omega⟩
    have eC : ypCl Z D j = ypBn (ypCl Z D' (j + 1)) (ypEm 17 0) := by
      rw [hD']
      show (if (Z.1 j).toInt = 17 then _ else _) = _
      rw [if_pos (by omega)]
    rw [eC] at k
    refine hsg S2 _ (j + 1) D' a hG2.2.1 (by omega) (by omega) (by omega) (fun r3 S4 hE4 _ h4 hM4 => ⟨fun g3 => ?_, fun g3 => k 0 S4 (EE_tr hE2 hE4) (Or.inl rfl) no0 (Or.inr ⟨rfl, MB_l (MX_0 hM4 g3)⟩)⟩)
    have o4 := h4 g3
    have hG4 := MG_t0 hn0 hG2 (MX_1 hM4 g3) hE4
    have hGU := MG_9 (x := fi S4 9 - 1) hG4
    have eF : Fr [9] [] [] [] S4 (si S4 9 (fi S4 9 - 1)) := Fr.si (by decide) Fr.rf
    have f9 : fi (si S4 9 (fi S4 9 - 1)) 9 = fi S4 9 - 1 := si_at _ _ _
    generalize si S4 9 (fi S4 9 - 1) = U at eF f9 hGU ⊢
    have t1 : fi U 1 = fi S4 1 := eF.1 1 (by decide)
    have t2 : fi U 2 = fi S4 2 := eF.1 2 (by decide)
    have t3 : fi U 3 = fi S4 3 := eF.1 3 (by decide)
    have t4 : fi U 4 = fi S4 4 := eF.1 4 (by decide)
    have tn := nn_fr eF (by decide)
    have hEU : EE S4 U := EE_fr (eF.wk (by decide))
    have hLU : Lx U := by
      have := o4.1
      unfold Lx at this ⊢
      rw [t1, t2, t3, t4, tn]; exact this
    have d4 : (fi S4 9).toInt = (fi S 9).toInt + 1 := by rw [o4.2.2.1]; exact e
    refine q_layE U 14 0 17 0 _ (nn_lx hLU) (by decide) (fun _ => rfl) Z Y _ hGU.2.1 (fun T hET hF h1 h2 hGT => ?_)
    have y1 := o4.2.1
    have y7 := hL.2.2.2.2.2.2
    have y4 := a.2.2.2.2.2.1
    have y5 := o4.1.2.2.2.2.2.1
    obtain ⟨p, q, r, t⟩ := GO_ly hLU hF h1 (by rw [tn, t4]; omega)
    refine k 1 T (EE_tr hE2 (EE_tr hE4 (EE_tr hEU hET))) (Or.inr rfl) (fun _ => ⟨p, ?_, ?_, ?_, ?_⟩) (Or.inl ⟨rfl, MG_tr hn0 hGU hGT hET⟩)
    · rw [t, t4]; omega
    · rw [q]
      exact i_eq (by rw [f9, sub1 (by omega)]; omega)
    · exact BM_tr bm (BM_tr o4.2.2.2.1 (BM_tr (BM_fr eF (by decide) (by decide)) r))
    · have en : (nn T).toNat = (nn S4).toNat + 1 := by omega
      rw [en, ← b]
      refine Seg_cat (EE_sx hET (by omega) (by omega) (EE_sx hEU y5 (by omega) o4.2.2.2.2)) (Seg_one ?_)
      rw [tn] at h2
      rw [h2]
      exact Or.inr (Or.inl ⟨by decide, by decide, rfl⟩)
set_option maxHeartbeats 800000 in
theorem q_fuelE (Z : TS) (Y : YT) : ∀ n : Nat, SGm (n : Int) Z Y (lpn w_X12_single_R (fun _ _ => False) n) := by
  intro n
  induction n with
  | zero => intro S post j D _ _ _ _ hd2 _; exact absurd hd2 (by omega)
  | succ n ih =>
    have h := q_singleE (n : Int) Z Y _ ih
    have e : ((n + 1 : Nat) : Int) = (n : Int) + 1 := by omega
    rw [e]
    exact h
set_option maxHeartbeats 800000 in
theorem q_askedE (S : GS) (post : Int32 → GS → Prop) (hL : Lx S) (Z : TS) (Y : YT) (j : Nat) (hz : MZ Z Y j S) (k : ∀ (r : Int32) (S' : GS), EE S S' → (r = 0 ∨ r = 1) → (r.toInt ≠ 0 → OKy S S') → MX Z Y S S' r (ypAny Z (ypCl Z 8) j) → post r S') : w_X12_asked S post := by
  unfold w_X12_asked w_X12_any
  have eF : Fr [9] [] [] [] S (si S 9 0) := Fr.si (by decide) Fr.rf
  have f9 : fi (si S 9 0) 9 = 0 := si_at _ _ _
  generalize si S 9 0 = U at eF f9 ⊢
  have t1 : fi U 1 = fi S 1 := eF.1 1 (by decide)
  have t2 : fi U 2 = fi S 2 := eF.1 2 (by decide)
  have t3 : fi U 3 = fi S 3 := eF.1 3 (by decide)
  have t4 : fi U 4 = fi S 4 := eF.1 4 (by decide)
  have t14 : fi U 14 = fi S 14 := eF.1 14 (by decide)
  have t15 : fi U 15 = fi S 15 := eF.1 15 (by decide)
  have tn := nn_fr eF (by decide)
  have hEU : EE S U := EE_fr (eF.wk (by decide))
  have hLU : Lx U := by
    unfold Lx at hL ⊢
    rw [t1, t2, t3, t4, tn]; exact hL
  have hzU : MZ Z Y j U := MZ_fr hz eF (by decide) (by rw [t14]; exact hz.2.2.2.2.2.2.2.1) (by rw [t15]; exact hz.2.2.2.2.2.2.2.2)
  have hMU : MG Z Y S U (ypOk j) := ⟨rfl, hzU, MO_0 tn (eF.1 6 (by decide)), t14, t15⟩
  refine q_anyE (10 : Nat) _ U _ hLU Z Y j hzU (q_fuelE Z Y 10) 8 (by rw [f9]; decide) (by decide) (by decide) (fun r S2 hE2 hr h2 hM2 => ⟨hr, k r S2 (EE_tr hEU hE2) hr (fun g => ?_) ?_⟩)
  · obtain ⟨a, b, c, d, e⟩ := h2 g
    rw [tn, t4] at b
    rw [tn] at e
    exact ⟨a, b, BM_tr (BM_fr eF (by decide) (by decide)) d, e⟩
  · rcases hM2 with h | h
    · exact Or.inl ⟨h.1, MG_t0 hL.2.2.2.2.2.1 hMU h.2 hE2⟩
    · exact Or.inr h

