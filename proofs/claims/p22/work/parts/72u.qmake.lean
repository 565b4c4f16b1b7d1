/-- the steps of text t from lo on are those of l -/
def RTx (S : GS) (t lo : Nat) (l : OL) : Prop := ∀ (i : Nat) (x : Int32 × Int32), l[i]? = some x → sx S t (2 * (lo + i)) = mS x.1 ∧ (x.1.toInt ≠ 14 → sx S t (2 * (lo + i) + 1) = x.2)
theorem RTx_cg {S S' : GS} {t t' lo : Nat} {l : OL} (h : RTx S t lo l) (e : ∀ i : Nat, i < 2 * (lo + l.length) → sx S' t' i = sx S t i) : RTx S' t' lo l := by
  intro i x hx
  have hl := gt_lt hx
  rw [e _ (by omega), e _ (by omega)]
  exact h i x hx
theorem MO_RT {S S' : GS} {l : OL} (h : MO S S' l) : RTx S' 13 (nn S).toNat l := h.2.1
theorem MG_rf {Z : TS} {Y : YT} {j : Nat} {S : GS} (h : MZ Z Y j S) : MG Z Y S S (ypOk j) := ⟨rfl, h, MO_0 rfl rfl, rfl, rfl⟩
theorem MB_c {Z : TS} {S : GS} {r r' : YR} (h : MB Z S r) (e1 : r'.1 = r.1) (e2 : r'.2.1 = r.2.1) : MB Z S r' := by
  unfold MB
  rw [e1, e2]
  exact h
theorem ypAm_p {Z : TS} {m : Bool} {j : Nat} (h : (Z.1 j).toInt = 24) : ypAm Z m j = ypSum Z (j + 1) := if_pos h
theorem ypAm_m {Z : TS} {m : Bool} {j : Nat} (hm : m = true) (h : (Z.1 j).toInt = 25) : ypAm Z m j = ypBn (ypBn (ypEm 2 0 (j + 1)) (ypSum Z)) (ypEm 25 0) := by
  unfold ypAm
  rw [if_neg (by omega), if_pos ⟨hm, h⟩]
theorem ypAm_n {Z : TS} {m : Bool} {j : Nat} (h : (Z.1 j).toInt ≠ 24) (g : m = true → (Z.1 j).toInt ≠ 25) : ypAm Z m j = ypNo 1 j := by
  unfold ypAm
  rw [if_neg h, if_neg (fun q => g q.1 q.2)]
/-- what an amount is, read with a sign or not -/
theorem ypAm_g {Z : TS} {m : Bool} {j : Nat} (ng : Bool) (h1 : ng = false → (Z.1 j).toInt = 24) (h2 : ng = true → (Z.1 j).toInt = 25 ∧ m = true) (hs : (ypSum Z (j + 1)).1 = 0) : (ypAm Z m j).1 = 0 ∧ (ypAm Z m j).2.1 = (ypSum Z (j + 1)).2.1 ∧ (ypAm Z m j).2.2.1 = (if ng = true then (2, 0) :: ((ypSum Z (j + 1)).2.2.1 ++ [(25, 0)]) else (ypSum Z (j + 1)).2.2.1) ∧ (ypAm Z m j).2.2.2.1 = (ypSum Z (j + 1)).2.2.2.1 ∧ (ypAm Z m j).2.2.2.2 = (ypSum Z (j + 1)).2.2.2.2 := by
  cases ng with
  | false =>
    rw [ypAm_p (h1 rfl)]
    exact ⟨hs, rfl, rfl, rfl, rfl⟩
  | true =>
    rw [ypAm_m (h2 rfl).2 (h2 rfl).1]
    have e1 : (ypBn (ypEm 2 0 (j + 1)) (ypSum Z)).1 = 0 := by
      rw [ypBn_g (show (ypEm 2 0 (j + 1)).1 = 0 from rfl)]
      exact hs
    rw [ypBn_g e1, ypBn_g (show (ypEm 2 0 (j + 1)).1 = 0 from rfl)]
    refine ⟨rfl, rfl, ?_, ?_, ?_⟩
    · simp [ypEm]
    · simp [ypEm]
    · simp [ypEm]
theorem ypAm_b {Z : TS} {m : Bool} {j : Nat} (ng : Bool) (h1 : ng = false → (Z.1 j).toInt = 24) (h2 : ng = true → (Z.1 j).toInt = 25 ∧ m = true) (hs : (ypSum Z (j + 1)).1 ≠ 0) : (ypAm Z m j).1 = (ypSum Z (j + 1)).1 ∧ (ypAm Z m j).2.1 = (ypSum Z (j + 1)).2.1 := by
  cases ng with
  | false =>
    rw [ypAm_p (h1 rfl)]
    exact ⟨rfl, rfl⟩
  | true =>
    rw [ypAm_m (h2 rfl).2 (h2 rfl).1]
    have e1 : (ypBn (ypEm 2 0 (j + 1)) (ypSum Z)).1 ≠ 0 := by
      rw [ypBn_g (show (ypEm 2 0 (j + 1)).1 = 0 from rfl)]
      exact hs
    rw [ypBn_b e1, ypBn_g (show (ypEm 2 0 (j + 1)).1 = 0 from rfl)]
    exact ⟨rfl, rfl⟩
/-- an amount at make m: k0 its kind, ops what the class has of it -/
def MKa (S : GS) (t m : Nat) (k0 : Int) (ops : OL) : Prop := ∃ (ng : Bool) (E : OL) (lo : Nat), (ar S 12 m).toInt = k0 + (if ng = true then 100 else 0) ∧ ops = (if ng = true then (2, 0) :: (E ++ [(25, 0)]) else E) ∧ 1 ≤ E.length ∧ (ar S 15 m).toInt = (lo : Int) ∧ (ar S 16 m).toInt = (lo : Int) + (E.length : Int) ∧ RTx S t lo E ∧ GdS E
set_option maxHeartbeats 1000000 in
theorem q_muchE (S : GS) (a b c : Nat) (m : Int32) (post : Int32 → GS → Prop) (Z : TS) (Y : YT) (j : Nat) (mm : Bool) (hz : MZ Z Y j S) (hmm : mm = true ∨ (Z.1 j).toInt = 24) (hL : Lx S) (hm : 0 ≤ m.toInt ∧ m.toInt < 108) (hx : c ≤ m.toInt.toNat) (hK0 : (ar S 12 m.toInt.toNat).toInt = 0 ∨ (ar S 12 m.toInt.toNat).toInt = 1 ∨ (ar S 12 m.toInt.toNat).toInt = 7) (h0 : (ar S 12 m.toInt.toNat).toInt = 0 → ((ar S 13 m.toInt.toNat).toInt = 0 ∨ ((ar S 13 m.toInt.toNat).toInt = 1 ∧ fi S 14 = 1))) (h1 : (ar S 12 m.toInt.toNat).toInt = 1 → (((ar S 13 m.toInt.toNat).toInt = 0 ∧ (ar S 14 m.toInt.toNat).toInt = 1) ∨ ((ar S 13 m.toInt.toNat).toInt = 1 ∧ (ar S 14 m.toInt.toNat).toInt = 0)) ∧ fi S 14 = 1) (k : ∀ (r : Int32) (S' : GS), KP a b c S S' → (r = 0 ∨ r = 1) → (r.toInt ≠ 0 → CHx S S' m.toInt.toNat) → ((r = 1 ∧ (ypAm Z mm j).1 = 0 ∧ MZ Z Y (ypAm Z mm j).2.1 S' ∧ fi S' 6 = fi S 6 ∧ fi S' 14 = orF (fi S 14) (ypAm Z mm j).2.2.2.1 ∧ fi S' 15 = orF (fi S 15) (ypAm Z mm j).2.2.2.2 ∧ ar S' 13 = ar S 13 ∧ ar S' 14 = ar S 14 ∧ MKa S' 13 m.toInt.toNat (ar S 12 m.toInt.toNat).toInt (ypAm Z mm j).2.2.1) ∨ (r = 0 ∧ MB Z S' (ypAm Z mm j))) → post r S') : w_X12_much S m post := by
  have em : m.toNatClampNeg = m.toInt.toNat := rfl
  have t43 := MZ_t hz 24 43 (by decide) (by decide)
  have t45 := MZ_t hz 25 45 (by decide) (by decide)
  have hn0 : 0 ≤ nn S := hL.2.2.2.2.2.1
  have b44 : ∀ (U : GS) (ng : Bool), KP a b c S U → Lx U → fi U 3 = fi S 3 → fi U 4 = fi S 4 → fi U 14 = fi S 14 → fi U 15 = fi S 15 → (0 ≤ (ar U 12 m.toInt.toNat).toInt ∧ (ar U 12 m.toInt.toNat).toInt ≤ 199) → (ar U 12 m.toInt.toNat).toInt % 100 = (ar S 12 m.toInt.toNat).toInt → ar U 13 = ar S 13 → ar U 14 = ar S 14 → MG Z Y S U (ypOk j) → (ar U 12 m.toInt.toNat).toInt = (ar S 12 m.toInt.toNat).toInt + (if ng = true then 100 else 0) → (ng = false → (Z.1 j).toInt = 24) → (ng = true → (Z.1 j).toInt = 25 ∧ mm = true) → w_X12_much_B44 post U m := by
    intro U ng hKU hLU u3 u4 u14 u15 uk1 uk2 u13 u141 hG0 uk3 ng1 ng2
    have hkj : (Z.1 j).toInt ≠ 0 := by
      cases ng with
      | false => have := ng1 rfl; omega
      | true => have := (ng2 rfl).1; omega
    have ht : (fi U 3).toInt ≠ 0 := fun g => hkj ((MZ_0 hG0.2.1).mp g)
    unfold w_X12_much_B44
    refine q_nextE _ _ Z Y j hG0.2.1 hkj (fun S2 hN hzN => ⟨by omega, ?_⟩)
    have hG := GO_nx hLU ht hN
    have hGN : MG Z Y S S2 (ypOk (j + 1)) := MG_t0 hn0 hG0 (MG_nx hzN hN) (NX_ee hN)
    rw [em]
    have eF : Fr [] [] [15] [] S2 (su S2 15 m.toInt.toNat (ar S2 6 13)) := Fr.su (by decide) Fr.rf
    have a15 : ar (su S2 15 m.toInt.toNat (ar S2 6 13)) 15 m.toInt.toNat = ar S2 6 13 := by
      have : ar (su S2 15 m.toInt.toNat (ar S2 6 13)) 15 = upd (ar S2 15) m.toInt.toNat (ar S2 6 13) := su_at _ _ _ _
      rw [this, upd_at]
    have hK15 : KP a b c S2 (su S2 15 m.toInt.toNat (ar S2 6 13)) := KP_s3 (by decide) hx
    generalize su S2 15 m.toInt.toNat (ar S2 6 13) = V at eF a15 hK15 ⊢
    have hLV := Lx_fr hG.1 eF (by decide) (by decide)
    have vn := nn_fr eF (by decide)
    have hGV : MG Z Y S V (ypOk (j + 1)) := MG_fr hGN eF (by decide) (by decide)
    refine q_sumUpE V _ hLV Z Y (j + 1) hGV.2.1 (fun r4 S5 hE5 _ h5 hM5 => ⟨fun g4 => ⟨by omega, ?_⟩, fun g4 => ?_⟩)
    rotate_left
    · have hb := MX_0 hM5 g4
      have e := ypAm_b (m := mm) ng ng1 ng2 hb.1
      exact k 0 S5 (KP_tr hKU (KP_tr (EE_kp (NX_ee hN)) (KP_tr hK15 (EE_kp hE5)))) (Or.inl rfl) no0 (Or.inr ⟨rfl, MB_c hb e.1 e.2⟩)
    have hG5 := MX_1 hM5 g4
    have o5 := h5 g4
    have eW : Fr [] [] [16] [] S5 (su S5 16 m.toInt.toNat (ar S5 6 13)) := Fr.su (by decide) Fr.rf
    have a16 : ar (su S5 16 m.toInt.toNat (ar S5 6 13)) 16 m.toInt.toNat = ar S5 6 13 := by
      have : ar (su S5 16 m.toInt.toNat (ar S5 6 13)) 16 = upd (ar S5 16) m.toInt.toNat (ar S5 6 13) := su_at _ _ _ _
      rw [this, upd_at]
    have hK16 : KP a b c S5 (su S5 16 m.toInt.toNat (ar S5 6 13)) := KP_s3 (by decide) hx
    generalize su S5 16 m.toInt.toNat (ar S5 6 13) = W at eW a16 hK16 ⊢
    have hLW := Lx_fr o5.1 eW (by decide) (by decide)
    have wn := nn_fr eW (by decide)
    have w4 : fi W 4 = fi S5 4 := eW.1 4 (by decide)
    have v4 : fi V 4 = fi S2 4 := eF.1 4 (by decide)
    have hbU : BM S U := ⟨Or.inl u14, Or.inl u15⟩
    have hb : BM S W := BM_tr hbU (BM_tr hG.2.2.2.2 (BM_tr (BM_fr eF (by decide) (by decide)) (BM_tr o5.2.2.2.1 (BM_fr eW (by decide) (by decide)))))
    have c12 : ar W 12 = ar U 12 := (eW.2.2.1 12 (by decide)).trans ((hE5.1.2.2.1 12 (by decide)).trans ((eF.2.2.1 12 (by decide)).trans (hN.1.2.2.1 12 (by decide))))
    have c13 : ar W 13 = ar S 13 := (eW.2.2.1 13 (by decide)).trans ((hE5.1.2.2.1 13 (by decide)).trans ((eF.2.2.1 13 (by decide)).trans ((hN.1.2.2.1 13 (by decide)).trans u13)))
    have c14 : ar W 14 = ar S 14 := (eW.2.2.1 14 (by decide)).trans ((hE5.1.2.2.1 14 (by decide)).trans ((eF.2.2.1 14 (by decide)).trans ((hN.1.2.2.1 14 (by decide)).trans u141)))
    have c15 : ar W 15 m.toInt.toNat = ar S2 6 13 := by
      have : ar W 15 = ar V 15 := (eW.2.2.1 15 (by decide)).trans (hE5.1.2.2.1 15 (by decide))
      rw [this, a15]
    have y1 := o5.2.1
    have y2 := hG.2.2.1
    have y3 := hE5.2.2.2
    have y4 := hG.1.2.2.2.2.2.1
    have y5 := nn_lx o5.1
    have y6 := o5.1.2.2.2.2.2.2
    have hGW : MG Z Y V W (ypSum Z (j + 1)) := MG_fr hG5 eW (by decide) (by decide)
    have hMO := hGW.2.2.1
    have yE := hMO.1
    have hne : (nn V).toNat ≠ (nn S5).toNat := by
      intro g
      obtain ⟨-, H, H0, H1, -⟩ := o5.2.2.2.2
      rw [g] at H0
      rw [H0] at H1
      exact absurd H1 (by decide)
    rw [u4] at y2
    obtain ⟨p1, p2, p3, p4, p5⟩ := ypAm_g (m := mm) ng ng1 ng2 hG5.1
    refine k 1 W (KP_tr hKU (KP_tr (EE_kp (NX_ee hN)) (KP_tr hK15 (KP_tr (EE_kp hE5) hK16)))) (Or.inr rfl) (fun _ => ⟨hLW, by rw [w4]; rw [v4] at y1; omega, hb, ⟨?_, fun _ => ?_, fun g => ?_, fun g => ?_, fun g => ?_⟩, fun _ => ?_⟩) (Or.inl ⟨rfl, p1, by rw [p2]; exact hGW.2.1, hGW.2.2.1.2.2.trans hGV.2.2.1.2.2, ?_, ?_, c13, c14, ng, (ypSum Z (j + 1)).2.2.1, (nn S2).toNat, by rw [c12]; exact uk3, p3, ?_, ?_, ?_, ?_, ?_⟩)
    · rw [c12]; exact uk1
    · rw [a16, c15]
      refine ⟨y4, by show 0 ≤ nn S5; omega, by show nn S5 ≤ 720; omega, ?_⟩
      have hs := o5.2.2.2.2
      rw [vn] at hs
      refine Seg_cg (fun i _ _ => ?_) hs
      show W.2.2.1 5 _ = S5.2.2.1 5 _
      rw [eW.2.2.1 5 (by decide)]
    · rw [c12, uk2] at g
      rw [c13]
      rcases h0 g with q | q
      · exact Or.inl q
      · exact Or.inr ⟨q.1, (BM_one hb).1 q.2⟩
    · rw [c12, uk2] at g
      rw [c13, c14]
      have := h1 (by omega)
      exact ⟨this.1, (BM_one hb).1 this.2⟩
    · rw [c12, uk2] at g; omega
    · rw [a16, wn]; exact Int.le_refl _
    · rw [p4, hGW.2.2.2.1]
      have : fi V 14 = orF (fi S 14) false := hGV.2.2.2.1
      rw [this, orF_or]; rfl
    · rw [p5, hGW.2.2.2.2]
      have : fi V 15 = orF (fi S 15) false := hGV.2.2.2.2
      rw [this, orF_or]; rfl
    · omega
    · rw [c15]
      show nn S2 = _
      omega
    · rw [a16]
      show nn S5 = _
      omega
    · have hR := MO_RT hMO
      rw [vn] at hR
      exact hR
    · have hzV := hGV.2.1
      have hv := STm_v hzV.1 (fun i hi => (hzV.2.2.1.2.2 i hi).2)
      exact (gd_sum hv.1 hv.2 (j + 1) hzV.2.1 hG5.1).2
  unfold w_X12_much
  have bad : ¬ ((Z.1 j).toInt = 24) → ¬ ((Z.1 j).toInt = 25) → w_X12_bad S 1 (fun r9 S10 => (r9 = 0 ∨ r9 = 1) ∧ post r9 S10) := by
    intro g1 g2
    refine ⟨Or.inl rfl, k 0 _ (EE_kp (EE_bad S 1)) (Or.inl rfl) no0 (Or.inr ⟨rfl, ?_⟩)⟩
    rw [ypAm_n g1 (fun _ => g2)]
    exact MB_bad hz 1 1 (by decide) (by decide)
  refine ⟨fun g => ?_, fun g => ⟨fun g2 => ?_, fun g2 => bad (fun q => g (t43.mpr q)) (fun q => g2 (t45.mpr q))⟩⟩
  · have g24 := t43.mp g
    unfold w_X12_much_B24
    exact ⟨fun _ => b44 S false (KP_rf a b c S) hL rfl rfl rfl rfl (by omega) (by omega) rfl rfl (MG_rf hz) (by simp) (fun _ => g24) (fun q => by cases q), fun q => by exfalso; omega⟩
  · have g25 := t45.mp g2
    unfold w_X12_much_B24
    refine ⟨fun q => absurd g2 q, fun _ => ⟨by omega, by omega, ?_⟩⟩
    rw [em]
    have eF : Fr [] [] [12] [] S (su S 12 m.toInt.toNat (ar S 12 m.toInt.toNat + 100)) := Fr.su (by decide) Fr.rf
    have a12 : (ar (su S 12 m.toInt.toNat (ar S 12 m.toInt.toNat + 100)) 12 m.toInt.toNat).toInt = (ar S 12 m.toInt.toNat).toInt + 100 := by
      have : ar (su S 12 m.toInt.toNat (ar S 12 m.toInt.toNat + 100)) 12 = upd (ar S 12) m.toInt.toNat (ar S 12 m.toInt.toNat + 100) := su_at _ _ _ _
      rw [this, upd_at, ad_ab (by rw [li_100]; omega) (by rw [li_100]; omega), li_100]
    have hK12 : KP a b c S (su S 12 m.toInt.toNat (ar S 12 m.toInt.toNat + 100)) := KP_s3 (by decide) hx
    have hGU : MG Z Y S (su S 12 m.toInt.toNat (ar S 12 m.toInt.toNat + 100)) (ypOk j) := MG_fr (MG_rf hz) eF (by decide) (by decide)
    generalize su S 12 m.toInt.toNat (ar S 12 m.toInt.toNat + 100) = U at eF a12 hK12 hGU ⊢
    exact b44 U true hK12 (Lx_fr hL eF (by decide) (by decide)) (eF.1 3 (by decide)) (eF.1 4 (by decide)) (eF.1 14 (by decide)) (eF.1 15 (by decide)) (by omega) (by omega) (eF.2.2.1 13 (by decide)) (eF.2.2.1 14 (by decide)) hGU (by rw [a12]; simp) (fun q => by cases q) (fun _ => ⟨g25, by rcases hmm with q | q; exact q; exfalso; omega⟩)
