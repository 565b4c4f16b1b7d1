abbrev KQ (a b c : Nat) (S S' : GS) : Prop := nn S ≤ nn S' ∧ (∀ i : Nat, (i : Int) < 18720 + 2 * nn S → ar S' 5 i = ar S 5 i) ∧ (∀ i, i ≠ 13 → ar S' 6 i = ar S 6 i) ∧ (∀ j, j ∈ [8, 9, 17, 18, 19, 20] → ∀ y, y < a → ar S' j y = ar S j y) ∧ (∀ j, j ∈ [10, 11] → ∀ i, i < b → ar S' j i = ar S j i) ∧ (∀ j, j ∈ [12, 13, 14, 15, 16] → ∀ i, i < c → ar S' j i = ar S j i)
abbrev KP (a b c : Nat) (S S' : GS) : Prop := Fr [2, 3, 4, 5, 6, 7, 9, 10, 11, 14, 15] [] [5, 6, 8, 9, 10, 11, 12, 13, 14, 15, 16, 17, 18, 19, 20] [] S S' ∧ KQ a b c S S'
theorem KQ_tr {a b c : Nat} {S S' S'' : GS} (h : KQ a b c S S') (g : KQ a b c S' S'') : KQ a b c S S'' := by
  obtain ⟨a2, a3, a4, a5, a6, a7⟩ := h
  obtain ⟨b2, b3, b4, b5, b6, b7⟩ := g
  exact ⟨by omega, fun i hi => (b3 i (by omega)).trans (a3 i hi), fun i hi => (b4 i hi).trans (a4 i hi), fun j hj y hy => (b5 j hj y hy).trans (a5 j hj y hy), fun j hj y hy => (b6 j hj y hy).trans (a6 j hj y hy), fun j hj y hy => (b7 j hj y hy).trans (a7 j hj y hy)⟩
theorem KQ_lo {a b c a' b' c' : Nat} {S S' : GS} (h : KQ a b c S S') (ha : a' ≤ a) (hb : b' ≤ b) (hc : c' ≤ c) : KQ a' b' c' S S' := by
  obtain ⟨a2, a3, a4, a5, a6, a7⟩ := h
  exact ⟨a2, a3, a4, fun j hj z hz => a5 j hj z (by omega), fun j hj z hz => a6 j hj z (by omega), fun j hj z hz => a7 j hj z (by omega)⟩
theorem KP_rf (a b c : Nat) (S : GS) : KP a b c S S := ⟨Fr.rf, Int.le_refl _, fun _ _ => rfl, fun _ _ => rfl, fun _ _ _ _ => rfl, fun _ _ _ _ => rfl, fun _ _ _ _ => rfl⟩
theorem KP_tr {a b c : Nat} {S S' S'' : GS} (h : KP a b c S S') (g : KP a b c S' S'') : KP a b c S S'' := ⟨h.1.tr g.1, KQ_tr h.2 g.2⟩
theorem KP_lo {a b c a' b' c' : Nat} {S S' : GS} (h : KP a b c S S') (ha : a' ≤ a) (hb : b' ≤ b) (hc : c' ≤ c) : KP a' b' c' S S' := ⟨h.1, KQ_lo h.2 ha hb hc⟩
/-- what all of a STATUTE's parser keeps -/
def KPx (S S' : GS) : Prop := Fr [2, 3, 4, 5, 6, 7, 9, 10, 11, 12, 14, 15] [] [5, 6, 8, 9, 10, 11, 12, 13, 14, 15, 16, 17, 18, 19, 20] [] S S' ∧ KQ 12 48 72 S S'
theorem KP_fr {a b c : Nat} {S S' : GS} (h : Fr [2, 3, 4, 5, 6, 7, 9, 10, 11, 14, 15] [] [5, 6] [] S S') (h2 : nn S ≤ nn S') (h3 : ∀ i : Nat, (i : Int) < 18720 + 2 * nn S → ar S' 5 i = ar S 5 i) (h4 : ∀ i, i ≠ 13 → ar S' 6 i = ar S 6 i) : KP a b c S S' := by
  have e : ∀ j, j ∉ [5, 6] → ar S' j = ar S j := fun j hj => h.2.2.1 j hj
  refine ⟨h.wk (by decide), h2, h3, h4, fun j hj y _ => ?_, fun j hj y _ => ?_, fun j hj y _ => ?_⟩
  · rw [e j (by rintro hq; revert hj; simp at hq; rcases hq with rfl | rfl <;> decide)]
  · rw [e j (by rintro hq; revert hj; simp at hq; rcases hq with rfl | rfl <;> decide)]
  · rw [e j (by rintro hq; revert hj; simp at hq; rcases hq with rfl | rfl <;> decide)]
theorem EE_kp {a b c : Nat} {S S' : GS} (h : EE S S') : KP a b c S S' := KP_fr (h.1.wk (by decide)) h.2.2.2 h.2.1 h.2.2.1
/-- a store at a place of ACT x -/
theorem KP_s1 {a b c j i : Nat} {v : Int32} {S : GS} (hj : j ∈ [8, 9, 17, 18, 19, 20]) (hi : a ≤ i) : KP a b c S (su S j i v) := by
  have hj1 : j ∈ [5, 6, 8, 9, 10, 11, 12, 13, 14, 15, 16, 17, 18, 19, 20] := by (try clear hn hj1); revert hj; revert j; decide
  have hn : ∀ q, q ≠ j → ar (su S j i v) q = ar S q := fun q hq => su_ne hq
  have h5 : j ≠ 5 ∧ j ≠ 6 ∧ j ∉ [10, 11] ∧ j ∉ [12, 13, 14, 15, 16] := by (try clear hn hj1); revert hj; revert j; decide
  refine ⟨Fr.su hj1 Fr.rf, ?_, ?_, ?_, ?_, ?_, ?_⟩
  · show (ar S 6 13).toInt ≤ (ar (su S j i v) 6 13).toInt
    rw [hn 6 (fun e => h5.2.1 e.symm)]; exact Int.le_refl _
  · intro q _; rw [hn 5 (fun e => h5.1 e.symm)]
  · intro q _; rw [hn 6 (fun e => h5.2.1 e.symm)]
  · intro q hq y hy
    by_cases e : q = j
    · subst e
      have : ar (su S q i v) q = upd (ar S q) i v := su_at _ _ _ _
      rw [this, upd_ne (by omega)]
    · rw [hn q e]
  · intro q hq y _; rw [hn q (fun e => h5.2.2.1 (e ▸ hq))]
  · intro q hq y _; rw [hn q (fun e => h5.2.2.2 (e ▸ hq))]
theorem KP_s2 {a b c j i : Nat} {v : Int32} {S : GS} (hj : j ∈ [10, 11]) (hi : b ≤ i) : KP a b c S (su S j i v) := by
  have hj1 : j ∈ [5, 6, 8, 9, 10, 11, 12, 13, 14, 15, 16, 17, 18, 19, 20] := by (try clear hn hj1); revert hj; revert j; decide
  have hn : ∀ q, q ≠ j → ar (su S j i v) q = ar S q := fun q hq => su_ne hq
  have h5 : j ≠ 5 ∧ j ≠ 6 ∧ j ∉ [8, 9, 17, 18, 19, 20] ∧ j ∉ [12, 13, 14, 15, 16] := by (try clear hn hj1); revert hj; revert j; decide
  refine ⟨Fr.su hj1 Fr.rf, ?_, ?_, ?_, ?_, ?_, ?_⟩
  · show (ar S 6 13).toInt ≤ (ar (su S j i v) 6 13).toInt
    rw [hn 6 (fun e => h5.2.1 e.symm)]; exact Int.le_refl _
  · intro q _; rw [hn 5 (fun e => h5.1 e.symm)]
  · intro q _; rw [hn 6 (fun e => h5.2.1 e.symm)]
  · intro q hq y _; rw [hn q (fun e => h5.2.2.1 (e ▸ hq))]
  · intro q hq y hy
    by_cases e : q = j
    · subst e
      have : ar (su S q i v) q = upd (ar S q) i v := su_at _ _ _ _
      rw [this, upd_ne (by omega)]
    · rw [hn q e]
  · intro q hq y _; rw [hn q (fun e => h5.2.2.2 (e ▸ hq))]
theorem KP_s3 {a b c j i : Nat} {v : Int32} {S : GS} (hj : j ∈ [12, 13, 14, 15, 16]) (hi : c ≤ i) : KP a b c S (su S j i v) := by
  have hj1 : j ∈ [5, 6, 8, 9, 10, 11, 12, 13, 14, 15, 16, 17, 18, 19, 20] := by (try clear hn hj1); revert hj; revert j; decide
  have hn : ∀ q, q ≠ j → ar (su S j i v) q = ar S q := fun q hq => su_ne hq
  have h5 : j ≠ 5 ∧ j ≠ 6 ∧ j ∉ [8, 9, 17, 18, 19, 20] ∧ j ∉ [10, 11] := by (try clear hn hj1); revert hj; revert j; decide
  refine ⟨Fr.su hj1 Fr.rf, ?_, ?_, ?_, ?_, ?_, ?_⟩
  · show (ar S 6 13).toInt ≤ (ar (su S j i v) 6 13).toInt
    rw [hn 6 (fun e => h5.2.1 e.symm)]; exact Int.le_refl _
  · intro q _; rw [hn 5 (fun e => h5.1 e.symm)]
  · intro q _; rw [hn 6 (fun e => h5.2.1 e.symm)]
  · intro q hq y _; rw [hn q (fun e => h5.2.2.1 (e ▸ hq))]
  · intro q hq y _; rw [hn q (fun e => h5.2.2.2 (e ▸ hq))]
  · intro q hq y hy
    by_cases e : q = j
    · subst e
      have : ar (su S q i v) q = upd (ar S q) i v := su_at _ _ _ _
      rw [this, upd_ne (by omega)]
    · rw [hn q e]
theorem Lx_fr {I L A M : List Nat} {S S' : GS} (hL : Lx S) (h : Fr I L A M S S') (h1 : 1 ∉ I ∧ 2 ∉ I ∧ 3 ∉ I ∧ 4 ∉ I) (h6 : 6 ∉ A) : Lx S' := by
  have t1 : fi S' 1 = fi S 1 := h.1 1 h1.1
  have t2 : fi S' 2 = fi S 2 := h.1 2 h1.2.1
  have t3 : fi S' 3 = fi S 3 := h.1 3 h1.2.2.1
  have t4 : fi S' 4 = fi S 4 := h.1 4 h1.2.2.2
  have tn := nn_fr h h6
  unfold Lx at hL ⊢
  rw [t1, t2, t3, t4, tn]; exact hL
/-- a make as it is read: B and T say that b and a THING stand there -/
def MakeC (S : GS) (t m : Nat) (B T : Prop) : Prop := (0 ≤ (ar S 12 m).toInt ∧ (ar S 12 m).toInt ≤ 199) ∧ ((ar S 16 m).toInt ≠ (ar S 15 m).toInt → 0 ≤ (ar S 15 m).toInt ∧ 0 ≤ (ar S 16 m).toInt ∧ (ar S 16 m).toInt ≤ 720 ∧ Seg (sx S t) (ar S 15 m).toInt.toNat (ar S 16 m).toInt.toNat 0 1) ∧ ((ar S 12 m).toInt % 100 = 0 → ((ar S 13 m).toInt = 0 ∨ ((ar S 13 m).toInt = 1 ∧ B))) ∧ ((ar S 12 m).toInt % 100 = 1 ∨ (ar S 12 m).toInt % 100 = 4 ∨ (ar S 12 m).toInt % 100 = 5 ∨ (ar S 12 m).toInt % 100 = 6 → (((ar S 13 m).toInt = 0 ∧ (ar S 14 m).toInt = 1) ∨ ((ar S 13 m).toInt = 1 ∧ (ar S 14 m).toInt = 0)) ∧ B) ∧ ((ar S 12 m).toInt % 100 = 2 → T)
/-- behind a change at m that was read -/
def CHx (S S' : GS) (m : Nat) : Prop := Lx S' ∧ (fi S 4).toInt < (fi S' 4).toInt ∧ BM S S' ∧ MakeC S' 13 m (fi S' 14 = 1) (fi S' 15 = 1) ∧ ((ar S' 16 m).toInt ≠ (ar S' 15 m).toInt → (ar S' 16 m).toInt ≤ nn S')
theorem MakeC_cg {S S' : GS} {m : Nat} {B T B' T' : Prop} (h : MakeC S 13 m B T) (hn : (ar S 16 m).toInt ≠ (ar S 15 m).toInt → (ar S 16 m).toInt ≤ nn S) (hB : B → B') (hT : T → T') (h5 : ∀ i : Nat, (i : Int) < 18720 + 2 * nn S → ar S' 5 i = ar S 5 i) (h12 : ar S' 12 m = ar S 12 m) (h13 : ar S' 13 m = ar S 13 m) (h14 : ar S' 14 m = ar S 14 m) (h15 : ar S' 15 m = ar S 15 m) (h16 : ar S' 16 m = ar S 16 m) : MakeC S' 13 m B' T' := by
  unfold MakeC at h ⊢
  rw [h12, h13, h14, h15, h16]
  obtain ⟨a, b, c, d, e⟩ := h
  refine ⟨a, fun g => ?_, fun g => ?_, fun g => ?_, fun g => hT (e g)⟩
  · obtain ⟨b1, b2, b3, b4⟩ := b g
    have := hn g
    refine ⟨b1, b2, b3, Seg_cg (fun i p q => ?_) b4⟩
    show ar S' 5 (1440 * 13 + 2 * i) = ar S 5 (1440 * 13 + 2 * i)
    exact h5 _ (by omega)
  · rcases c g with q | q
    · exact Or.inl q
    · exact Or.inr ⟨q.1, hB q.2⟩
  · have := d g
    exact ⟨this.1, hB this.2⟩
theorem BM_one {S S' : GS} (h : BM S S') : (fi S 14 = 1 → fi S' 14 = 1) ∧ (fi S 15 = 1 → fi S' 15 = 1) := by
  refine ⟨fun g => ?_, fun g => ?_⟩
  · rcases h.1 with e | e
    · rw [e]; exact g
    · exact e
  · rcases h.2 with e | e
    · rw [e]; exact g
    · exact e
set_option maxHeartbeats 400000 in
theorem q_much (S : GS) (a b c : Nat) (m : Int32) (post : Int32 → GS → Prop) (hL : Lx S) (hm : 0 ≤ m.toInt ∧ m.toInt < 108) (hx : c ≤ m.toInt.toNat) (hK0 : (ar S 12 m.toInt.toNat).toInt = 0 ∨ (ar S 12 m.toInt.toNat).toInt = 1 ∨ (ar S 12 m.toInt.toNat).toInt = 7) (h0 : (ar S 12 m.toInt.toNat).toInt = 0 → ((ar S 13 m.toInt.toNat).toInt = 0 ∨ ((ar S 13 m.toInt.toNat).toInt = 1 ∧ fi S 14 = 1))) (h1 : (ar S 12 m.toInt.toNat).toInt = 1 → (((ar S 13 m.toInt.toNat).toInt = 0 ∧ (ar S 14 m.toInt.toNat).toInt = 1) ∨ ((ar S 13 m.toInt.toNat).toInt = 1 ∧ (ar S 14 m.toInt.toNat).toInt = 0)) ∧ fi S 14 = 1) (k : ∀ (r : Int32) (S' : GS), KP a b c S S' → (r = 0 ∨ r = 1) → (r.toInt ≠ 0 → CHx S S' m.toInt.toNat) → post r S') : w_X12_much S m post := by
  have em : m.toNatClampNeg = m.toInt.toNat := rfl
  have b44 : ∀ U : GS, KP a b c S U → Lx U → (fi U 3).toInt ≠ 0 → fi U 4 = fi S 4 → fi U 14 = fi S 14 → fi U 15 = fi S 15 → (0 ≤ (ar U 12 m.toInt.toNat).toInt ∧ (ar U 12 m.toInt.toNat).toInt ≤ 199) → (ar U 12 m.toInt.toNat).toInt % 100 = (ar S 12 m.toInt.toNat).toInt → ar U 13 = ar S 13 → ar U 14 = ar S 14 → w_X12_much_B44 post U m := by
    intro U hKU hLU ht u4 u14 u15 uk1 uk2 u13 u141
    unfold w_X12_much_B44
    refine q_next0 _ _ (NX_pre hLU) (fun S2 hN => ⟨by omega, ?_⟩)
    have hG := GO_nx hLU ht hN
    rw [em]
    have eF : Fr [] [] [15] [] S2 (su S2 15 m.toInt.toNat (ar S2 6 13)) := Fr.su (by decide) Fr.rf
    have a15 : ar (su S2 15 m.toInt.toNat (ar S2 6 13)) 15 m.toInt.toNat = ar S2 6 13 := by
      have : ar (su S2 15 m.toInt.toNat (ar S2 6 13)) 15 = upd (ar S2 15) m.toInt.toNat (ar S2 6 13) := su_at _ _ _ _
      rw [this, upd_at]
    have hK15 : KP a b c S2 (su S2 15 m.toInt.toNat (ar S2 6 13)) := KP_s3 (by decide) hx
    generalize su S2 15 m.toInt.toNat (ar S2 6 13) = V at eF a15 hK15 ⊢
    have hLV := Lx_fr hG.1 eF (by decide) (by decide)
    have vn := nn_fr eF (by decide)
    refine q_sumUp V _ hLV (fun r4 S5 hE5 _ h5 => ⟨fun g4 => ⟨by omega, ?_⟩, fun _ => k 0 S5 (KP_tr hKU (KP_tr (EE_kp (NX_ee hN)) (KP_tr hK15 (EE_kp hE5)))) (Or.inl rfl) no0⟩)
    have o5 := h5 g4
    have eW : Fr [] [] [16] [] S5 (su S5 16 m.toInt.toNat (ar S5 6 13)) := Fr.su (by decide) Fr.rf
    have a16 : ar (su S5 16 m.toInt.toNat (ar S5 6 13)) 16 m.toInt.toNat = ar S5 6 13 := by
      have : ar (su S5 16 m.toInt.toNat (ar S5 6 13)) 16 = upd (ar S5 16) m.toInt.toNat (ar S5 6 13) := su_at _ _ _ _
      rw [this, upd_at]
    have hK16 : KP a b c S5 (su S5 16 m.toInt.toNat (ar S5 6 13)) := KP_s3 (by decide) hx
    generalize su S5 16 m.toInt.toNat (ar S5 6 13) = W at eW a16 hK16 ⊢
    have hLW := Lx_fr o5.1 eW (by decide) (by decide)
    have wn := nn_fr eW (by decide)
    have w4 : fi W 4 = fi S5 4 := eW.1 4 (by decide)
    have v4 : fi V 4 = fi S2 4 := eF.1 4 (by decide)
    have hbU : BM S U := ⟨Or.inl u14, Or.inl u15⟩
    have hb : BM S W := BM_tr hbU (BM_tr hG.2.2.2.2 (BM_tr (BM_fr eF (by decide) (by decide)) (BM_tr o5.2.2.2.1 (BM_fr eW (by decide) (by decide)))))
    have c12 : ar W 12 = ar U 12 := (eW.2.2.1 12 (by decide)).trans ((hE5.1.2.2.1 12 (by decide)).trans ((eF.2.2.1 12 (by decide)).trans (hN.1.2.2.1 12 (by decide))))
    have c13 : ar W 13 = ar S 13 := (eW.2.2.1 13 (by decide)).trans ((hE5.1.2.2.1 13 (by decide)).trans ((eF.2.2.1 13 (by decide)).trans ((hN.1.2.2.1 13 (by decide)).trans u13)))
    have c14 : ar W 14 = ar S 14 := (eW.2.2.1 14 (by decide)).trans ((hE5.1.2.2.1 14 (by decide)).trans ((eF.2.2.1 14 (by decide)).trans ((hN.1.2.2.1 14 (by decide)).trans u141)))
    have c15 : ar W 15 m.toInt.toNat = ar S2 6 13 := by
      have : ar W 15 = ar V 15 := (eW.2.2.1 15 (by decide)).trans (hE5.1.2.2.1 15 (by decide))
      rw [this, a15]
    have y1 := o5.2.1
    have y2 := hG.2.2.1
    have y3 := hE5.2.2.2
    have y4 := hG.1.2.2.2.2.2.1
    have y5 := nn_lx o5.1
    have y6 := o5.1.2.2.2.2.2.2
    rw [u4] at y2
    refine k 1 W (KP_tr hKU (KP_tr (EE_kp (NX_ee hN)) (KP_tr hK15 (KP_tr (EE_kp hE5) hK16)))) (Or.inr rfl) (fun _ => ⟨hLW, by rw [w4]; rw [v4] at y1; omega, hb, ⟨?_, fun _ => ?_, fun g => ?_, fun g => ?_, fun g => ?_⟩, fun _ => ?_⟩)
    · rw [c12]; exact uk1
    · rw [a16, c15]
      refine ⟨y4, by show 0 ≤ nn S5; omega, by show nn S5 ≤ 720; omega, ?_⟩
      have hs := o5.2.2.2.2
      rw [vn] at hs
      refine Seg_cg (fun i _ _ => ?_) hs
      show W.2.2.1 5 _ = S5.2.2.1 5 _
      rw [eW.2.2.1 5 (by decide)]
    · rw [c12, uk2] at g
      rw [c13]
      rcases h0 g with q | q
      · exact Or.inl q
      · exact Or.inr ⟨q.1, (BM_one hb).1 q.2⟩
    · rw [c12, uk2] at g
      rw [c13, c14]
      have := h1 (by omega)
      exact ⟨this.1, (BM_one hb).1 this.2⟩
    · rw [c12, uk2] at g; omega
    · rw [a16, wn]; exact Int.le_refl _
  have b24 : (fi S 3).toInt ≠ 0 → w_X12_much_B24 post S m := by
    intro ht
    unfold w_X12_much_B24
    refine ⟨fun _ => b44 S (KP_rf a b c S) hL ht rfl rfl rfl (by omega) (by omega) rfl rfl, fun _ => ⟨by omega, by omega, ?_⟩⟩
    rw [em]
    have eF : Fr [] [] [12] [] S (su S 12 m.toInt.toNat (ar S 12 m.toInt.toNat + 100)) := Fr.su (by decide) Fr.rf
    have a12 : (ar (su S 12 m.toInt.toNat (ar S 12 m.toInt.toNat + 100)) 12 m.toInt.toNat).toInt = (ar S 12 m.toInt.toNat).toInt + 100 := by
      have : ar (su S 12 m.toInt.toNat (ar S 12 m.toInt.toNat + 100)) 12 = upd (ar S 12) m.toInt.toNat (ar S 12 m.toInt.toNat + 100) := su_at _ _ _ _
      rw [this, upd_at]
      simp (disch := omega) only [Int32.toInt_add, Int32.toInt_sub, Int32.toInt_mul, Int32.toInt_neg, Int32.toInt_div, li_0, li_1, li_2, li_3, li_4, li_5, li_6, li_7, li_8, li_9, li_10, li_11, li_12, li_13, li_14, li_15, li_16, li_20, li_21, li_22, li_23, li_24, li_25, li_26, li_27, li_28, li_29, li_30, li_31, li_32, li_35, li_36, li_40, li_41, li_42, li_43, li_45, li_48, li_50, li_51, li_57, li_59, li_60, li_61, li_62, li_63, li_64, li_97, li_99, li_100, li_122, li_200, li_255, li_302, li_303, li_304, li_305, li_306, li_307, li_308, li_309, li_310, li_311, li_312, li_313, li_314, li_315, li_316, li_317, li_318, li_319, li_400, li_700, li_701, li_720, li_767, li_768, li_999, li_1000, li_1023, li_1024, li_1440, li_18720, tdv, bm, tnc]
    have hK12 : KP a b c S (su S 12 m.toInt.toNat (ar S 12 m.toInt.toNat + 100)) := KP_s3 (by decide) hx
    generalize su S 12 m.toInt.toNat (ar S 12 m.toInt.toNat + 100) = U at eF a12 hK12 ⊢
    exact b44 U hK12 (Lx_fr hL eF (by decide) (by decide)) (by have : fi U 3 = fi S 3 := eF.1 3 (by decide); rw [this]; exact ht) (eF.1 4 (by decide)) (eF.1 14 (by decide)) (eF.1 15 (by decide)) (by omega) (by omega) (eF.2.2.1 13 (by decide)) (eF.2.2.1 14 (by decide))
  unfold w_X12_much
  exact ⟨fun g => b24 (by omega), fun _ => ⟨fun g => b24 (by omega), fun _ => ⟨Or.inl rfl, k 0 _ (EE_kp (EE_bad S 1)) (Or.inl rfl) no0⟩⟩⟩
