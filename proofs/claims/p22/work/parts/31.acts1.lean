theorem ad_ab {a b : Int32} (h1 : -2147483648 ≤ a.toInt + b.toInt) (h2 : a.toInt + b.toInt ≤ 2147483647) : (a + b).toInt = a.toInt + b.toInt := by
  rw [Int32.toInt_add]
  exact bm h1 h2
set_option maxHeartbeats 400000 in
theorem q_change (S : GS) (a b c : Nat) (m : Int32) (post : Int32 → GS → Prop) (hL : Lx S) (hm : 0 ≤ m.toInt ∧ m.toInt < 108) (hx : c ≤ m.toInt.toNat) (k : ∀ (r : Int32) (S' : GS), KP a b c S S' → (r = 0 ∨ r = 1) → (r.toInt ≠ 0 → CHx S S' m.toInt.toNat) → post r S') : w_X12_change S m post := by
  have em : m.toNatClampNeg = m.toInt.toNat := rfl
  have no : post 0 (si (si S 6 1) 7 (fi S 4)) := k 0 _ (EE_kp (EE_bad S 1)) (Or.inl rfl) no0
  have b51 : ((fi S 3).toInt = 304 ∨ (fi S 3).toInt = 305 ∨ (fi S 3).toInt = 306 ∨ (308 ≤ (fi S 3).toInt ∧ (fi S 3).toInt ≤ 311)) → w_X12_change_B51 post S m (fi S 3) := by
    intro htk
    obtain ⟨t, ht⟩ : ∃ t, fi S 3 = t := ⟨_, rfl⟩
    rw [ht] at htk ⊢
    unfold w_X12_change_B51
    rw [em]
    refine ⟨hm, hm, hm, ?_⟩
    have e304 : (t - 304).toInt = t.toInt - 304 := by simp (disch := omega) only [Int32.toInt_add, Int32.toInt_sub, Int32.toInt_mul, Int32.toInt_neg, Int32.toInt_div, li_0, li_1, li_2, li_3, li_4, li_5, li_6, li_7, li_8, li_9, li_10, li_11, li_12, li_13, li_14, li_15, li_16, li_20, li_21, li_22, li_23, li_24, li_25, li_26, li_27, li_28, li_29, li_30, li_31, li_32, li_35, li_36, li_40, li_41, li_42, li_43, li_45, li_48, li_50, li_51, li_57, li_59, li_60, li_61, li_62, li_63, li_64, li_97, li_99, li_100, li_122, li_200, li_255, li_302, li_303, li_304, li_305, li_306, li_307, li_308, li_309, li_310, li_311, li_312, li_313, li_314, li_315, li_316, li_317, li_318, li_319, li_400, li_700, li_701, li_720, li_767, li_768, li_999, li_1000, li_1023, li_1024, li_1440, li_18720, tdv, bm, tnc]
    have eF : Fr [] [] [12, 15, 16] [] S (su (su (su S 12 m.toInt.toNat (t - 304)) 15 m.toInt.toNat 0) 16 m.toInt.toNat 0) := Fr.su (by decide) (Fr.su (by decide) (Fr.su (by decide) Fr.rf))
    have a12 : (ar (su (su (su S 12 m.toInt.toNat (t - 304)) 15 m.toInt.toNat 0) 16 m.toInt.toNat 0) 12 m.toInt.toNat).toInt = t.toInt - 304 := by
      have : ar (su (su (su S 12 m.toInt.toNat (t - 304)) 15 m.toInt.toNat 0) 16 m.toInt.toNat 0) 12 = upd (ar S 12) m.toInt.toNat (t - 304) := (su_ne (by decide)).trans ((su_ne (by decide)).trans (su_at _ _ _ _))
      rw [this, upd_at, e304]
    have a15 : (ar (su (su (su S 12 m.toInt.toNat (t - 304)) 15 m.toInt.toNat 0) 16 m.toInt.toNat 0) 15 m.toInt.toNat).toInt = 0 := by
      have : ar (su (su (su S 12 m.toInt.toNat (t - 304)) 15 m.toInt.toNat 0) 16 m.toInt.toNat 0) 15 = upd (ar (su S 12 m.toInt.toNat (t - 304)) 15) m.toInt.toNat 0 := (su_ne (by decide)).trans (su_at _ _ _ _)
      rw [this, upd_at]; decide
    have a16 : (ar (su (su (su S 12 m.toInt.toNat (t - 304)) 15 m.toInt.toNat 0) 16 m.toInt.toNat 0) 16 m.toInt.toNat).toInt = 0 := by
      have : ar (su (su (su S 12 m.toInt.toNat (t - 304)) 15 m.toInt.toNat 0) 16 m.toInt.toNat 0) 16 = upd (ar (su (su S 12 m.toInt.toNat (t - 304)) 15 m.toInt.toNat 0) 16) m.toInt.toNat 0 := su_at _ _ _ _
      rw [this, upd_at]; decide
    have hKU : KP a b c S (su (su (su S 12 m.toInt.toNat (t - 304)) 15 m.toInt.toNat 0) 16 m.toInt.toNat 0) := KP_tr (KP_s3 (by decide) hx) (KP_tr (KP_s3 (by decide) hx) (KP_s3 (by decide) hx))
    generalize su (su (su S 12 m.toInt.toNat (t - 304)) 15 m.toInt.toNat 0) 16 m.toInt.toNat 0 = U at eF a12 a15 a16 hKU ⊢
    clear e304
    have hLU := Lx_fr hL eF (by decide) (by decide)
    have u3 : fi U 3 = t := (eF.1 3 (by decide)).trans ht
    have u4 : fi U 4 = fi S 4 := eF.1 4 (by decide)
    refine q_next0 _ _ (NX_pre hLU) (fun S5 hN => ?_)
    have hG := GO_nx hLU (by rw [u3]; omega) hN
    have hK5 : KP a b c S S5 := KP_tr hKU (EE_kp (NX_ee hN))
    have hb5 : BM S S5 := BM_tr (BM_fr eF (by decide) (by decide)) hG.2.2.2.2
    have y4 : (fi S 4).toInt < (fi S5 4).toInt := by have := hG.2.2.1; rw [u4] at this; exact this
    have c12 : (ar S5 12 m.toInt.toNat).toInt = t.toInt - 304 := by
      have : ar S5 12 = ar U 12 := hN.1.2.2.1 12 (by decide)
      rw [this, a12]
    have c15 : (ar S5 15 m.toInt.toNat).toInt = 0 := by
      have : ar S5 15 = ar U 15 := hN.1.2.2.1 15 (by decide)
      rw [this, a15]
    have c16 : (ar S5 16 m.toInt.toNat).toInt = 0 := by
      have : ar S5 16 = ar U 16 := hN.1.2.2.1 16 (by decide)
      rw [this, a16]
    -- an amount
    have muchy : ∀ V : GS, KP a b c S V → Lx V → (fi S 4).toInt < (fi V 4).toInt → BM S V → (ar V 12 m.toInt.toNat).toInt = t.toInt - 304 → (t.toInt = 304 ∨ t.toInt = 305 ∨ t.toInt = 311) → (t.toInt = 304 → ((ar V 13 m.toInt.toNat).toInt = 0 ∨ ((ar V 13 m.toInt.toNat).toInt = 1 ∧ fi V 14 = 1))) → (t.toInt = 305 → (((ar V 13 m.toInt.toNat).toInt = 0 ∧ (ar V 14 m.toInt.toNat).toInt = 1) ∨ ((ar V 13 m.toInt.toNat).toInt = 1 ∧ (ar V 14 m.toInt.toNat).toInt = 0)) ∧ fi V 14 = 1) → ∀ P : Int32 → GS → Prop, (∀ (r : Int32) (S' : GS), (r = 0 ∨ r = 1) → (r.toInt ≠ 0 → post 1 S') → (r.toInt = 0 → post 0 S') → P r S') → w_X12_much V m P := by
      intro V hKV hLV v4 hbV v12 hkind h0 h1 P hP
      refine q_much V a b c m P hLV hm hx (by omega) (fun g => h0 (by omega)) (fun g => h1 (by omega)) (fun r S' hK' hr hc => hP r S' hr (fun g => ?_) (fun _ => k 0 S' (KP_tr hKV hK') (Or.inl rfl) no0))
      obtain ⟨a, b, c, d, e⟩ := hc g
      exact k 1 S' (KP_tr hKV hK') (Or.inr rfl) (fun _ => ⟨a, by omega, BM_tr hbV c, d, e⟩)
    -- no amount
    have plain : ∀ V : GS, KP a b c S V → Lx V → (fi S 4).toInt < (fi V 4).toInt → BM S V → (ar V 12 m.toInt.toNat).toInt = t.toInt - 304 → (ar V 15 m.toInt.toNat).toInt = 0 → (ar V 16 m.toInt.toNat).toInt = 0 → (t.toInt = 306 ∨ (308 ≤ t.toInt ∧ t.toInt ≤ 310)) → (t.toInt = 306 → fi V 15 = 1) → (308 ≤ t.toInt → (((ar V 13 m.toInt.toNat).toInt = 0 ∧ (ar V 14 m.toInt.toNat).toInt = 1) ∨ ((ar V 13 m.toInt.toNat).toInt = 1 ∧ (ar V 14 m.toInt.toNat).toInt = 0)) ∧ fi V 14 = 1) → post 1 V := by
      intro V hKV hLV v4 hbV v12 v15 v16 hkind h6 h8
      refine k 1 V hKV (Or.inr rfl) (fun _ => ⟨hLV, v4, hbV, ⟨by omega, fun g => absurd (v16.trans v15.symm) g, fun g => by omega, fun g => h8 (by omega), fun g => h6 (by omega)⟩, fun g => absurd (v16.trans v15.symm) g⟩)
    -- the persons are read
    have b178 : ∀ V : GS, KP a b c S V → Lx V → (fi S 4).toInt < (fi V 4).toInt → BM S V → (ar V 12 m.toInt.toNat).toInt = t.toInt - 304 → (ar V 15 m.toInt.toNat).toInt = 0 → (ar V 16 m.toInt.toNat).toInt = 0 → (t.toInt = 306 → fi V 15 = 1) → (t.toInt = 304 → ((fi V 10).toInt = 0 ∨ ((fi V 10).toInt = 1 ∧ fi V 14 = 1))) → (t.toInt ≠ 304 → t.toInt ≠ 306 → (((fi V 10).toInt = 0 ∧ (fi V 11).toInt = 1) ∨ ((fi V 10).toInt = 1 ∧ (fi V 11).toInt = 0)) ∧ fi V 14 = 1) → t.toInt ≠ 311 → w_X12_change_B178 post V m t := by
      intro V hKV hLV v4 hbV v12 v15 v16 h6 h1 h2 h7
      unfold w_X12_change_B178
      rw [em]
      refine ⟨hm, hm, ?_⟩
      have vF : Fr [] [] [13, 14] [] V (su (su V 13 m.toInt.toNat (fi V 10)) 14 m.toInt.toNat (fi V 11)) := Fr.su (by decide) (Fr.su (by decide) Fr.rf)
      have w13 : ar (su (su V 13 m.toInt.toNat (fi V 10)) 14 m.toInt.toNat (fi V 11)) 13 m.toInt.toNat = fi V 10 := by
        have : ar (su (su V 13 m.toInt.toNat (fi V 10)) 14 m.toInt.toNat (fi V 11)) 13 = upd (ar V 13) m.toInt.toNat (fi V 10) := (su_ne (by decide)).trans (su_at _ _ _ _)
        rw [this, upd_at]
      have w14 : ar (su (su V 13 m.toInt.toNat (fi V 10)) 14 m.toInt.toNat (fi V 11)) 14 m.toInt.toNat = fi V 11 := by
        have : ar (su (su V 13 m.toInt.toNat (fi V 10)) 14 m.toInt.toNat (fi V 11)) 14 = upd (ar (su V 13 m.toInt.toNat (fi V 10)) 14) m.toInt.toNat (fi V 11) := su_at _ _ _ _
        rw [this, upd_at]
      have hKW : KP a b c V (su (su V 13 m.toInt.toNat (fi V 10)) 14 m.toInt.toNat (fi V 11)) := KP_tr (KP_s3 (by decide) hx) (KP_s3 (by decide) hx)
      generalize su (su V 13 m.toInt.toNat (fi V 10)) 14 m.toInt.toNat (fi V 11) = W at vF w13 w14 hKW ⊢
      have e12 : ar W 12 = ar V 12 := vF.2.2.1 12 (by decide)
      have e15 : ar W 15 = ar V 15 := vF.2.2.1 15 (by decide)
      have e16 : ar W 16 = ar V 16 := vF.2.2.1 16 (by decide)
      have f4 : fi W 4 = fi V 4 := vF.1 4 (by decide)
      have f14 : fi W 14 = fi V 14 := vF.1 14 (by decide)
      have f15 : fi W 15 = fi V 15 := vF.1 15 (by decide)
      have hLW := Lx_fr hLV vF (by decide) (by decide)
      have hKW2 := KP_tr hKV hKW
      have hbW : BM S W := BM_tr hbV (BM_fr vF (by decide) (by decide))
      have b212 : (t.toInt = 304 ∨ t.toInt = 305) → w_X12_change_B212 post W m := by
        intro htt
        unfold w_X12_change_B212 w_X12_change_B220 w_X12_change_B225
        refine muchy W hKW2 hLW (by rw [f4]; exact v4) hbW (by rw [e12]; exact v12) (by omega) (fun g => ?_) (fun g => ?_) _ (fun r S' hr h1 h0 => ⟨fun g => ⟨Or.inl rfl, h0 g⟩, fun g => ⟨Or.inr rfl, h1 g⟩⟩)
        · rw [w13, f14]; exact h1 g
        · rw [w13, w14, f14]; exact h2 (by omega) (by omega)
      refine ⟨fun g => b212 (Or.inl g), fun g => ⟨fun g2 => ?_, fun g2 => b212 (Or.inr g2)⟩⟩
      unfold w_X12_change_B220 w_X12_change_B225
      refine ⟨Or.inr rfl, plain W hKW2 hLW (by rw [f4]; exact v4) hbW (by rw [e12]; exact v12) (by rw [e15]; exact v15) (by rw [e16]; exact v16) (by omega) (fun g3 => by rw [f15]; exact h6 g3) (fun g3 => ?_)⟩
      rw [w13, w14, f14]; exact h2 g (by omega)
    have b145 : ∀ V : GS, EE S5 V → Lx V → (fi S 4).toInt < (fi V 4).toInt → BM S V → (t.toInt = 306 → fi V 15 = 1) → t.toInt ≠ 311 → w_X12_change_B145 post V m t := by
      intro V hEV hLV v4 hbV h6 h7
      have keep : ∀ W : GS, EE S5 W → (ar W 12 m.toInt.toNat).toInt = t.toInt - 304 ∧ (ar W 15 m.toInt.toNat).toInt = 0 ∧ (ar W 16 m.toInt.toNat).toInt = 0 := by
        intro W hW
        have q12 : ar W 12 = ar S5 12 := hW.1.2.2.1 12 (by decide)
        have q15 : ar W 15 = ar S5 15 := hW.1.2.2.1 15 (by decide)
        have q16 : ar W 16 = ar S5 16 := hW.1.2.2.1 16 (by decide)
        rw [q12, q15, q16]
        exact ⟨c12, c15, c16⟩
      unfold w_X12_change_B145 w_X12_change_B159 w_X12_change_B176
      have one : (t.toInt = 304 ∨ t.toInt = 306) → w_X12_person V (fun r6 S7 => (r6.toInt ≠ 0 → w_X12_change_B178 post S7 m t) ∧ (r6.toInt = 0 → post 0 S7)) := by
        intro htt
        refine q_person V _ hLV (fun r6 S7 hE7 _ h7' => ⟨fun g => ?_, fun _ => k 0 S7 (KP_tr hK5 (KP_tr (EE_kp hEV) (EE_kp hE7))) (Or.inl rfl) no0⟩)
        obtain ⟨hG7, h10, h14, -⟩ := h7' g
        have hk7 := keep S7 (EE_tr hEV hE7)
        have z := hG7.2.2.1
        refine b178 S7 (KP_tr hK5 (KP_tr (EE_kp hEV) (EE_kp hE7))) hG7.1 (by omega) (BM_tr hbV hG7.2.2.2.2) hk7.1 hk7.2.1 hk7.2.2 (fun g3 => (BM_one hG7.2.2.2.2).2 (h6 g3)) (fun _ => ?_) (fun a b => by omega) h7
        rcases h10 with q | q
        · exact Or.inl q
        · exact Or.inr ⟨q, h14 q⟩
      refine ⟨fun g => one (Or.inl g), fun g => ⟨fun g2 => ?_, fun g2 => one (Or.inr g2)⟩⟩
      refine q_persons V _ hLV (fun r6 S7 hE7 _ h7' => ⟨fun g3 => ?_, fun _ => k 0 S7 (KP_tr hK5 (KP_tr (EE_kp hEV) (EE_kp hE7))) (Or.inl rfl) no0⟩)
      obtain ⟨hG7, h10, h14⟩ := h7' g3
      have hk7 := keep S7 (EE_tr hEV hE7)
      have z := hG7.2.2.1
      exact b178 S7 (KP_tr hK5 (KP_tr (EE_kp hEV) (EE_kp hE7))) hG7.1 (by omega) (BM_tr hbV hG7.2.2.2.2) hk7.1 hk7.2.1 hk7.2.2 (fun g3 => absurd g3 g2) (fun g4 => absurd g4 g) (fun _ _ => ⟨h10, h14⟩) h7
    refine ⟨fun g7 => ⟨fun g6 => b145 S5 (EE_rf _) hG.1 y4 hb5 (fun q => absurd q g6) g7, fun g6 => ?_⟩, fun g7 => ?_⟩
    · have vF : Fr [15] [] [] [] S5 (si S5 15 1) := Fr.si (by decide) Fr.rf
      have f15 : fi (si S5 15 1) 15 = 1 := si_at _ _ _
      generalize si S5 15 1 = V at vF f15 ⊢
      have hEV : EE S5 V := EE_fr (vF.wk (by decide))
      have hLV := Lx_fr hG.1 vF (by decide) (by decide)
      have f4 : fi V 4 = fi S5 4 := vF.1 4 (by decide)
      have f3 : fi V 3 = fi S5 3 := vF.1 3 (by decide)
      have hbV : BM S V := BM_tr hb5 ⟨Or.inl (vF.1 14 (by decide)), Or.inr f15⟩
      refine ⟨fun _ => b145 V hEV hLV (by rw [f4]; exact y4) hbV (fun _ => f15) g7, fun g8 => ⟨hm, ?_⟩⟩
      have wF : Fr [] [] [13] [] V (su V 13 m.toInt.toNat 3) := Fr.su (by decide) Fr.rf
      have hKW : KP a b c V (su V 13 m.toInt.toNat 3) := KP_s3 (by decide) hx
      generalize su V 13 m.toInt.toNat 3 = W at wF hKW ⊢
      have hLW := Lx_fr hLV wF (by decide) (by decide)
      refine q_next0 _ _ (NX_pre hLW) (fun Y hNY => ?_)
      have w3 : fi W 3 = fi S5 3 := (wF.1 3 (by decide)).trans f3
      have w4 : fi W 4 = fi S5 4 := (wF.1 4 (by decide)).trans f4
      have hGY := GO_nx hLW (by rw [w3]; omega) hNY
      have z := hGY.2.2.1
      rw [w4] at z
      have q12 : ar Y 12 = ar S5 12 := (hNY.1.2.2.1 12 (by decide)).trans ((wF.2.2.1 12 (by decide)).trans (vF.2.2.1 12 (by decide)))
      have q15 : ar Y 15 = ar S5 15 := (hNY.1.2.2.1 15 (by decide)).trans ((wF.2.2.1 15 (by decide)).trans (vF.2.2.1 15 (by decide)))
      have q16 : ar Y 16 = ar S5 16 := (hNY.1.2.2.1 16 (by decide)).trans ((wF.2.2.1 16 (by decide)).trans (vF.2.2.1 16 (by decide)))
      have p15 : fi Y 15 = 1 := (hNY.1.1 15 (by decide)).trans ((wF.1 15 (by decide)).trans f15)
      exact plain Y (KP_tr hK5 (KP_tr (EE_kp hEV) (KP_tr hKW (EE_kp (NX_ee hNY))))) hGY.1 (by omega) (BM_tr hbV (BM_tr (BM_fr wF (by decide) (by decide)) hGY.2.2.2.2)) (by rw [q12]; exact c12) (by rw [q15]; exact c15) (by rw [q16]; exact c16) (by omega) (fun _ => p15) (fun g9 => by omega)
    · unfold w_X12_change_B109
      refine ⟨fun _ => ⟨Or.inl rfl, k 0 _ (KP_tr hK5 (EE_kp (EE_bad S5 1))) (Or.inl rfl) no0⟩, fun _ => ?_⟩
      refine muchy S5 hK5 hG.1 y4 hb5 c12 (by omega) (fun g => by omega) (fun g => by omega) _ (fun r S' hr h1 h0 => ⟨hr, ?_⟩)
      rcases hr with rfl | rfl
      · exact h0 (by decide)
      · exact h1 (by decide)
  unfold w_X12_change
  refine ⟨fun g => b51 (Or.inl g), fun _ => ⟨fun g => b51 (Or.inr (Or.inl g)), fun _ => ?_⟩⟩
  refine q_isIn _ _ _ _ _ (fun r1 _ hb1 => ⟨fun g1 => b51 ?_, fun g1 => ?_⟩)
  · rw [li_306] at hb1; omega
  · refine q_isIn _ _ _ _ _ (fun r2 _ hb2 => ⟨fun g2 => b51 ?_, fun g2 => ⟨Or.inl rfl, no⟩⟩)
    rw [li_308, li_311] at hb2; omega
set_option maxHeartbeats 400000 in
theorem q_isKnown (S : GS) (n : Int32) (post : Int32 → GS → Prop) (hL : 0 ≤ (fi S 4).toInt ∧ (fi S 4).toInt ≤ (fi S 2).toInt ∧ (fi S 2).toInt ≤ 700) (hn : 12 ≤ n.toInt ∧ n.toInt ≤ 18) (hN : ∀ y : Nat, 12 ≤ y → (y : Int) < n.toInt → 0 ≤ (ar S 17 y).toInt ∧ 0 ≤ (ar S 18 y).toInt ∧ (ar S 17 y).toInt + (ar S 18 y).toInt ≤ 700) (k : ∀ r, post r S) : w_X12_isKnown S n post := by
  unfold w_X12_isKnown
  have es : (fi S 2 - fi S 4).toInt = (fi S 2).toInt - (fi S 4).toInt := by simp (disch := omega) only [Int32.toInt_add, Int32.toInt_sub, Int32.toInt_mul, Int32.toInt_neg, Int32.toInt_div, li_0, li_1, li_2, li_3, li_4, li_5, li_6, li_7, li_8, li_9, li_10, li_11, li_12, li_13, li_14, li_15, li_16, li_20, li_21, li_22, li_23, li_24, li_25, li_26, li_27, li_28, li_29, li_30, li_31, li_32, li_35, li_36, li_40, li_41, li_42, li_43, li_45, li_48, li_50, li_51, li_57, li_59, li_60, li_61, li_62, li_63, li_64, li_97, li_99, li_100, li_122, li_200, li_255, li_302, li_303, li_304, li_305, li_306, li_307, li_308, li_309, li_310, li_311, li_312, li_313, li_314, li_315, li_316, li_317, li_318, li_319, li_400, li_700, li_701, li_720, li_767, li_768, li_999, li_1000, li_1023, li_1024, li_1440, li_18720, tdv, bm, tnc]
  refine lr3 (fun (T : GS) (n' y : Int32) => T = S ∧ n' = n ∧ 12 ≤ y.toInt ∧ y.toInt ≤ n.toInt) (fun _ _ y => (n.toInt - y.toInt).toNat) ?_ _ _ _ ⟨rfl, rfl, by decide, by rw [li_12]; omega⟩
  rintro kk T n' y ⟨rfl, rfl, y0, y1⟩ hk
  unfold w_X12_isKnown_F3 w_X12_isKnown_B103
  have b31 : y.toInt < n'.toInt → ∀ z : Int32, (z.toInt ≠ 0 → (ar T 18 y.toNatClampNeg).toInt = (fi T 2).toInt - (fi T 4).toInt) → w_X12_isKnown_B31 post kk (w_X12_isKnown_B103 post) T n' y z := by
    intro hy z hz
    unfold w_X12_isKnown_B31
    have hNy := hN y.toNatClampNeg (by rw [tnc]; omega) (by rw [tnc]; omega)
    refine lr5 (fun (U : GS) (n2 y2 z j : Int32) => U = T ∧ n2 = n' ∧ y2 = y ∧ (z.toInt ≠ 0 → (ar T 18 y.toNatClampNeg).toInt = (fi T 2).toInt - (fi T 4).toInt) ∧ 0 ≤ j.toInt ∧ j.toInt ≤ (ar T 18 y.toNatClampNeg).toInt) (fun _ _ _ _ j => ((ar T 18 y.toNatClampNeg).toInt - j.toInt).toNat) ?_ _ _ _ _ _ ⟨rfl, rfl, rfl, hz, by decide, by rw [li_0]; exact hNy.2.1⟩
    rintro kk2 U n2 y2 z j ⟨rfl, rfl, rfl, hz, j0, j1⟩ hk2
    unfold w_X12_isKnown_F35 w_X12_isKnown_B91 w_X12_isKnown_B84
    have out : ((z.toInt = 0 → kk U n2 (y2 + 1)) ∧ (z.toInt ≠ 0 → post 1 U)) := ⟨fun _ => hk _ _ _ ⟨rfl, rfl, by rw [inc1 (by omega)]; omega, by rw [inc1 (by omega)]; omega⟩ (by rw [inc1 (by omega)]; omega), fun _ => k _⟩
    refine ⟨by omega, fun _ => out, fun g => ⟨fun _ => out, fun g2 => ?_⟩⟩
    have hz2 := hz g2
    have a1 : (ar U 17 y2.toNatClampNeg + j).toInt = (ar U 17 y2.toNatClampNeg).toInt + j.toInt := by
      clear es
      exact ad_ab (by omega) (by omega)
    have a2 : (fi U 4 + j).toInt = (fi U 4).toInt + j.toInt := by
      clear es a1
      exact ad_ab (by omega) (by omega)
    rw [a1, a2]
    clear a1 a2 es
    refine ⟨by omega, by omega, by omega, fun _ => hk2 _ _ _ _ _ ⟨rfl, rfl, rfl, fun _ => hz2, by rw [inc1 (by omega)]; omega, by rw [inc1 (by omega)]; omega⟩ (by rw [inc1 (by omega)]; omega), fun _ => hk2 _ _ _ _ _ ⟨rfl, rfl, rfl, fun _ => hz2, by rw [inc1 (by omega)]; omega, by rw [inc1 (by omega)]; omega⟩ (by rw [inc1 (by omega)]; omega)⟩
  rw [es]
  clear es
  exact ⟨fun _ => k _, fun g => ⟨by omega, fun _ => b31 g 0 (fun h => absurd li_0 h), fun h => b31 g 1 (fun _ => h)⟩⟩
