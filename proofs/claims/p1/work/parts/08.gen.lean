set_option maxHeartbeats 4000000 in
set_option maxRecDepth 100000 in
theorem c_X11_isPerson {l : Launch} {D : va_G} {cy : Nat → ClassId} {T0 tB tE : Nat} {a : Nat → Nat} {rw : Nat → Option Nat} (S : GS) (p0 : Int32)  : Ct l D cy T0 tB tE yX11_isPerson cX11_isPerson 1 (some .boolean) 0 0 0 0 (cw cy tE a rw S) [.int p0] (QI D (U := GS) (fun r u => ((((p0.toInt < 0)) ∨ ((0 ≤ p0.toInt) ∧ (3 ≤ p0.toInt))) ∧ 0 = r ∧ S = u) ∨ (((0 ≤ p0.toInt) ∧ (p0.toInt < 3)) ∧ 1 = r ∧ S = u)) (cw cy tE a rw)) := by
  refine Ct.ofZ RX11 "isPerson" [(0, .int p0)] rfl rfl rfl rfl (Nat.le_of_ble_eq_true rfl) ?_
  intro p e R s m args below meth c A b
  refine z_iload_n b dX11_isPerson_0 rfl rfl ?_
  refine y_if_lt (tgt := 13) (xl := p0.toInt) b rfl dX11_isPerson_1 (by decide) (fun c1 => ?_) (fun c1 => ?_)
  · refine z_iconst (v := 0) b dX11_isPerson_13 (by decide) ?_
    exact z_zret (u := S) b rfl (by decide) dX11_isPerson_14 (Or.inl ⟨(Or.inl c1), rfl, rfl⟩) rfl (by decide) (by decide)
  · refine z_iload_n b dX11_isPerson_4 rfl rfl ?_
    refine z_iconst (v := 3) b dX11_isPerson_5 (by decide) ?_
    refine y_icmp_ge (tgt := 13) (xl := p0.toInt) (yl := 3) b rfl (by decide) dX11_isPerson_6 (by decide) (fun c2 => ?_) (fun c2 => ?_)
    · refine z_iconst (v := 0) b dX11_isPerson_13 (by decide) ?_
      exact z_zret (u := S) b rfl (by decide) dX11_isPerson_14 (Or.inl ⟨(Or.inr ⟨c1, c2⟩), rfl, rfl⟩) rfl (by decide) (by decide)
    · refine z_iconst (v := 1) b dX11_isPerson_9 (by decide) ?_
      refine z_goto (tgt := 14) b dX11_isPerson_10 (by decide) ?_
      exact z_zret (u := S) b rfl (by decide) dX11_isPerson_14 (Or.inr ⟨⟨c1, c2⟩, rfl, rfl⟩) rfl (by decide) (by decide)

set_option maxHeartbeats 4000000 in
set_option maxRecDepth 100000 in
theorem c_X11_isWithin {l : Launch} {D : va_G} {cy : Nat → ClassId} {T0 tB tE : Nat} {a : Nat → Nat} {rw : Nat → Option Nat} (S : GS) (p0 : Int32)  : Ct l D cy T0 tB tE yX11_isWithin cX11_isWithin 2 (some .boolean) 0 0 0 0 (cw cy tE a rw S) [.int p0, .int 15] (QI D (U := GS) (fun r u => ((((p0.toInt < 0)) ∨ ((0 ≤ p0.toInt) ∧ (15 < p0.toInt))) ∧ 0 = r ∧ S = u) ∨ (((0 ≤ p0.toInt) ∧ (p0.toInt ≤ 15)) ∧ 1 = r ∧ S = u)) (cw cy tE a rw)) := by
  refine Ct.ofZ RX11 "isWithin" [(0, .int p0), (1, .int 15)] rfl rfl rfl rfl (Nat.le_of_ble_eq_true rfl) ?_
  intro p e R s m args below meth c A b
  refine z_iload_n b dX11_isWithin_0 rfl rfl ?_
  refine y_if_lt (tgt := 13) (xl := p0.toInt) b rfl dX11_isWithin_1 (by decide) (fun c8 => ?_) (fun c8 => ?_)
  · refine z_iconst (v := 0) b dX11_isWithin_13 (by decide) ?_
    exact z_zret (u := S) b rfl (by decide) dX11_isWithin_14 (Or.inl ⟨(Or.inl c8), rfl, rfl⟩) rfl (by decide) (by decide)
  · refine z_iload_n b dX11_isWithin_4 rfl rfl ?_
    refine z_iload_n b dX11_isWithin_5 rfl rfl ?_
    refine y_icmp_gt (tgt := 13) (xl := p0.toInt) (yl := 15) b rfl (by decide) dX11_isWithin_6 (by decide) (fun c9 => ?_) (fun c9 => ?_)
    · refine z_iconst (v := 0) b dX11_isWithin_13 (by decide) ?_
      exact z_zret (u := S) b rfl (by decide) dX11_isWithin_14 (Or.inl ⟨(Or.inr ⟨c8, c9⟩), rfl, rfl⟩) rfl (by decide) (by decide)
    · refine z_iconst (v := 1) b dX11_isWithin_9 (by decide) ?_
      refine z_goto (tgt := 14) b dX11_isWithin_10 (by decide) ?_
      exact z_zret (u := S) b rfl (by decide) dX11_isWithin_14 (Or.inr ⟨⟨c8, c9⟩, rfl, rfl⟩) rfl (by decide) (by decide)

set_option maxHeartbeats 4000000 in
set_option maxRecDepth 100000 in
theorem c_X9_set {l : Launch} {D : va_G} {cy : Nat → ClassId} {T0 tB tE : Nat} {a : Nat → Nat} {rw : Nat → Option Nat} (S : GS) (p0 : Int32) (p1 : Int32)  : Ct l D cy T0 tB tE yX9_set cX9_set 3 none 0 0 0 0 (cw cy tE a rw S) [.ref (a 14), .int p0, .int p1] (QV D (U := GS) (fun u => ((((p0.toInt < 0)) ∨ ((0 ≤ p0.toInt) ∧ (51 ≤ p0.toInt))) ∧ S = u) ∨ (((0 ≤ p0.toInt) ∧ (p0.toInt < 51)) ∧ su S 4 p0.toNatClampNeg p1 = u)) (cw cy tE a rw)) := by
  refine Ct.ofZ RX9 "set" [(0, .ref (a 14)), (1, .int p0), (2, .int p1)] rfl rfl rfl rfl (Nat.le_of_ble_eq_true rfl) ?_
  intro p e R s m args below meth c A b
  refine z_iload_n b dX9_set_0 rfl rfl ?_
  refine y_if_lt (tgt := 20) (xl := p0.toInt) b rfl dX9_set_1 (by decide) (fun c15 => ?_) (fun c15 => ?_)
  · exact z_vret (u := S) b rfl dX9_set_20 (Or.inl ⟨(Or.inl c15), rfl⟩) rfl (by decide) (by decide)
  · refine z_iload_n b dX9_set_4 rfl rfl ?_
    refine z_aload_n b dX9_set_5 rfl rfl ?_
    refine z_get (q0 := 14) (k9 := 0) (v := .ref (a 15)) b (cw_14 cy tE a rw S) rfl in_X9 (by decide) wf_X9_11 rfl dX9_set_6 ?_
    refine z_alen (q0 := 15) (t0 := 0) (v := 51) b (cw_15 cy tE a rw S) rfl rfl dX9_set_9 ?_
    refine y_icmp_ge (tgt := 20) (xl := p0.toInt) (yl := 51) b rfl (by decide) dX9_set_10 (by decide) (fun c16 => ?_) (fun c16 => ?_)
    · exact z_vret (u := S) b rfl dX9_set_20 (Or.inl ⟨(Or.inr ⟨c15, c16⟩), rfl⟩) rfl (by decide) (by decide)
    · refine z_aload_n b dX9_set_13 rfl rfl ?_
      refine z_get (q0 := 14) (k9 := 0) (v := .ref (a 15)) b (cw_14 cy tE a rw S) rfl in_X9 (by decide) wf_X9_11 rfl dX9_set_14 ?_
      refine z_iload_n b dX9_set_17 rfl rfl ?_
      refine z_iload_n b dX9_set_18 rfl rfl ?_
      refine y_iast (q0 := 15) (j := p0.toNatClampNeg) b (cw_15 cy tE a rw S) (zx_r (by omega) (by omega)) dX9_set_19 (cwa_15 cy tE a rw S p0.toNatClampNeg p1) ?_
      exact z_vret (u := (su S 4 p0.toNatClampNeg p1)) b rfl dX9_set_20 (Or.inr ⟨⟨c15, c16⟩, rfl⟩) rfl (by decide) (by decide)

set_option maxHeartbeats 4000000 in
set_option maxRecDepth 100000 in
theorem c_X8_forget {l : Launch} {D : va_G} {cy : Nat → ClassId} {T0 tB tE : Nat} {a : Nat → Nat} {rw : Nat → Option Nat} (S : GS)   : Ct l D cy T0 tB tE yX8_forget cX8_forget 1 none 0 0 0 0 (cw cy tE a rw S) [.ref (a 25)] (QV D (U := GS) (fun u => si S 24 0 = u) (cw cy tE a rw)) := by
  refine Ct.ofZ RX8 "forget" [(0, .ref (a 25))] rfl rfl rfl rfl (Nat.le_of_ble_eq_true rfl) ?_
  intro p e R s m args below meth c A b
  refine z_aload_n b dX8_forget_0 rfl rfl ?_
  refine z_iconst (v := 0) b dX8_forget_1 (by decide) ?_
  refine z_put (q0 := 25) (k9 := 16) tyX8 b (cw_25 cy tE a rw S) rfl in_X8 tyX8_ok nmX8 (by decide) wf_X8_60 rfl rfl rfl rfl (Nat.le_of_ble_eq_true rfl) dX8_forget_2 (cwp_25_16 cy tE a rw S 0) ?_
  exact z_vret (u := (si S 24 0)) b rfl dX8_forget_5 rfl rfl (by decide) (by decide)

set_option maxHeartbeats 4000000 in
set_option maxRecDepth 100000 in
theorem c_X11_coin {l : Launch} {D : va_G} {cy : Nat → ClassId} {T0 tB tE : Nat} {a : Nat → Nat} {rw : Nat → Option Nat} (S : GS) (p0 : Int32) (p1 : Int32)  : Ct l D cy T0 tB tE yX11_coin cX11_coin 3 (some .boolean) 1 22 0 0 (cw cy tE a rw S) [.ref (a 0), .int p0, .int p1] (QI D (U := GS) (fun r u => ((((((p0.toInt < 0)) ∨ ((0 ≤ p0.toInt) ∧ (3 ≤ p0.toInt)))) ∨ (((0 ≤ p0.toInt) ∧ (p0.toInt < 3)) ∧ (((p1.toInt < 0)) ∨ ((0 ≤ p1.toInt) ∧ (15 < p1.toInt))))) ∧ 0 = r ∧ S = u) ∨ ((((0 ≤ p0.toInt) ∧ (p0.toInt < 3)) ∧ ((0 ≤ p1.toInt) ∧ (p1.toInt ≤ 15)) ∧ (((p0.toInt < 0)) ∨ ((0 ≤ p0.toInt) ∧ (51 ≤ p0.toInt)))) ∧ 1 = r ∧ si S 24 0 = u) ∨ ((((0 ≤ p0.toInt) ∧ (p0.toInt < 3)) ∧ ((0 ≤ p1.toInt) ∧ (p1.toInt ≤ 15)) ∧ ((0 ≤ p0.toInt) ∧ (p0.toInt < 51))) ∧ 1 = r ∧ si (su S 4 p0.toNatClampNeg p1) 24 0 = u)) (cw cy tE a rw)) := by
  refine Ct.ofZ RX11 "coin" [(0, .ref (a 0)), (1, .int p0), (2, .int p1)] rfl rfl rfl rfl (Nat.le_of_ble_eq_true rfl) ?_
  intro p e R s m args below meth c A b
  refine z_iload_n b dX11_coin_0 rfl rfl ?_
  refine z_calli b (z_runS (As := [.int p0]) (st := []) b (c_X11_isPerson S p0 ) cf_X11_isPerson wm_X11_69 ws_X11_isPerson dX11_coin_1 rfl (by decide) ⟨by decide, by decide, by decide, by decide⟩) (fun r4 u5 h3 => ?_)
  rcases h3 with ⟨c6, rfl, rfl⟩ | ⟨c7, rfl, rfl⟩
  · refine z_if_eq_t (tgt := 16) b dX11_coin_4 (by decide) (by decide) ?_
    refine z_iconst (v := 0) b dX11_coin_16 (by decide) ?_
    exact z_zret (u := S) b rfl (by decide) dX11_coin_17 (Or.inl ⟨(Or.inl c6), rfl, rfl⟩) rfl (by decide) (by decide)
  · refine z_if_eq_f (tgt := 16) b dX11_coin_4 (by decide) (by decide) ?_
    refine z_iload_n b dX11_coin_7 rfl rfl ?_
    refine z_bipush (v := 15) b dX11_coin_8 (by decide) ?_
    refine z_calli b (z_runS (As := [.int p1, .int 15]) (st := []) b (c_X11_isWithin S p1 ) cf_X11_isWithin wm_X11_73 ws_X11_isWithin dX11_coin_10 rfl (by decide) ⟨by decide, by decide, by decide, by decide⟩) (fun r11 u12 h10 => ?_)
    rcases h10 with ⟨c13, rfl, rfl⟩ | ⟨c14, rfl, rfl⟩
    · refine z_if_ne_f (tgt := 18) b dX11_coin_13 (by decide) (by decide) ?_
      refine z_iconst (v := 0) b dX11_coin_16 (by decide) ?_
      exact z_zret (u := S) b rfl (by decide) dX11_coin_17 (Or.inl ⟨(Or.inr ⟨c7, c13⟩), rfl, rfl⟩) rfl (by decide) (by decide)
    · refine z_if_ne_t (tgt := 18) b dX11_coin_13 (by decide) (by decide) ?_
      refine z_aload_n b dX11_coin_18 rfl rfl ?_
      refine z_get (q0 := 0) (k9 := 4) (v := .ref (a 14)) b (cw_0 cy tE a rw S) rfl in_X11 (by decide) wf_X11_34 rfl dX11_coin_19 ?_
      refine z_iload_n b dX11_coin_22 rfl rfl ?_
      refine z_iload_n b dX11_coin_23 rfl rfl ?_
      refine z_callv b (z_runV (q0 := 14) (As := [.int p0, .int p1]) (st := []) b (c_X9_set S p0 p1 ) cf_X9_set (cw_14 cy tE a rw S) rfl wm_X11_77 wi_X9_set ws_X9_set dX11_coin_24 rfl (by decide) ⟨by decide, by decide, by decide, by decide⟩) (fun u19 h17 => ?_)
      rcases h17 with ⟨c20, rfl⟩ | ⟨c21, rfl⟩
      · refine z_aload_n b dX11_coin_27 rfl rfl ?_
        refine z_get (q0 := 0) (k9 := 6) (v := .ref (a 25)) b (cw_0 cy tE a rw S) rfl in_X11 (by decide) wf_X11_52 rfl dX11_coin_28 ?_
        refine z_callv b (z_runV (q0 := 25) (As := []) (st := []) b (c_X8_forget S ) cf_X8_forget (cw_25 cy tE a rw S) rfl wm_X11_81 wi_X8_forget ws_X8_forget dX11_coin_31 rfl (by decide) ⟨by decide, by decide, by decide, by decide⟩) (fun u24 h22 => ?_)
        obtain rfl := h22
        refine z_iconst (v := 1) b dX11_coin_34 (by decide) ?_
        exact z_zret (u := (si S 24 0)) b rfl (by decide) dX11_coin_35 (Or.inr (Or.inl ⟨⟨c7, c14, c20⟩, rfl, rfl⟩)) rfl (by decide) (by decide)
      · refine z_aload_n b dX11_coin_27 rfl rfl ?_
        refine z_get (q0 := 0) (k9 := 6) (v := .ref (a 25)) b (cw_0 cy tE a rw (su S 4 p0.toNatClampNeg p1)) rfl in_X11 (by decide) wf_X11_52 rfl dX11_coin_28 ?_
        refine z_callv b (z_runV (q0 := 25) (As := []) (st := []) b (c_X8_forget (su S 4 p0.toNatClampNeg p1) ) cf_X8_forget (cw_25 cy tE a rw (su S 4 p0.toNatClampNeg p1)) rfl wm_X11_81 wi_X8_forget ws_X8_forget dX11_coin_31 rfl (by decide) ⟨by decide, by decide, by decide, by decide⟩) (fun u27 h25 => ?_)
        obtain rfl := h25
        refine z_iconst (v := 1) b dX11_coin_34 (by decide) ?_
        exact z_zret (u := (si (su S 4 p0.toNatClampNeg p1) 24 0)) b rfl (by decide) dX11_coin_35 (Or.inr (Or.inr ⟨⟨c7, c14, c21⟩, rfl, rfl⟩)) rfl (by decide) (by decide)

set_option maxHeartbeats 4000000 in
set_option maxRecDepth 100000 in
theorem c_X9_set_2 {l : Launch} {D : va_G} {cy : Nat → ClassId} {T0 tB tE : Nat} {a : Nat → Nat} {rw : Nat → Option Nat} (S : GS) (p0 : Int32)  : Ct l D cy T0 tB tE yX9_set cX9_set 3 none 0 0 0 0 (cw cy tE a rw S) [.ref (a 14), .int 50, .int p0] (QV D (U := GS) (fun u => su S 4 50 p0 = u) (cw cy tE a rw)) := by
  refine Ct.ofZ RX9 "set" [(0, .ref (a 14)), (1, .int 50), (2, .int p0)] rfl rfl rfl rfl (Nat.le_of_ble_eq_true rfl) ?_
  intro p e R s m args below meth c A b
  refine z_iload_n b dX9_set_0 rfl rfl ?_
  refine z_if_lt_f (tgt := 20) b dX9_set_1 (by decide) (by decide) ?_
  refine z_iload_n b dX9_set_4 rfl rfl ?_
  refine z_aload_n b dX9_set_5 rfl rfl ?_
  refine z_get (q0 := 14) (k9 := 0) (v := .ref (a 15)) b (cw_14 cy tE a rw S) rfl in_X9 (by decide) wf_X9_11 rfl dX9_set_6 ?_
  refine z_alen (q0 := 15) (t0 := 0) (v := 51) b (cw_15 cy tE a rw S) rfl rfl dX9_set_9 ?_
  refine z_icmp_ge_f (tgt := 20) b dX9_set_10 (by decide) (by decide) ?_
  refine z_aload_n b dX9_set_13 rfl rfl ?_
  refine z_get (q0 := 14) (k9 := 0) (v := .ref (a 15)) b (cw_14 cy tE a rw S) rfl in_X9 (by decide) wf_X9_11 rfl dX9_set_14 ?_
  refine z_iload_n b dX9_set_17 rfl rfl ?_
  refine z_iload_n b dX9_set_18 rfl rfl ?_
  refine y_iast (q0 := 15) (j := 50) b (cw_15 cy tE a rw S) (by decide) dX9_set_19 (cwa_15 cy tE a rw S 50 p0) ?_
  exact z_vret (u := (su S 4 50 p0)) b rfl dX9_set_20 rfl rfl (by decide) (by decide)

set_option maxHeartbeats 4000000 in
set_option maxRecDepth 100000 in
theorem c_X11_day {l : Launch} {D : va_G} {cy : Nat → ClassId} {T0 tB tE : Nat} {a : Nat → Nat} {rw : Nat → Option Nat} (S : GS) (p0 : Int32)  : Ct l D cy T0 tB tE yX11_day cX11_day 2 (some .boolean) 1 22 0 0 (cw cy tE a rw S) [.ref (a 0), .int p0] (QI D (U := GS) (fun r u => (((((p0.toInt < 0)) ∨ ((0 ≤ p0.toInt) ∧ (15 < p0.toInt)))) ∧ 0 = r ∧ S = u) ∨ ((((0 ≤ p0.toInt) ∧ (p0.toInt ≤ 15))) ∧ 1 = r ∧ si (su S 4 50 p0) 24 0 = u)) (cw cy tE a rw)) := by
  refine Ct.ofZ RX11 "day" [(0, .ref (a 0)), (1, .int p0)] rfl rfl rfl rfl (Nat.le_of_ble_eq_true rfl) ?_
  intro p e R s m args below meth c A b
  refine z_iload_n b dX11_day_0 rfl rfl ?_
  refine z_bipush (v := 15) b dX11_day_1 (by decide) ?_
  refine z_calli b (z_runS (As := [.int p0, .int 15]) (st := []) b (c_X11_isWithin S p0 ) cf_X11_isWithin wm_X11_73 ws_X11_isWithin dX11_day_3 rfl (by decide) ⟨by decide, by decide, by decide, by decide⟩) (fun r29 u30 h28 => ?_)
  rcases h28 with ⟨c31, rfl, rfl⟩ | ⟨c32, rfl, rfl⟩
  · refine z_if_ne_f (tgt := 11) b dX11_day_6 (by decide) (by decide) ?_
    refine z_iconst (v := 0) b dX11_day_9 (by decide) ?_
    exact z_zret (u := S) b rfl (by decide) dX11_day_10 (Or.inl ⟨c31, rfl, rfl⟩) rfl (by decide) (by decide)
  · refine z_if_ne_t (tgt := 11) b dX11_day_6 (by decide) (by decide) ?_
    refine z_aload_n b dX11_day_11 rfl rfl ?_
    refine z_get (q0 := 0) (k9 := 4) (v := .ref (a 14)) b (cw_0 cy tE a rw S) rfl in_X11 (by decide) wf_X11_34 rfl dX11_day_12 ?_
    refine z_bipush (v := 50) b dX11_day_15 (by decide) ?_
    refine z_iload_n b dX11_day_17 rfl rfl ?_
    refine z_callv b (z_runV (q0 := 14) (As := [.int 50, .int p0]) (st := []) b (c_X9_set_2 S p0 ) cf_X9_set (cw_14 cy tE a rw S) rfl wm_X11_77 wi_X9_set ws_X9_set dX11_day_18 rfl (by decide) ⟨by decide, by decide, by decide, by decide⟩) (fun u35 h33 => ?_)
    obtain rfl := h33
    refine z_aload_n b dX11_day_21 rfl rfl ?_
    refine z_get (q0 := 0) (k9 := 6) (v := .ref (a 25)) b (cw_0 cy tE a rw (su S 4 50 p0)) rfl in_X11 (by decide) wf_X11_52 rfl dX11_day_22 ?_
    refine z_callv b (z_runV (q0 := 25) (As := []) (st := []) b (c_X8_forget (su S 4 50 p0) ) cf_X8_forget (cw_25 cy tE a rw (su S 4 50 p0)) rfl wm_X11_81 wi_X8_forget ws_X8_forget dX11_day_25 rfl (by decide) ⟨by decide, by decide, by decide, by decide⟩) (fun u38 h36 => ?_)
    obtain rfl := h36
    refine z_iconst (v := 1) b dX11_day_28 (by decide) ?_
    exact z_zret (u := (si (su S 4 50 p0) 24 0)) b rfl (by decide) dX11_day_29 (Or.inr ⟨c32, rfl, rfl⟩) rfl (by decide) (by decide)

set_option maxHeartbeats 4000000 in
set_option maxRecDepth 100000 in
theorem c_X11_isThing {l : Launch} {D : va_G} {cy : Nat → ClassId} {T0 tB tE : Nat} {a : Nat → Nat} {rw : Nat → Option Nat} (S : GS) (p0 : Int32)  : Ct l D cy T0 tB tE yX11_isThing cX11_isThing 1 (some .boolean) 0 0 0 0 (cw cy tE a rw S) [.int p0] (QI D (U := GS) (fun r u => ((((p0.toInt < 0)) ∨ ((0 ≤ p0.toInt) ∧ (3 ≤ p0.toInt))) ∧ 0 = r ∧ S = u) ∨ (((0 ≤ p0.toInt) ∧ (p0.toInt < 3)) ∧ 1 = r ∧ S = u)) (cw cy tE a rw)) := by
  refine Ct.ofZ RX11 "isThing" [(0, .int p0)] rfl rfl rfl rfl (Nat.le_of_ble_eq_true rfl) ?_
  intro p e R s m args below meth c A b
  refine z_iload_n b dX11_isThing_0 rfl rfl ?_
  refine y_if_lt (tgt := 13) (xl := p0.toInt) b rfl dX11_isThing_1 (by decide) (fun c39 => ?_) (fun c39 => ?_)
  · refine z_iconst (v := 0) b dX11_isThing_13 (by decide) ?_
    exact z_zret (u := S) b rfl (by decide) dX11_isThing_14 (Or.inl ⟨(Or.inl c39), rfl, rfl⟩) rfl (by decide) (by decide)
  · refine z_iload_n b dX11_isThing_4 rfl rfl ?_
    refine z_iconst (v := 3) b dX11_isThing_5 (by decide) ?_
    refine y_icmp_ge (tgt := 13) (xl := p0.toInt) (yl := 3) b rfl (by decide) dX11_isThing_6 (by decide) (fun c40 => ?_) (fun c40 => ?_)
    · refine z_iconst (v := 0) b dX11_isThing_13 (by decide) ?_
      exact z_zret (u := S) b rfl (by decide) dX11_isThing_14 (Or.inl ⟨(Or.inr ⟨c39, c40⟩), rfl, rfl⟩) rfl (by decide) (by decide)
    · refine z_iconst (v := 1) b dX11_isThing_9 (by decide) ?_
      refine z_goto (tgt := 14) b dX11_isThing_10 (by decide) ?_
      exact z_zret (u := S) b rfl (by decide) dX11_isThing_14 (Or.inr ⟨⟨c39, c40⟩, rfl, rfl⟩) rfl (by decide) (by decide)

set_option maxHeartbeats 4000000 in
set_option maxRecDepth 100000 in
theorem c_X11_isWithin_2 {l : Launch} {D : va_G} {cy : Nat → ClassId} {T0 tB tE : Nat} {a : Nat → Nat} {rw : Nat → Option Nat} (S : GS) (p0 : Int32)  : Ct l D cy T0 tB tE yX11_isWithin cX11_isWithin 2 (some .boolean) 0 0 0 0 (cw cy tE a rw S) [.int p0, .int 3] (QI D (U := GS) (fun r u => ((((p0.toInt < 0)) ∨ ((0 ≤ p0.toInt) ∧ (3 < p0.toInt))) ∧ 0 = r ∧ S = u) ∨ (((0 ≤ p0.toInt) ∧ (p0.toInt ≤ 3)) ∧ 1 = r ∧ S = u)) (cw cy tE a rw)) := by
  refine Ct.ofZ RX11 "isWithin" [(0, .int p0), (1, .int 3)] rfl rfl rfl rfl (Nat.le_of_ble_eq_true rfl) ?_
  intro p e R s m args below meth c A b
  refine z_iload_n b dX11_isWithin_0 rfl rfl ?_
  refine y_if_lt (tgt := 13) (xl := p0.toInt) b rfl dX11_isWithin_1 (by decide) (fun c46 => ?_) (fun c46 => ?_)
  · refine z_iconst (v := 0) b dX11_isWithin_13 (by decide) ?_
    exact z_zret (u := S) b rfl (by decide) dX11_isWithin_14 (Or.inl ⟨(Or.inl c46), rfl, rfl⟩) rfl (by decide) (by decide)
  · refine z_iload_n b dX11_isWithin_4 rfl rfl ?_
    refine z_iload_n b dX11_isWithin_5 rfl rfl ?_
    refine y_icmp_gt (tgt := 13) (xl := p0.toInt) (yl := 3) b rfl (by decide) dX11_isWithin_6 (by decide) (fun c47 => ?_) (fun c47 => ?_)
    · refine z_iconst (v := 0) b dX11_isWithin_13 (by decide) ?_
      exact z_zret (u := S) b rfl (by decide) dX11_isWithin_14 (Or.inl ⟨(Or.inr ⟨c46, c47⟩), rfl, rfl⟩) rfl (by decide) (by decide)
    · refine z_iconst (v := 1) b dX11_isWithin_9 (by decide) ?_
      refine z_goto (tgt := 14) b dX11_isWithin_10 (by decide) ?_
      exact z_zret (u := S) b rfl (by decide) dX11_isWithin_14 (Or.inr ⟨⟨c46, c47⟩, rfl, rfl⟩) rfl (by decide) (by decide)

set_option maxHeartbeats 4000000 in
set_option maxRecDepth 100000 in
theorem c_X11_owner {l : Launch} {D : va_G} {cy : Nat → ClassId} {T0 tB tE : Nat} {a : Nat → Nat} {rw : Nat → Option Nat} (S : GS) (p0 : Int32) (p1 : Int32)  : Ct l D cy T0 tB tE yX11_owner cX11_owner 3 (some .boolean) 1 22 0 0 (cw cy tE a rw S) [.ref (a 0), .int p0, .int p1] (QI D (U := GS) (fun r u => ((((((p0.toInt < 0)) ∨ ((0 ≤ p0.toInt) ∧ (3 ≤ p0.toInt)))) ∨ (((0 ≤ p0.toInt) ∧ (p0.toInt < 3)) ∧ (((p1.toInt < 0)) ∨ ((0 ≤ p1.toInt) ∧ (3 < p1.toInt))))) ∧ 0 = r ∧ S = u) ∨ ((((0 ≤ p0.toInt) ∧ (p0.toInt < 3)) ∧ ((0 ≤ p1.toInt) ∧ (p1.toInt ≤ 3)) ∧ ((((40 + p0).toInt < 0)) ∨ ((0 ≤ (40 + p0).toInt) ∧ (51 ≤ (40 + p0).toInt)))) ∧ 1 = r ∧ si S 24 0 = u) ∨ ((((0 ≤ p0.toInt) ∧ (p0.toInt < 3)) ∧ ((0 ≤ p1.toInt) ∧ (p1.toInt ≤ 3)) ∧ ((0 ≤ (40 + p0).toInt) ∧ ((40 + p0).toInt < 51))) ∧ 1 = r ∧ si (su S 4 (40 + p0).toNatClampNeg p1) 24 0 = u)) (cw cy tE a rw)) := by
  refine Ct.ofZ RX11 "owner" [(0, .ref (a 0)), (1, .int p0), (2, .int p1)] rfl rfl rfl rfl (Nat.le_of_ble_eq_true rfl) ?_
  intro p e R s m args below meth c A b
  refine z_iload_n b dX11_owner_0 rfl rfl ?_
  refine z_calli b (z_runS (As := [.int p0]) (st := []) b (c_X11_isThing S p0 ) cf_X11_isThing wm_X11_87 ws_X11_isThing dX11_owner_1 rfl (by decide) ⟨by decide, by decide, by decide, by decide⟩) (fun r42 u43 h41 => ?_)
  rcases h41 with ⟨c44, rfl, rfl⟩ | ⟨c45, rfl, rfl⟩
  · refine z_if_eq_t (tgt := 15) b dX11_owner_4 (by decide) (by decide) ?_
    refine z_iconst (v := 0) b dX11_owner_15 (by decide) ?_
    exact z_zret (u := S) b rfl (by decide) dX11_owner_16 (Or.inl ⟨(Or.inl c44), rfl, rfl⟩) rfl (by decide) (by decide)
  · refine z_if_eq_f (tgt := 15) b dX11_owner_4 (by decide) (by decide) ?_
    refine z_iload_n b dX11_owner_7 rfl rfl ?_
    refine z_iconst (v := 3) b dX11_owner_8 (by decide) ?_
    refine z_calli b (z_runS (As := [.int p1, .int 3]) (st := []) b (c_X11_isWithin_2 S p1 ) cf_X11_isWithin wm_X11_73 ws_X11_isWithin dX11_owner_9 rfl (by decide) ⟨by decide, by decide, by decide, by decide⟩) (fun r49 u50 h48 => ?_)
    rcases h48 with ⟨c51, rfl, rfl⟩ | ⟨c52, rfl, rfl⟩
    · refine z_if_ne_f (tgt := 17) b dX11_owner_12 (by decide) (by decide) ?_
      refine z_iconst (v := 0) b dX11_owner_15 (by decide) ?_
      exact z_zret (u := S) b rfl (by decide) dX11_owner_16 (Or.inl ⟨(Or.inr ⟨c45, c51⟩), rfl, rfl⟩) rfl (by decide) (by decide)
    · refine z_if_ne_t (tgt := 17) b dX11_owner_12 (by decide) (by decide) ?_
      refine z_aload_n b dX11_owner_17 rfl rfl ?_
      refine z_get (q0 := 0) (k9 := 4) (v := .ref (a 14)) b (cw_0 cy tE a rw S) rfl in_X11 (by decide) wf_X11_34 rfl dX11_owner_18 ?_
      refine z_bipush (v := 40) b dX11_owner_21 (by decide) ?_
      refine z_iload_n b dX11_owner_23 rfl rfl ?_
      refine z_iadd b dX11_owner_24 rfl ?_
      refine z_iload_n b dX11_owner_25 rfl rfl ?_
      refine z_callv b (z_runV (q0 := 14) (As := [.int (40 + p0), .int p1]) (st := []) b (c_X9_set S (40 + p0) p1 ) cf_X9_set (cw_14 cy tE a rw S) rfl wm_X11_77 wi_X9_set ws_X9_set dX11_owner_26 rfl (by decide) ⟨by decide, by decide, by decide, by decide⟩) (fun u55 h53 => ?_)
      rcases h53 with ⟨c56, rfl⟩ | ⟨c57, rfl⟩
      · refine z_aload_n b dX11_owner_29 rfl rfl ?_
        refine z_get (q0 := 0) (k9 := 6) (v := .ref (a 25)) b (cw_0 cy tE a rw S) rfl in_X11 (by decide) wf_X11_52 rfl dX11_owner_30 ?_
        refine z_callv b (z_runV (q0 := 25) (As := []) (st := []) b (c_X8_forget S ) cf_X8_forget (cw_25 cy tE a rw S) rfl wm_X11_81 wi_X8_forget ws_X8_forget dX11_owner_33 rfl (by decide) ⟨by decide, by decide, by decide, by decide⟩) (fun u60 h58 => ?_)
        obtain rfl := h58
        refine z_iconst (v := 1) b dX11_owner_36 (by decide) ?_
        exact z_zret (u := (si S 24 0)) b rfl (by decide) dX11_owner_37 (Or.inr (Or.inl ⟨⟨c45, c52, c56⟩, rfl, rfl⟩)) rfl (by decide) (by decide)
      · refine z_aload_n b dX11_owner_29 rfl rfl ?_
        refine z_get (q0 := 0) (k9 := 6) (v := .ref (a 25)) b (cw_0 cy tE a rw (su S 4 (40 + p0).toNatClampNeg p1)) rfl in_X11 (by decide) wf_X11_52 rfl dX11_owner_30 ?_
        refine z_callv b (z_runV (q0 := 25) (As := []) (st := []) b (c_X8_forget (su S 4 (40 + p0).toNatClampNeg p1) ) cf_X8_forget (cw_25 cy tE a rw (su S 4 (40 + p0).toNatClampNeg p1)) rfl wm_X11_81 wi_X8_forget ws_X8_forget dX11_owner_33 rfl (by decide) ⟨by decide, by decide, by decide, by decide⟩) (fun u63 h61 => ?_)
        obtain rfl := h61
        refine z_iconst (v := 1) b dX11_owner_36 (by decide) ?_
        exact z_zret (u := (si (su S 4 (40 + p0).toNatClampNeg p1) 24 0)) b rfl (by decide) dX11_owner_37 (Or.inr (Or.inr ⟨⟨c45, c52, c57⟩, rfl, rfl⟩)) rfl (by decide) (by decide)
