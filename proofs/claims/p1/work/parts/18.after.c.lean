set_option maxHeartbeats 4000000 in
set_option maxRecDepth 100000 in
theorem c_X12_after_239 {l : Launch} {D : va_G} {cy : Nat → ClassId} {T0 tB tE : Nat} {a : Nat → Nat} (S : GS)  (h_l_0 : fl S 0 = 1649317774848) (h_a_38_4 : ar S 38 4 = 0) (h_a_4_7 : ar S 4 7 = 0) (h_a_1_7 : ar S 1 7 = 0) (h_a_4_6 : ar S 4 6 = 0) (h_a_1_6 : ar S 1 6 = 0) (h_a_3_6 : ar S 3 6 = 0) (h_a_3_2 : ar S 3 2 = 0) (h_a_2_2 : ar S 2 2 = 3) (h_a_0_2 : ar S 0 2 = 0) (h_a_4_3 : ar S 4 3 = 0) (h_a_1_3 : ar S 1 3 = 0) (h_a_4_5 : ar S 4 5 = 0) (h_a_1_5 : ar S 1 5 = 0) (h_a_3_5 : ar S 3 5 = 0) (h_a_3_7 : ar S 3 7 = 0) (h_a_2_1 : ar S 2 1 = 3) (h_a_0_1 : ar S 0 1 = 0) (h_a_4_2 : ar S 4 2 = 0) (h_a_1_2 : ar S 1 2 = 0) (h_a_4_1 : ar S 4 1 = 0) (h_a_1_1 : ar S 1 1 = 0) (h_a_3_1 : ar S 3 1 = 0) (h_a_3_3 : ar S 3 3 = 0) (h_a_2_0 : ar S 2 0 = 3) (h_a_0_0 : ar S 0 0 = 0) (h_i_0 : fi S 0 = 0) : Ct l D cy T0 tB tE yX12_after cX12_after 4 (some .int) 2 47 0 0 (mw cy a S) [.ref (a 0), .int 4, .int 18] (QI D (U := GS) (fun r u => (-1) = r ∧ (si (sl S 2 1649317774848) 24 (-1)) = u) (mw cy a)) := by
  refine Ct.ofZ RX12 "after" [(0, .ref (a 0)), (1, .int 4), (2, .int 18)] rfl rfl rfl rfl (Nat.le_of_ble_eq_true rfl) ?_
  intro p e R s m args below meth c A b
  refine z_iload_n b dX12_after_0 rfl rfl ?_
  refine z_calli b (z_runS (As := [.int 4]) (st := []) b (c_X12_isRow_7 S ) cf_X12_isRow wm_X12_452 ws_X12_isRow dX12_after_1 rfl (Nat.le_of_ble_eq_true rfl) ⟨by decide, by decide, by decide, by decide⟩) (fun r20113 u20114 h20112 => ?_)
  obtain ⟨rfl, rfl⟩ := h20112
  refine z_if_ne_t (tgt := 9) b dX12_after_4 (by decide) (by decide) ?_
  refine z_aload_n b dX12_after_9 rfl rfl ?_
  refine z_iload_n b dX12_after_10 rfl rfl ?_
  refine z_iconst (v := 3) b dX12_after_11 (by decide) ?_
  refine z_iconst (v := 0) b dX12_after_12 (by decide) ?_
  refine z_calli b (z_runV (q0 := 0) (As := [.int 4, .int 3, .int 0]) (st := []) b (c_X12_goes_11 S h_l_0 h_a_38_4) cf_X12_goes (mw_0 cy a S) rfl wm_X12_464 wi_X12_goes ws_X12_goes dX12_after_13 rfl (Nat.le_of_ble_eq_true rfl) ⟨by decide, by decide, by decide, by decide⟩) (fun r20116 u20117 h20115 => ?_)
  obtain ⟨rfl, rfl⟩ := h20115
  refine z_pop b dX12_after_16 rfl ?_
  refine z_aload_n b dX12_after_17 rfl rfl ?_
  refine z_aload_n b dX12_after_18 rfl rfl ?_
  refine z_get (q0 := 0) (k9 := 68) (v := .long 1649317774848) b (mw_0 cy a (si (sl S 2 1649317774848) 24 (-1))) rfl in_X12 (by decide) wf_X12_458 rfl dX12_after_19 ?_
  refine z_callv b (z_runV (q0 := 0) (As := [.long 1649317774848]) (st := []) b (c_X12_takes (si (sl S 2 1649317774848) 24 (-1)) h_a_4_7 h_a_1_7 h_a_4_6 h_a_1_6 h_a_3_6 h_a_3_2 h_a_2_2 h_a_0_2 h_a_4_3 h_a_1_3 h_a_4_5 h_a_1_5 h_a_3_5 h_a_3_7 h_a_2_1 h_a_0_1 h_a_4_2 h_a_1_2 h_a_4_1 h_a_1_1 h_a_3_1 h_a_3_3 h_a_2_0 h_a_0_0 h_i_0) cf_X12_takes (mw_0 cy a (si (sl S 2 1649317774848) 24 (-1))) rfl wm_X12_174 wi_X12_takes ws_X12_takes dX12_after_22 rfl (Nat.le_of_ble_eq_true rfl) ⟨by decide, by decide, by decide, by decide⟩) (fun u20120 h20118 => ?_)
  obtain rfl := h20118
  refine z_iload_n b dX12_after_25 rfl rfl ?_
  refine z_calli b (z_runS (As := [.int 18]) (st := []) b (c_X12_isOne_23 (si (sl S 2 1649317774848) 24 (-1)) ) cf_X12_isOne wm_X12_170 ws_X12_isOne dX12_after_26 rfl (Nat.le_of_ble_eq_true rfl) ⟨by decide, by decide, by decide, by decide⟩) (fun r20122 u20123 h20121 => ?_)
  obtain ⟨rfl, rfl⟩ := h20121
  refine z_if_eq_t (tgt := 39) b dX12_after_29 (by decide) (by decide) ?_
  refine z_iload_n b dX12_after_39 rfl rfl ?_
  refine z_bipush (v := 50) b dX12_after_40 (by decide) ?_
  refine z_icmp_ne_t (tgt := 50) b dX12_after_42 (by decide) (by decide) ?_
  refine z_iload_n b dX12_after_50 rfl rfl ?_
  refine z_bipush (v := 40) b dX12_after_51 (by decide) ?_
  refine z_bipush (v := 42) b dX12_after_53 (by decide) ?_
  refine z_calli b (z_runS (As := [.int 18, .int 40, .int 42]) (st := []) b (c_X12_isIn_114 (si (sl S 2 1649317774848) 24 (-1)) ) cf_X12_isIn wm_X12_1 ws_X12_isIn dX12_after_55 rfl (Nat.le_of_ble_eq_true rfl) ⟨by decide, by decide, by decide, by decide⟩) (fun r20125 u20126 h20124 => ?_)
  obtain ⟨rfl, rfl⟩ := h20124
  refine z_if_eq_t (tgt := 71) b dX12_after_58 (by decide) (by decide) ?_
  refine z_iload_n b dX12_after_71 rfl rfl ?_
  refine z_bipush (v := 10) b dX12_after_72 (by decide) ?_
  refine z_irem (v := 8) b dX12_after_74 (by decide) (by decide) ?_
  refine z_istore_n (lv' := [(3, .int 8), (0, .ref (a 0)), (1, .int 4), (2, .int 18)]) b dX12_after_75 rfl (by decide) rfl ?_
  refine z_iload_n b dX12_after_76 rfl rfl ?_
  refine z_bipush (v := 10) b dX12_after_77 (by decide) ?_
  refine z_bipush (v := 38) b dX12_after_79 (by decide) ?_
  refine z_calli b (z_runS (As := [.int 18, .int 10, .int 38]) (st := []) b (c_X12_isIn_115 (si (sl S 2 1649317774848) 24 (-1)) ) cf_X12_isIn wm_X12_1 ws_X12_isIn dX12_after_81 rfl (Nat.le_of_ble_eq_true rfl) ⟨by decide, by decide, by decide, by decide⟩) (fun r20128 u20129 h20127 => ?_)
  obtain ⟨rfl, rfl⟩ := h20127
  refine z_if_eq_f (tgt := 102) b dX12_after_84 (by decide) (by decide) ?_
  refine z_iload_n b dX12_after_87 rfl rfl ?_
  refine z_bipush (v := 9) b dX12_after_88 (by decide) ?_
  refine z_icmp_eq_f (tgt := 102) b dX12_after_90 (by decide) (by decide) ?_
  refine z_iload_n b dX12_after_93 rfl rfl ?_
  refine z_iconst (v := 3) b dX12_after_94 (by decide) ?_
  refine z_idiv (v := 2) b dX12_after_95 (by decide) (by decide) ?_
  refine z_iload_n b dX12_after_96 rfl rfl ?_
  refine z_iconst (v := 3) b dX12_after_97 (by decide) ?_
  refine z_irem (v := 2) b dX12_after_98 (by decide) (by decide) ?_
  refine z_icmp_ne_f (tgt := 104) b dX12_after_99 (by decide) (by decide) ?_
  refine z_iconst (v := (-1)) b dX12_after_102 (by decide) ?_
  exact z_iret (u := (si (sl S 2 1649317774848) 24 (-1))) b rfl dX12_after_103 ⟨rfl, rfl⟩ rfl (by decide) (by decide)

set_option maxHeartbeats 4000000 in
set_option maxRecDepth 100000 in
theorem c_X11_after_240 {l : Launch} {D : va_G} {cy : Nat → ClassId} {T0 tB tE : Nat} {a : Nat → Nat} {rw : Nat → Option Nat} (S : GS)   : Ct l D cy T0 tB tE yX11_after cX11_after 3 (some .int) 3 62 0 0 (cw cy tE a rw S) [.ref (a 0), .int 4, .int 19] (QI D (U := GS) (fun r u => (-1) = r ∧ S = u) (cw cy tE a rw)) := by
  refine Ct.ofZ RX11 "after" [(0, .ref (a 0)), (1, .int 4), (2, .int 19)] rfl rfl rfl rfl (Nat.le_of_ble_eq_true rfl) ?_
  intro p e R s m args below meth c A b
  refine z_iload_n b dX11_after_0 rfl rfl ?_
  refine z_calli b (z_runS (As := [.int 4]) (st := []) b (c_X11_isRow_7 S ) cf_X11_isRow wm_X11_169 ws_X11_isRow dX11_after_1 rfl (Nat.le_of_ble_eq_true rfl) ⟨by decide, by decide, by decide, by decide⟩) (fun r20131 u20132 h20130 => ?_)
  obtain ⟨rfl, rfl⟩ := h20130
  refine z_if_eq_f (tgt := 14) b dX11_after_4 (by decide) (by decide) ?_
  refine z_iload_n b dX11_after_7 rfl rfl ?_
  refine z_calli b (z_runS (As := [.int 19]) (st := []) b (c_X9_has_22 S ) cf_X9_has wm_X11_191 ws_X9_has dX11_after_8 rfl (Nat.le_of_ble_eq_true rfl) ⟨by decide, by decide, by decide, by decide⟩) (fun r20134 u20135 h20133 => ?_)
  obtain ⟨rfl, rfl⟩ := h20133
  refine z_if_ne_f (tgt := 16) b dX11_after_11 (by decide) (by decide) ?_
  refine z_iconst (v := (-1)) b dX11_after_14 (by decide) ?_
  exact z_iret (u := S) b rfl dX11_after_15 ⟨rfl, rfl⟩ rfl (by decide) (by decide)

set_option maxHeartbeats 4000000 in
set_option maxRecDepth 100000 in
theorem c_X12_after_240 {l : Launch} {D : va_G} {cy : Nat → ClassId} {T0 tB tE : Nat} {a : Nat → Nat} (S : GS)  (h_l_0 : fl S 0 = 1649317774848) (h_a_38_4 : ar S 38 4 = 0) (h_a_4_7 : ar S 4 7 = 0) (h_a_1_7 : ar S 1 7 = 0) (h_a_4_6 : ar S 4 6 = 0) (h_a_1_6 : ar S 1 6 = 0) (h_a_3_6 : ar S 3 6 = 0) (h_a_3_2 : ar S 3 2 = 0) (h_a_2_2 : ar S 2 2 = 3) (h_a_0_2 : ar S 0 2 = 0) (h_a_4_3 : ar S 4 3 = 0) (h_a_1_3 : ar S 1 3 = 0) (h_a_4_5 : ar S 4 5 = 0) (h_a_1_5 : ar S 1 5 = 0) (h_a_3_5 : ar S 3 5 = 0) (h_a_3_7 : ar S 3 7 = 0) (h_a_2_1 : ar S 2 1 = 3) (h_a_0_1 : ar S 0 1 = 0) (h_a_4_2 : ar S 4 2 = 0) (h_a_1_2 : ar S 1 2 = 0) (h_a_4_1 : ar S 4 1 = 0) (h_a_1_1 : ar S 1 1 = 0) (h_a_3_1 : ar S 3 1 = 0) (h_a_3_3 : ar S 3 3 = 0) (h_a_2_0 : ar S 2 0 = 3) (h_a_0_0 : ar S 0 0 = 0) (h_i_0 : fi S 0 = 0) : Ct l D cy T0 tB tE yX12_after cX12_after 4 (some .int) 2 47 0 0 (mw cy a S) [.ref (a 0), .int 4, .int 19] (QI D (U := GS) (fun r u => (-1) = r ∧ (si (sl S 2 1649317774848) 24 (-1)) = u) (mw cy a)) := by
  refine Ct.ofZ RX12 "after" [(0, .ref (a 0)), (1, .int 4), (2, .int 19)] rfl rfl rfl rfl (Nat.le_of_ble_eq_true rfl) ?_
  intro p e R s m args below meth c A b
  refine z_iload_n b dX12_after_0 rfl rfl ?_
  refine z_calli b (z_runS (As := [.int 4]) (st := []) b (c_X12_isRow_7 S ) cf_X12_isRow wm_X12_452 ws_X12_isRow dX12_after_1 rfl (Nat.le_of_ble_eq_true rfl) ⟨by decide, by decide, by decide, by decide⟩) (fun r20137 u20138 h20136 => ?_)
  obtain ⟨rfl, rfl⟩ := h20136
  refine z_if_ne_t (tgt := 9) b dX12_after_4 (by decide) (by decide) ?_
  refine z_aload_n b dX12_after_9 rfl rfl ?_
  refine z_iload_n b dX12_after_10 rfl rfl ?_
  refine z_iconst (v := 3) b dX12_after_11 (by decide) ?_
  refine z_iconst (v := 0) b dX12_after_12 (by decide) ?_
  refine z_calli b (z_runV (q0 := 0) (As := [.int 4, .int 3, .int 0]) (st := []) b (c_X12_goes_11 S h_l_0 h_a_38_4) cf_X12_goes (mw_0 cy a S) rfl wm_X12_464 wi_X12_goes ws_X12_goes dX12_after_13 rfl (Nat.le_of_ble_eq_true rfl) ⟨by decide, by decide, by decide, by decide⟩) (fun r20140 u20141 h20139 => ?_)
  obtain ⟨rfl, rfl⟩ := h20139
  refine z_pop b dX12_after_16 rfl ?_
  refine z_aload_n b dX12_after_17 rfl rfl ?_
  refine z_aload_n b dX12_after_18 rfl rfl ?_
  refine z_get (q0 := 0) (k9 := 68) (v := .long 1649317774848) b (mw_0 cy a (si (sl S 2 1649317774848) 24 (-1))) rfl in_X12 (by decide) wf_X12_458 rfl dX12_after_19 ?_
  refine z_callv b (z_runV (q0 := 0) (As := [.long 1649317774848]) (st := []) b (c_X12_takes (si (sl S 2 1649317774848) 24 (-1)) h_a_4_7 h_a_1_7 h_a_4_6 h_a_1_6 h_a_3_6 h_a_3_2 h_a_2_2 h_a_0_2 h_a_4_3 h_a_1_3 h_a_4_5 h_a_1_5 h_a_3_5 h_a_3_7 h_a_2_1 h_a_0_1 h_a_4_2 h_a_1_2 h_a_4_1 h_a_1_1 h_a_3_1 h_a_3_3 h_a_2_0 h_a_0_0 h_i_0) cf_X12_takes (mw_0 cy a (si (sl S 2 1649317774848) 24 (-1))) rfl wm_X12_174 wi_X12_takes ws_X12_takes dX12_after_22 rfl (Nat.le_of_ble_eq_true rfl) ⟨by decide, by decide, by decide, by decide⟩) (fun u20144 h20142 => ?_)
  obtain rfl := h20142
  refine z_iload_n b dX12_after_25 rfl rfl ?_
  refine z_calli b (z_runS (As := [.int 19]) (st := []) b (c_X12_isOne_24 (si (sl S 2 1649317774848) 24 (-1)) ) cf_X12_isOne wm_X12_170 ws_X12_isOne dX12_after_26 rfl (Nat.le_of_ble_eq_true rfl) ⟨by decide, by decide, by decide, by decide⟩) (fun r20146 u20147 h20145 => ?_)
  obtain ⟨rfl, rfl⟩ := h20145
  refine z_if_eq_t (tgt := 39) b dX12_after_29 (by decide) (by decide) ?_
  refine z_iload_n b dX12_after_39 rfl rfl ?_
  refine z_bipush (v := 50) b dX12_after_40 (by decide) ?_
  refine z_icmp_ne_t (tgt := 50) b dX12_after_42 (by decide) (by decide) ?_
  refine z_iload_n b dX12_after_50 rfl rfl ?_
  refine z_bipush (v := 40) b dX12_after_51 (by decide) ?_
  refine z_bipush (v := 42) b dX12_after_53 (by decide) ?_
  refine z_calli b (z_runS (As := [.int 19, .int 40, .int 42]) (st := []) b (c_X12_isIn_117 (si (sl S 2 1649317774848) 24 (-1)) ) cf_X12_isIn wm_X12_1 ws_X12_isIn dX12_after_55 rfl (Nat.le_of_ble_eq_true rfl) ⟨by decide, by decide, by decide, by decide⟩) (fun r20149 u20150 h20148 => ?_)
  obtain ⟨rfl, rfl⟩ := h20148
  refine z_if_eq_t (tgt := 71) b dX12_after_58 (by decide) (by decide) ?_
  refine z_iload_n b dX12_after_71 rfl rfl ?_
  refine z_bipush (v := 10) b dX12_after_72 (by decide) ?_
  refine z_irem (v := 9) b dX12_after_74 (by decide) (by decide) ?_
  refine z_istore_n (lv' := [(3, .int 9), (0, .ref (a 0)), (1, .int 4), (2, .int 19)]) b dX12_after_75 rfl (by decide) rfl ?_
  refine z_iload_n b dX12_after_76 rfl rfl ?_
  refine z_bipush (v := 10) b dX12_after_77 (by decide) ?_
  refine z_bipush (v := 38) b dX12_after_79 (by decide) ?_
  refine z_calli b (z_runS (As := [.int 19, .int 10, .int 38]) (st := []) b (c_X12_isIn_118 (si (sl S 2 1649317774848) 24 (-1)) ) cf_X12_isIn wm_X12_1 ws_X12_isIn dX12_after_81 rfl (Nat.le_of_ble_eq_true rfl) ⟨by decide, by decide, by decide, by decide⟩) (fun r20152 u20153 h20151 => ?_)
  obtain ⟨rfl, rfl⟩ := h20151
  refine z_if_eq_f (tgt := 102) b dX12_after_84 (by decide) (by decide) ?_
  refine z_iload_n b dX12_after_87 rfl rfl ?_
  refine z_bipush (v := 9) b dX12_after_88 (by decide) ?_
  refine z_icmp_eq_t (tgt := 102) b dX12_after_90 (by decide) (by decide) ?_
  refine z_iconst (v := (-1)) b dX12_after_102 (by decide) ?_
  exact z_iret (u := (si (sl S 2 1649317774848) 24 (-1))) b rfl dX12_after_103 ⟨rfl, rfl⟩ rfl (by decide) (by decide)

set_option maxHeartbeats 4000000 in
set_option maxRecDepth 100000 in
theorem c_X11_after_241 {l : Launch} {D : va_G} {cy : Nat → ClassId} {T0 tB tE : Nat} {a : Nat → Nat} {rw : Nat → Option Nat} (S : GS)   : Ct l D cy T0 tB tE yX11_after cX11_after 3 (some .int) 3 62 0 0 (cw cy tE a rw S) [.ref (a 0), .int 4, .int 20] (QI D (U := GS) (fun r u => (-1) = r ∧ S = u) (cw cy tE a rw)) := by
  refine Ct.ofZ RX11 "after" [(0, .ref (a 0)), (1, .int 4), (2, .int 20)] rfl rfl rfl rfl (Nat.le_of_ble_eq_true rfl) ?_
  intro p e R s m args below meth c A b
  refine z_iload_n b dX11_after_0 rfl rfl ?_
  refine z_calli b (z_runS (As := [.int 4]) (st := []) b (c_X11_isRow_7 S ) cf_X11_isRow wm_X11_169 ws_X11_isRow dX11_after_1 rfl (Nat.le_of_ble_eq_true rfl) ⟨by decide, by decide, by decide, by decide⟩) (fun r20155 u20156 h20154 => ?_)
  obtain ⟨rfl, rfl⟩ := h20154
  refine z_if_eq_f (tgt := 14) b dX11_after_4 (by decide) (by decide) ?_
  refine z_iload_n b dX11_after_7 rfl rfl ?_
  refine z_calli b (z_runS (As := [.int 20]) (st := []) b (c_X9_has_23 S ) cf_X9_has wm_X11_191 ws_X9_has dX11_after_8 rfl (Nat.le_of_ble_eq_true rfl) ⟨by decide, by decide, by decide, by decide⟩) (fun r20158 u20159 h20157 => ?_)
  obtain ⟨rfl, rfl⟩ := h20157
  refine z_if_ne_f (tgt := 16) b dX11_after_11 (by decide) (by decide) ?_
  refine z_iconst (v := (-1)) b dX11_after_14 (by decide) ?_
  exact z_iret (u := S) b rfl dX11_after_15 ⟨rfl, rfl⟩ rfl (by decide) (by decide)

set_option maxHeartbeats 4000000 in
set_option maxRecDepth 100000 in
theorem c_X12_after_241 {l : Launch} {D : va_G} {cy : Nat → ClassId} {T0 tB tE : Nat} {a : Nat → Nat} (S : GS)  (h_l_0 : fl S 0 = 1649317774848) (h_a_38_4 : ar S 38 4 = 0) (h_a_4_7 : ar S 4 7 = 0) (h_a_1_7 : ar S 1 7 = 0) (h_a_4_6 : ar S 4 6 = 0) (h_a_1_6 : ar S 1 6 = 0) (h_a_3_6 : ar S 3 6 = 0) (h_a_3_2 : ar S 3 2 = 0) (h_a_2_2 : ar S 2 2 = 3) (h_a_0_2 : ar S 0 2 = 0) (h_a_4_3 : ar S 4 3 = 0) (h_a_1_3 : ar S 1 3 = 0) (h_a_4_5 : ar S 4 5 = 0) (h_a_1_5 : ar S 1 5 = 0) (h_a_3_5 : ar S 3 5 = 0) (h_a_3_7 : ar S 3 7 = 0) (h_a_2_1 : ar S 2 1 = 3) (h_a_0_1 : ar S 0 1 = 0) (h_a_4_2 : ar S 4 2 = 0) (h_a_1_2 : ar S 1 2 = 0) (h_a_4_1 : ar S 4 1 = 0) (h_a_1_1 : ar S 1 1 = 0) (h_a_3_1 : ar S 3 1 = 0) (h_a_3_3 : ar S 3 3 = 0) (h_a_2_0 : ar S 2 0 = 3) (h_a_0_0 : ar S 0 0 = 0) (h_i_0 : fi S 0 = 0) : Ct l D cy T0 tB tE yX12_after cX12_after 4 (some .int) 2 47 0 0 (mw cy a S) [.ref (a 0), .int 4, .int 20] (QI D (U := GS) (fun r u => (-1) = r ∧ (si (sl S 2 1649317774848) 24 (-1)) = u) (mw cy a)) := by
  refine Ct.ofZ RX12 "after" [(0, .ref (a 0)), (1, .int 4), (2, .int 20)] rfl rfl rfl rfl (Nat.le_of_ble_eq_true rfl) ?_
  intro p e R s m args below meth c A b
  refine z_iload_n b dX12_after_0 rfl rfl ?_
  refine z_calli b (z_runS (As := [.int 4]) (st := []) b (c_X12_isRow_7 S ) cf_X12_isRow wm_X12_452 ws_X12_isRow dX12_after_1 rfl (Nat.le_of_ble_eq_true rfl) ⟨by decide, by decide, by decide, by decide⟩) (fun r20161 u20162 h20160 => ?_)
  obtain ⟨rfl, rfl⟩ := h20160
  refine z_if_ne_t (tgt := 9) b dX12_after_4 (by decide) (by decide) ?_
  refine z_aload_n b dX12_after_9 rfl rfl ?_
  refine z_iload_n b dX12_after_10 rfl rfl ?_
  refine z_iconst (v := 3) b dX12_after_11 (by decide) ?_
  refine z_iconst (v := 0) b dX12_after_12 (by decide) ?_
  refine z_calli b (z_runV (q0 := 0) (As := [.int 4, .int 3, .int 0]) (st := []) b (c_X12_goes_11 S h_l_0 h_a_38_4) cf_X12_goes (mw_0 cy a S) rfl wm_X12_464 wi_X12_goes ws_X12_goes dX12_after_13 rfl (Nat.le_of_ble_eq_true rfl) ⟨by decide, by decide, by decide, by decide⟩) (fun r20164 u20165 h20163 => ?_)
  obtain ⟨rfl, rfl⟩ := h20163
  refine z_pop b dX12_after_16 rfl ?_
  refine z_aload_n b dX12_after_17 rfl rfl ?_
  refine z_aload_n b dX12_after_18 rfl rfl ?_
  refine z_get (q0 := 0) (k9 := 68) (v := .long 1649317774848) b (mw_0 cy a (si (sl S 2 1649317774848) 24 (-1))) rfl in_X12 (by decide) wf_X12_458 rfl dX12_after_19 ?_
  refine z_callv b (z_runV (q0 := 0) (As := [.long 1649317774848]) (st := []) b (c_X12_takes (si (sl S 2 1649317774848) 24 (-1)) h_a_4_7 h_a_1_7 h_a_4_6 h_a_1_6 h_a_3_6 h_a_3_2 h_a_2_2 h_a_0_2 h_a_4_3 h_a_1_3 h_a_4_5 h_a_1_5 h_a_3_5 h_a_3_7 h_a_2_1 h_a_0_1 h_a_4_2 h_a_1_2 h_a_4_1 h_a_1_1 h_a_3_1 h_a_3_3 h_a_2_0 h_a_0_0 h_i_0) cf_X12_takes (mw_0 cy a (si (sl S 2 1649317774848) 24 (-1))) rfl wm_X12_174 wi_X12_takes ws_X12_takes dX12_after_22 rfl (Nat.le_of_ble_eq_true rfl) ⟨by decide, by decide, by decide, by decide⟩) (fun u20168 h20166 => ?_)
  obtain rfl := h20166
  refine z_iload_n b dX12_after_25 rfl rfl ?_
  refine z_calli b (z_runS (As := [.int 20]) (st := []) b (c_X12_isOne_25 (si (sl S 2 1649317774848) 24 (-1)) ) cf_X12_isOne wm_X12_170 ws_X12_isOne dX12_after_26 rfl (Nat.le_of_ble_eq_true rfl) ⟨by decide, by decide, by decide, by decide⟩) (fun r20170 u20171 h20169 => ?_)
  obtain ⟨rfl, rfl⟩ := h20169
  refine z_if_eq_t (tgt := 39) b dX12_after_29 (by decide) (by decide) ?_
  refine z_iload_n b dX12_after_39 rfl rfl ?_
  refine z_bipush (v := 50) b dX12_after_40 (by decide) ?_
  refine z_icmp_ne_t (tgt := 50) b dX12_after_42 (by decide) (by decide) ?_
  refine z_iload_n b dX12_after_50 rfl rfl ?_
  refine z_bipush (v := 40) b dX12_after_51 (by decide) ?_
  refine z_bipush (v := 42) b dX12_after_53 (by decide) ?_
  refine z_calli b (z_runS (As := [.int 20, .int 40, .int 42]) (st := []) b (c_X12_isIn_120 (si (sl S 2 1649317774848) 24 (-1)) ) cf_X12_isIn wm_X12_1 ws_X12_isIn dX12_after_55 rfl (Nat.le_of_ble_eq_true rfl) ⟨by decide, by decide, by decide, by decide⟩) (fun r20173 u20174 h20172 => ?_)
  obtain ⟨rfl, rfl⟩ := h20172
  refine z_if_eq_t (tgt := 71) b dX12_after_58 (by decide) (by decide) ?_
  refine z_iload_n b dX12_after_71 rfl rfl ?_
  refine z_bipush (v := 10) b dX12_after_72 (by decide) ?_
  refine z_irem (v := 0) b dX12_after_74 (by decide) (by decide) ?_
  refine z_istore_n (lv' := [(3, .int 0), (0, .ref (a 0)), (1, .int 4), (2, .int 20)]) b dX12_after_75 rfl (by decide) rfl ?_
  refine z_iload_n b dX12_after_76 rfl rfl ?_
  refine z_bipush (v := 10) b dX12_after_77 (by decide) ?_
  refine z_bipush (v := 38) b dX12_after_79 (by decide) ?_
  refine z_calli b (z_runS (As := [.int 20, .int 10, .int 38]) (st := []) b (c_X12_isIn_121 (si (sl S 2 1649317774848) 24 (-1)) ) cf_X12_isIn wm_X12_1 ws_X12_isIn dX12_after_81 rfl (Nat.le_of_ble_eq_true rfl) ⟨by decide, by decide, by decide, by decide⟩) (fun r20176 u20177 h20175 => ?_)
  obtain ⟨rfl, rfl⟩ := h20175
  refine z_if_eq_f (tgt := 102) b dX12_after_84 (by decide) (by decide) ?_
  refine z_iload_n b dX12_after_87 rfl rfl ?_
  refine z_bipush (v := 9) b dX12_after_88 (by decide) ?_
  refine z_icmp_eq_f (tgt := 102) b dX12_after_90 (by decide) (by decide) ?_
  refine z_iload_n b dX12_after_93 rfl rfl ?_
  refine z_iconst (v := 3) b dX12_after_94 (by decide) ?_
  refine z_idiv (v := 0) b dX12_after_95 (by decide) (by decide) ?_
  refine z_iload_n b dX12_after_96 rfl rfl ?_
  refine z_iconst (v := 3) b dX12_after_97 (by decide) ?_
  refine z_irem (v := 0) b dX12_after_98 (by decide) (by decide) ?_
  refine z_icmp_ne_f (tgt := 104) b dX12_after_99 (by decide) (by decide) ?_
  refine z_iconst (v := (-1)) b dX12_after_102 (by decide) ?_
  exact z_iret (u := (si (sl S 2 1649317774848) 24 (-1))) b rfl dX12_after_103 ⟨rfl, rfl⟩ rfl (by decide) (by decide)

set_option maxHeartbeats 4000000 in
set_option maxRecDepth 100000 in
theorem c_X11_after_242 {l : Launch} {D : va_G} {cy : Nat → ClassId} {T0 tB tE : Nat} {a : Nat → Nat} {rw : Nat → Option Nat} (S : GS)  (h_i_14 : fi S 14 = (-1)) (h_i_35 : fi S 35 = 0) (h_a_4_21 : ar S 4 21 = 0) (hrw : ∀ i, i < 6 → rw i = some (a (36 + 2 * i))) : Ct l D cy T0 tB tE yX11_after cX11_after 3 (some .int) 3 86 0 0 (cw cy tE a rw S) [.ref (a 0), .int 4, .int 21] (QI D (U := GS) (fun r u => 0 = r ∧ (sa S 8 (va_cpy (ar S 4) (ar S 8) 0 0 51)) = u) (cw cy tE a rw)) := by
  refine Ct.ofZ RX11 "after" [(0, .ref (a 0)), (1, .int 4), (2, .int 21)] rfl rfl rfl rfl (Nat.le_of_ble_eq_true rfl) ?_
  intro p e R s m args below meth c A b
  refine z_iload_n b dX11_after_0 rfl rfl ?_
  refine z_calli b (z_runS (As := [.int 4]) (st := []) b (c_X11_isRow_7 S ) cf_X11_isRow wm_X11_169 ws_X11_isRow dX11_after_1 rfl (Nat.le_of_ble_eq_true rfl) ⟨by decide, by decide, by decide, by decide⟩) (fun r20179 u20180 h20178 => ?_)
  obtain ⟨rfl, rfl⟩ := h20178
  refine z_if_eq_f (tgt := 14) b dX11_after_4 (by decide) (by decide) ?_
  refine z_iload_n b dX11_after_7 rfl rfl ?_
  refine z_calli b (z_runS (As := [.int 21]) (st := []) b (c_X9_has_24 S ) cf_X9_has wm_X11_191 ws_X9_has dX11_after_8 rfl (Nat.le_of_ble_eq_true rfl) ⟨by decide, by decide, by decide, by decide⟩) (fun r20182 u20183 h20181 => ?_)
  obtain ⟨rfl, rfl⟩ := h20181
  refine z_if_ne_t (tgt := 16) b dX11_after_11 (by decide) (by decide) ?_
  refine z_aload_n b dX11_after_16 rfl rfl ?_
  refine z_get (q0 := 0) (k9 := 5) (v := .ref (a 16)) b (cw_0 cy tE a rw S) rfl in_X11 (by decide) wf_X11_43 rfl dX11_after_17 ?_
  refine z_aload_n b dX11_after_20 rfl rfl ?_
  refine z_get (q0 := 0) (k9 := 7) (v := .ref (a 35)) b (cw_0 cy tE a rw S) rfl in_X11 (by decide) wf_X11_58 rfl dX11_after_21 ?_
  refine z_iload_n b dX11_after_24 rfl rfl ?_
  refine y_aald (q0 := 35) (t0 := 4) (j := 4) (v := .ref (a 44)) b (cw_35 cy tE a rw S) rfl (by decide) (by rw [hrw 4 (by decide)]; rfl) dX11_after_25 ?_
  refine z_aload_n b dX11_after_26 rfl rfl ?_
  refine z_get (q0 := 0) (k9 := 4) (v := .ref (a 14)) b (cw_0 cy tE a rw S) rfl in_X11 (by decide) wf_X11_34 rfl dX11_after_27 ?_
  refine z_iconst (v := 3) b dX11_after_30 (by decide) ?_
  refine z_iconst (v := 0) b dX11_after_31 (by decide) ?_
  refine z_calli b (z_runV (q0 := 16) (As := [.ref (a 44), .ref (a 14), .int 3, .int 0]) (st := []) b (c_X2_follow_11 S h_i_14 h_i_35) cf_X2_follow (cw_16 cy tE a rw S) rfl wm_X11_184 wi_X2_follow ws_X2_follow dX11_after_32 rfl (Nat.le_of_ble_eq_true rfl) ⟨by decide, by decide, by decide, by decide⟩) (fun r20185 u20186 h20184 => ?_)
  obtain ⟨rfl, rfl⟩ := h20184
  refine z_pop b dX11_after_35 rfl ?_
  refine z_aload_n b dX11_after_36 rfl rfl ?_
  refine z_get (q0 := 0) (k9 := 5) (v := .ref (a 16)) b (cw_0 cy tE a rw (sa S 8 (va_cpy (ar S 4) (ar S 8) 0 0 51))) rfl in_X11 (by decide) wf_X11_43 rfl dX11_after_37 ?_
  refine z_get (q0 := 16) (k9 := 3) (v := .ref (a 23)) b (cw_16 cy tE a rw (sa S 8 (va_cpy (ar S 4) (ar S 8) 0 0 51))) rfl in_X2 (by decide) wf_X11_194 rfl dX11_after_40 ?_
  refine z_iload_n b dX11_after_43 rfl rfl ?_
  refine z_calli b (z_runV (q0 := 23) (As := [.int 21]) (st := []) b (c_X9_get_19 (sa S 8 (va_cpy (ar S 4) (ar S 8) 0 0 51)) h_a_4_21) cf_X9_get (cw_23 cy tE a rw (sa S 8 (va_cpy (ar S 4) (ar S 8) 0 0 51))) rfl wm_X11_197 wi_X9_get ws_X9_get dX11_after_44 rfl (Nat.le_of_ble_eq_true rfl) ⟨by decide, by decide, by decide, by decide⟩) (fun r20188 u20189 h20187 => ?_)
  obtain ⟨rfl, rfl⟩ := h20187
  exact z_iret (u := (sa S 8 (va_cpy (ar S 4) (ar S 8) 0 0 51))) b rfl dX11_after_47 ⟨rfl, rfl⟩ rfl (by decide) (by decide)

set_option maxHeartbeats 4000000 in
set_option maxRecDepth 100000 in
theorem c_X12_after_242 {l : Launch} {D : va_G} {cy : Nat → ClassId} {T0 tB tE : Nat} {a : Nat → Nat} (S : GS)  (h_l_0 : fl S 0 = 1649317774848) (h_a_38_4 : ar S 38 4 = 0) (h_a_4_7 : ar S 4 7 = 0) (h_a_1_7 : ar S 1 7 = 0) (h_a_4_6 : ar S 4 6 = 0) (h_a_1_6 : ar S 1 6 = 0) (h_a_3_6 : ar S 3 6 = 0) (h_a_3_2 : ar S 3 2 = 0) (h_a_2_2 : ar S 2 2 = 3) (h_a_0_2 : ar S 0 2 = 0) (h_a_4_3 : ar S 4 3 = 0) (h_a_1_3 : ar S 1 3 = 0) (h_a_4_5 : ar S 4 5 = 0) (h_a_1_5 : ar S 1 5 = 0) (h_a_3_5 : ar S 3 5 = 0) (h_a_3_7 : ar S 3 7 = 0) (h_a_2_1 : ar S 2 1 = 3) (h_a_0_1 : ar S 0 1 = 0) (h_a_4_2 : ar S 4 2 = 0) (h_a_1_2 : ar S 1 2 = 0) (h_a_4_1 : ar S 4 1 = 0) (h_a_1_1 : ar S 1 1 = 0) (h_a_3_1 : ar S 3 1 = 0) (h_a_3_3 : ar S 3 3 = 0) (h_a_2_0 : ar S 2 0 = 3) (h_a_0_0 : ar S 0 0 = 0) (h_i_0 : fi S 0 = 0) : Ct l D cy T0 tB tE yX12_after cX12_after 4 (some .int) 2 47 0 0 (mw cy a S) [.ref (a 0), .int 4, .int 21] (QI D (U := GS) (fun r u => 0 = r ∧ (si (sl S 2 1649317774848) 24 (-1)) = u) (mw cy a)) := by
  refine Ct.ofZ RX12 "after" [(0, .ref (a 0)), (1, .int 4), (2, .int 21)] rfl rfl rfl rfl (Nat.le_of_ble_eq_true rfl) ?_
  intro p e R s m args below meth c A b
  refine z_iload_n b dX12_after_0 rfl rfl ?_
  refine z_calli b (z_runS (As := [.int 4]) (st := []) b (c_X12_isRow_7 S ) cf_X12_isRow wm_X12_452 ws_X12_isRow dX12_after_1 rfl (Nat.le_of_ble_eq_true rfl) ⟨by decide, by decide, by decide, by decide⟩) (fun r20191 u20192 h20190 => ?_)
  obtain ⟨rfl, rfl⟩ := h20190
  refine z_if_ne_t (tgt := 9) b dX12_after_4 (by decide) (by decide) ?_
  refine z_aload_n b dX12_after_9 rfl rfl ?_
  refine z_iload_n b dX12_after_10 rfl rfl ?_
  refine z_iconst (v := 3) b dX12_after_11 (by decide) ?_
  refine z_iconst (v := 0) b dX12_after_12 (by decide) ?_
  refine z_calli b (z_runV (q0 := 0) (As := [.int 4, .int 3, .int 0]) (st := []) b (c_X12_goes_11 S h_l_0 h_a_38_4) cf_X12_goes (mw_0 cy a S) rfl wm_X12_464 wi_X12_goes ws_X12_goes dX12_after_13 rfl (Nat.le_of_ble_eq_true rfl) ⟨by decide, by decide, by decide, by decide⟩) (fun r20194 u20195 h20193 => ?_)
  obtain ⟨rfl, rfl⟩ := h20193
  refine z_pop b dX12_after_16 rfl ?_
  refine z_aload_n b dX12_after_17 rfl rfl ?_
  refine z_aload_n b dX12_after_18 rfl rfl ?_
  refine z_get (q0 := 0) (k9 := 68) (v := .long 1649317774848) b (mw_0 cy a (si (sl S 2 1649317774848) 24 (-1))) rfl in_X12 (by decide) wf_X12_458 rfl dX12_after_19 ?_
  refine z_callv b (z_runV (q0 := 0) (As := [.long 1649317774848]) (st := []) b (c_X12_takes (si (sl S 2 1649317774848) 24 (-1)) h_a_4_7 h_a_1_7 h_a_4_6 h_a_1_6 h_a_3_6 h_a_3_2 h_a_2_2 h_a_0_2 h_a_4_3 h_a_1_3 h_a_4_5 h_a_1_5 h_a_3_5 h_a_3_7 h_a_2_1 h_a_0_1 h_a_4_2 h_a_1_2 h_a_4_1 h_a_1_1 h_a_3_1 h_a_3_3 h_a_2_0 h_a_0_0 h_i_0) cf_X12_takes (mw_0 cy a (si (sl S 2 1649317774848) 24 (-1))) rfl wm_X12_174 wi_X12_takes ws_X12_takes dX12_after_22 rfl (Nat.le_of_ble_eq_true rfl) ⟨by decide, by decide, by decide, by decide⟩) (fun u20198 h20196 => ?_)
  obtain rfl := h20196
  refine z_iload_n b dX12_after_25 rfl rfl ?_
  refine z_calli b (z_runS (As := [.int 21]) (st := []) b (c_X12_isOne_26 (si (sl S 2 1649317774848) 24 (-1)) ) cf_X12_isOne wm_X12_170 ws_X12_isOne dX12_after_26 rfl (Nat.le_of_ble_eq_true rfl) ⟨by decide, by decide, by decide, by decide⟩) (fun r20200 u20201 h20199 => ?_)
  obtain ⟨rfl, rfl⟩ := h20199
  refine z_if_eq_t (tgt := 39) b dX12_after_29 (by decide) (by decide) ?_
  refine z_iload_n b dX12_after_39 rfl rfl ?_
  refine z_bipush (v := 50) b dX12_after_40 (by decide) ?_
  refine z_icmp_ne_t (tgt := 50) b dX12_after_42 (by decide) (by decide) ?_
  refine z_iload_n b dX12_after_50 rfl rfl ?_
  refine z_bipush (v := 40) b dX12_after_51 (by decide) ?_
  refine z_bipush (v := 42) b dX12_after_53 (by decide) ?_
  refine z_calli b (z_runS (As := [.int 21, .int 40, .int 42]) (st := []) b (c_X12_isIn_123 (si (sl S 2 1649317774848) 24 (-1)) ) cf_X12_isIn wm_X12_1 ws_X12_isIn dX12_after_55 rfl (Nat.le_of_ble_eq_true rfl) ⟨by decide, by decide, by decide, by decide⟩) (fun r20203 u20204 h20202 => ?_)
  obtain ⟨rfl, rfl⟩ := h20202
  refine z_if_eq_t (tgt := 71) b dX12_after_58 (by decide) (by decide) ?_
  refine z_iload_n b dX12_after_71 rfl rfl ?_
  refine z_bipush (v := 10) b dX12_after_72 (by decide) ?_
  refine z_irem (v := 1) b dX12_after_74 (by decide) (by decide) ?_
  refine z_istore_n (lv' := [(3, .int 1), (0, .ref (a 0)), (1, .int 4), (2, .int 21)]) b dX12_after_75 rfl (by decide) rfl ?_
  refine z_iload_n b dX12_after_76 rfl rfl ?_
  refine z_bipush (v := 10) b dX12_after_77 (by decide) ?_
  refine z_bipush (v := 38) b dX12_after_79 (by decide) ?_
  refine z_calli b (z_runS (As := [.int 21, .int 10, .int 38]) (st := []) b (c_X12_isIn_124 (si (sl S 2 1649317774848) 24 (-1)) ) cf_X12_isIn wm_X12_1 ws_X12_isIn dX12_after_81 rfl (Nat.le_of_ble_eq_true rfl) ⟨by decide, by decide, by decide, by decide⟩) (fun r20206 u20207 h20205 => ?_)
  obtain ⟨rfl, rfl⟩ := h20205
  refine z_if_eq_f (tgt := 102) b dX12_after_84 (by decide) (by decide) ?_
  refine z_iload_n b dX12_after_87 rfl rfl ?_
  refine z_bipush (v := 9) b dX12_after_88 (by decide) ?_
  refine z_icmp_eq_f (tgt := 102) b dX12_after_90 (by decide) (by decide) ?_
  refine z_iload_n b dX12_after_93 rfl rfl ?_
  refine z_iconst (v := 3) b dX12_after_94 (by decide) ?_
  refine z_idiv (v := 0) b dX12_after_95 (by decide) (by decide) ?_
  refine z_iload_n b dX12_after_96 rfl rfl ?_
  refine z_iconst (v := 3) b dX12_after_97 (by decide) ?_
  refine z_irem (v := 1) b dX12_after_98 (by decide) (by decide) ?_
  refine z_icmp_ne_t (tgt := 104) b dX12_after_99 (by decide) (by decide) ?_
  refine z_iload_n b dX12_after_104 rfl rfl ?_
  refine z_bipush (v := 20) b dX12_after_105 (by decide) ?_
  refine z_icmp_ge_t (tgt := 119) b dX12_after_107 (by decide) (by decide) ?_
  refine z_iload_n b dX12_after_119 rfl rfl ?_
  refine z_bipush (v := 30) b dX12_after_120 (by decide) ?_
  refine z_icmp_ge_f (tgt := 137) b dX12_after_122 (by decide) (by decide) ?_
  refine z_aload_n b dX12_after_125 rfl rfl ?_
  refine z_get (q0 := 0) (k9 := 3) (v := .ref (a 4)) b (mw_0 cy a (si (sl S 2 1649317774848) 24 (-1))) rfl in_X12 (by decide) wf_X12_23 rfl dX12_after_126 ?_
  refine z_iload_n b dX12_after_129 rfl rfl ?_
  refine y_zald (q0 := 4) (j := 1) (v := (ar (si (sl S 2 1649317774848) 24 (-1)) 3 1)) b (mw_4 cy a (si (sl S 2 1649317774848) 24 (-1))) (by decide) rfl dX12_after_130 ?_
  refine z_eqi h_a_3_1 ?_
  refine z_if_eq_t (tgt := 150) b dX12_after_131 (by decide) (by decide) ?_
  refine z_iconst (v := 0) b dX12_after_150 (by decide) ?_
  exact z_iret (u := (si (sl S 2 1649317774848) 24 (-1))) b rfl dX12_after_151 ⟨rfl, rfl⟩ rfl (by decide) (by decide)

set_option maxHeartbeats 4000000 in
set_option maxRecDepth 100000 in
theorem c_X11_after_243 {l : Launch} {D : va_G} {cy : Nat → ClassId} {T0 tB tE : Nat} {a : Nat → Nat} {rw : Nat → Option Nat} (S : GS)  (h_i_14 : fi S 14 = (-1)) (h_i_35 : fi S 35 = 0) (h_a_4_22 : ar S 4 22 = 0) (hrw : ∀ i, i < 6 → rw i = some (a (36 + 2 * i))) : Ct l D cy T0 tB tE yX11_after cX11_after 3 (some .int) 3 86 0 0 (cw cy tE a rw S) [.ref (a 0), .int 4, .int 22] (QI D (U := GS) (fun r u => 0 = r ∧ (sa S 8 (va_cpy (ar S 4) (ar S 8) 0 0 51)) = u) (cw cy tE a rw)) := by
  refine Ct.ofZ RX11 "after" [(0, .ref (a 0)), (1, .int 4), (2, .int 22)] rfl rfl rfl rfl (Nat.le_of_ble_eq_true rfl) ?_
  intro p e R s m args below meth c A b
  refine z_iload_n b dX11_after_0 rfl rfl ?_
  refine z_calli b (z_runS (As := [.int 4]) (st := []) b (c_X11_isRow_7 S ) cf_X11_isRow wm_X11_169 ws_X11_isRow dX11_after_1 rfl (Nat.le_of_ble_eq_true rfl) ⟨by decide, by decide, by decide, by decide⟩) (fun r20209 u20210 h20208 => ?_)
  obtain ⟨rfl, rfl⟩ := h20208
  refine z_if_eq_f (tgt := 14) b dX11_after_4 (by decide) (by decide) ?_
  refine z_iload_n b dX11_after_7 rfl rfl ?_
  refine z_calli b (z_runS (As := [.int 22]) (st := []) b (c_X9_has_25 S ) cf_X9_has wm_X11_191 ws_X9_has dX11_after_8 rfl (Nat.le_of_ble_eq_true rfl) ⟨by decide, by decide, by decide, by decide⟩) (fun r20212 u20213 h20211 => ?_)
  obtain ⟨rfl, rfl⟩ := h20211
  refine z_if_ne_t (tgt := 16) b dX11_after_11 (by decide) (by decide) ?_
  refine z_aload_n b dX11_after_16 rfl rfl ?_
  refine z_get (q0 := 0) (k9 := 5) (v := .ref (a 16)) b (cw_0 cy tE a rw S) rfl in_X11 (by decide) wf_X11_43 rfl dX11_after_17 ?_
  refine z_aload_n b dX11_after_20 rfl rfl ?_
  refine z_get (q0 := 0) (k9 := 7) (v := .ref (a 35)) b (cw_0 cy tE a rw S) rfl in_X11 (by decide) wf_X11_58 rfl dX11_after_21 ?_
  refine z_iload_n b dX11_after_24 rfl rfl ?_
  refine y_aald (q0 := 35) (t0 := 4) (j := 4) (v := .ref (a 44)) b (cw_35 cy tE a rw S) rfl (by decide) (by rw [hrw 4 (by decide)]; rfl) dX11_after_25 ?_
  refine z_aload_n b dX11_after_26 rfl rfl ?_
  refine z_get (q0 := 0) (k9 := 4) (v := .ref (a 14)) b (cw_0 cy tE a rw S) rfl in_X11 (by decide) wf_X11_34 rfl dX11_after_27 ?_
  refine z_iconst (v := 3) b dX11_after_30 (by decide) ?_
  refine z_iconst (v := 0) b dX11_after_31 (by decide) ?_
  refine z_calli b (z_runV (q0 := 16) (As := [.ref (a 44), .ref (a 14), .int 3, .int 0]) (st := []) b (c_X2_follow_11 S h_i_14 h_i_35) cf_X2_follow (cw_16 cy tE a rw S) rfl wm_X11_184 wi_X2_follow ws_X2_follow dX11_after_32 rfl (Nat.le_of_ble_eq_true rfl) ⟨by decide, by decide, by decide, by decide⟩) (fun r20215 u20216 h20214 => ?_)
  obtain ⟨rfl, rfl⟩ := h20214
  refine z_pop b dX11_after_35 rfl ?_
  refine z_aload_n b dX11_after_36 rfl rfl ?_
  refine z_get (q0 := 0) (k9 := 5) (v := .ref (a 16)) b (cw_0 cy tE a rw (sa S 8 (va_cpy (ar S 4) (ar S 8) 0 0 51))) rfl in_X11 (by decide) wf_X11_43 rfl dX11_after_37 ?_
  refine z_get (q0 := 16) (k9 := 3) (v := .ref (a 23)) b (cw_16 cy tE a rw (sa S 8 (va_cpy (ar S 4) (ar S 8) 0 0 51))) rfl in_X2 (by decide) wf_X11_194 rfl dX11_after_40 ?_
  refine z_iload_n b dX11_after_43 rfl rfl ?_
  refine z_calli b (z_runV (q0 := 23) (As := [.int 22]) (st := []) b (c_X9_get_20 (sa S 8 (va_cpy (ar S 4) (ar S 8) 0 0 51)) h_a_4_22) cf_X9_get (cw_23 cy tE a rw (sa S 8 (va_cpy (ar S 4) (ar S 8) 0 0 51))) rfl wm_X11_197 wi_X9_get ws_X9_get dX11_after_44 rfl (Nat.le_of_ble_eq_true rfl) ⟨by decide, by decide, by decide, by decide⟩) (fun r20218 u20219 h20217 => ?_)
  obtain ⟨rfl, rfl⟩ := h20217
  exact z_iret (u := (sa S 8 (va_cpy (ar S 4) (ar S 8) 0 0 51))) b rfl dX11_after_47 ⟨rfl, rfl⟩ rfl (by decide) (by decide)

set_option maxHeartbeats 4000000 in
set_option maxRecDepth 100000 in
theorem c_X12_after_243 {l : Launch} {D : va_G} {cy : Nat → ClassId} {T0 tB tE : Nat} {a : Nat → Nat} (S : GS)  (h_l_0 : fl S 0 = 1649317774848) (h_a_38_4 : ar S 38 4 = 0) (h_a_4_7 : ar S 4 7 = 0) (h_a_1_7 : ar S 1 7 = 0) (h_a_4_6 : ar S 4 6 = 0) (h_a_1_6 : ar S 1 6 = 0) (h_a_3_6 : ar S 3 6 = 0) (h_a_3_2 : ar S 3 2 = 0) (h_a_2_2 : ar S 2 2 = 3) (h_a_0_2 : ar S 0 2 = 0) (h_a_4_3 : ar S 4 3 = 0) (h_a_1_3 : ar S 1 3 = 0) (h_a_4_5 : ar S 4 5 = 0) (h_a_1_5 : ar S 1 5 = 0) (h_a_3_5 : ar S 3 5 = 0) (h_a_3_7 : ar S 3 7 = 0) (h_a_2_1 : ar S 2 1 = 3) (h_a_0_1 : ar S 0 1 = 0) (h_a_4_2 : ar S 4 2 = 0) (h_a_1_2 : ar S 1 2 = 0) (h_a_4_1 : ar S 4 1 = 0) (h_a_1_1 : ar S 1 1 = 0) (h_a_3_1 : ar S 3 1 = 0) (h_a_3_3 : ar S 3 3 = 0) (h_a_2_0 : ar S 2 0 = 3) (h_a_0_0 : ar S 0 0 = 0) (h_i_0 : fi S 0 = 0) : Ct l D cy T0 tB tE yX12_after cX12_after 4 (some .int) 2 47 0 0 (mw cy a S) [.ref (a 0), .int 4, .int 22] (QI D (U := GS) (fun r u => 0 = r ∧ (si (sl S 2 1649317774848) 24 (-1)) = u) (mw cy a)) := by
  refine Ct.ofZ RX12 "after" [(0, .ref (a 0)), (1, .int 4), (2, .int 22)] rfl rfl rfl rfl (Nat.le_of_ble_eq_true rfl) ?_
  intro p e R s m args below meth c A b
  refine z_iload_n b dX12_after_0 rfl rfl ?_
  refine z_calli b (z_runS (As := [.int 4]) (st := []) b (c_X12_isRow_7 S ) cf_X12_isRow wm_X12_452 ws_X12_isRow dX12_after_1 rfl (Nat.le_of_ble_eq_true rfl) ⟨by decide, by decide, by decide, by decide⟩) (fun r20221 u20222 h20220 => ?_)
  obtain ⟨rfl, rfl⟩ := h20220
  refine z_if_ne_t (tgt := 9) b dX12_after_4 (by decide) (by decide) ?_
  refine z_aload_n b dX12_after_9 rfl rfl ?_
  refine z_iload_n b dX12_after_10 rfl rfl ?_
  refine z_iconst (v := 3) b dX12_after_11 (by decide) ?_
  refine z_iconst (v := 0) b dX12_after_12 (by decide) ?_
  refine z_calli b (z_runV (q0 := 0) (As := [.int 4, .int 3, .int 0]) (st := []) b (c_X12_goes_11 S h_l_0 h_a_38_4) cf_X12_goes (mw_0 cy a S) rfl wm_X12_464 wi_X12_goes ws_X12_goes dX12_after_13 rfl (Nat.le_of_ble_eq_true rfl) ⟨by decide, by decide, by decide, by decide⟩) (fun r20224 u20225 h20223 => ?_)
  obtain ⟨rfl, rfl⟩ := h20223
  refine z_pop b dX12_after_16 rfl ?_
  refine z_aload_n b dX12_after_17 rfl rfl ?_
  refine z_aload_n b dX12_after_18 rfl rfl ?_
  refine z_get (q0 := 0) (k9 := 68) (v := .long 1649317774848) b (mw_0 cy a (si (sl S 2 1649317774848) 24 (-1))) rfl in_X12 (by decide) wf_X12_458 rfl dX12_after_19 ?_
  refine z_callv b (z_runV (q0 := 0) (As := [.long 1649317774848]) (st := []) b (c_X12_takes (si (sl S 2 1649317774848) 24 (-1)) h_a_4_7 h_a_1_7 h_a_4_6 h_a_1_6 h_a_3_6 h_a_3_2 h_a_2_2 h_a_0_2 h_a_4_3 h_a_1_3 h_a_4_5 h_a_1_5 h_a_3_5 h_a_3_7 h_a_2_1 h_a_0_1 h_a_4_2 h_a_1_2 h_a_4_1 h_a_1_1 h_a_3_1 h_a_3_3 h_a_2_0 h_a_0_0 h_i_0) cf_X12_takes (mw_0 cy a (si (sl S 2 1649317774848) 24 (-1))) rfl wm_X12_174 wi_X12_takes ws_X12_takes dX12_after_22 rfl (Nat.le_of_ble_eq_true rfl) ⟨by decide, by decide, by decide, by decide⟩) (fun u20228 h20226 => ?_)
  obtain rfl := h20226
  refine z_iload_n b dX12_after_25 rfl rfl ?_
  refine z_calli b (z_runS (As := [.int 22]) (st := []) b (c_X12_isOne_27 (si (sl S 2 1649317774848) 24 (-1)) ) cf_X12_isOne wm_X12_170 ws_X12_isOne dX12_after_26 rfl (Nat.le_of_ble_eq_true rfl) ⟨by decide, by decide, by decide, by decide⟩) (fun r20230 u20231 h20229 => ?_)
  obtain ⟨rfl, rfl⟩ := h20229
  refine z_if_eq_t (tgt := 39) b dX12_after_29 (by decide) (by decide) ?_
  refine z_iload_n b dX12_after_39 rfl rfl ?_
  refine z_bipush (v := 50) b dX12_after_40 (by decide) ?_
  refine z_icmp_ne_t (tgt := 50) b dX12_after_42 (by decide) (by decide) ?_
  refine z_iload_n b dX12_after_50 rfl rfl ?_
  refine z_bipush (v := 40) b dX12_after_51 (by decide) ?_
  refine z_bipush (v := 42) b dX12_after_53 (by decide) ?_
  refine z_calli b (z_runS (As := [.int 22, .int 40, .int 42]) (st := []) b (c_X12_isIn_126 (si (sl S 2 1649317774848) 24 (-1)) ) cf_X12_isIn wm_X12_1 ws_X12_isIn dX12_after_55 rfl (Nat.le_of_ble_eq_true rfl) ⟨by decide, by decide, by decide, by decide⟩) (fun r20233 u20234 h20232 => ?_)
  obtain ⟨rfl, rfl⟩ := h20232
  refine z_if_eq_t (tgt := 71) b dX12_after_58 (by decide) (by decide) ?_
  refine z_iload_n b dX12_after_71 rfl rfl ?_
  refine z_bipush (v := 10) b dX12_after_72 (by decide) ?_
  refine z_irem (v := 2) b dX12_after_74 (by decide) (by decide) ?_
  refine z_istore_n (lv' := [(3, .int 2), (0, .ref (a 0)), (1, .int 4), (2, .int 22)]) b dX12_after_75 rfl (by decide) rfl ?_
  refine z_iload_n b dX12_after_76 rfl rfl ?_
  refine z_bipush (v := 10) b dX12_after_77 (by decide) ?_
  refine z_bipush (v := 38) b dX12_after_79 (by decide) ?_
  refine z_calli b (z_runS (As := [.int 22, .int 10, .int 38]) (st := []) b (c_X12_isIn_127 (si (sl S 2 1649317774848) 24 (-1)) ) cf_X12_isIn wm_X12_1 ws_X12_isIn dX12_after_81 rfl (Nat.le_of_ble_eq_true rfl) ⟨by decide, by decide, by decide, by decide⟩) (fun r20236 u20237 h20235 => ?_)
  obtain ⟨rfl, rfl⟩ := h20235
  refine z_if_eq_f (tgt := 102) b dX12_after_84 (by decide) (by decide) ?_
  refine z_iload_n b dX12_after_87 rfl rfl ?_
  refine z_bipush (v := 9) b dX12_after_88 (by decide) ?_
  refine z_icmp_eq_f (tgt := 102) b dX12_after_90 (by decide) (by decide) ?_
  refine z_iload_n b dX12_after_93 rfl rfl ?_
  refine z_iconst (v := 3) b dX12_after_94 (by decide) ?_
  refine z_idiv (v := 0) b dX12_after_95 (by decide) (by decide) ?_
  refine z_iload_n b dX12_after_96 rfl rfl ?_
  refine z_iconst (v := 3) b dX12_after_97 (by decide) ?_
  refine z_irem (v := 2) b dX12_after_98 (by decide) (by decide) ?_
  refine z_icmp_ne_t (tgt := 104) b dX12_after_99 (by decide) (by decide) ?_
  refine z_iload_n b dX12_after_104 rfl rfl ?_
  refine z_bipush (v := 20) b dX12_after_105 (by decide) ?_
  refine z_icmp_ge_t (tgt := 119) b dX12_after_107 (by decide) (by decide) ?_
  refine z_iload_n b dX12_after_119 rfl rfl ?_
  refine z_bipush (v := 30) b dX12_after_120 (by decide) ?_
  refine z_icmp_ge_f (tgt := 137) b dX12_after_122 (by decide) (by decide) ?_
  refine z_aload_n b dX12_after_125 rfl rfl ?_
  refine z_get (q0 := 0) (k9 := 3) (v := .ref (a 4)) b (mw_0 cy a (si (sl S 2 1649317774848) 24 (-1))) rfl in_X12 (by decide) wf_X12_23 rfl dX12_after_126 ?_
  refine z_iload_n b dX12_after_129 rfl rfl ?_
  refine y_zald (q0 := 4) (j := 2) (v := (ar (si (sl S 2 1649317774848) 24 (-1)) 3 2)) b (mw_4 cy a (si (sl S 2 1649317774848) 24 (-1))) (by decide) rfl dX12_after_130 ?_
  refine z_eqi h_a_3_2 ?_
  refine z_if_eq_t (tgt := 150) b dX12_after_131 (by decide) (by decide) ?_
  refine z_iconst (v := 0) b dX12_after_150 (by decide) ?_
  exact z_iret (u := (si (sl S 2 1649317774848) 24 (-1))) b rfl dX12_after_151 ⟨rfl, rfl⟩ rfl (by decide) (by decide)

set_option maxHeartbeats 4000000 in
set_option maxRecDepth 100000 in
theorem c_X11_after_244 {l : Launch} {D : va_G} {cy : Nat → ClassId} {T0 tB tE : Nat} {a : Nat → Nat} {rw : Nat → Option Nat} (S : GS)  (h_i_14 : fi S 14 = (-1)) (h_i_35 : fi S 35 = 0) (h_a_4_23 : ar S 4 23 = 0) (hrw : ∀ i, i < 6 → rw i = some (a (36 + 2 * i))) : Ct l D cy T0 tB tE yX11_after cX11_after 3 (some .int) 3 86 0 0 (cw cy tE a rw S) [.ref (a 0), .int 4, .int 23] (QI D (U := GS) (fun r u => 0 = r ∧ (sa S 8 (va_cpy (ar S 4) (ar S 8) 0 0 51)) = u) (cw cy tE a rw)) := by
  refine Ct.ofZ RX11 "after" [(0, .ref (a 0)), (1, .int 4), (2, .int 23)] rfl rfl rfl rfl (Nat.le_of_ble_eq_true rfl) ?_
  intro p e R s m args below meth c A b
  refine z_iload_n b dX11_after_0 rfl rfl ?_
  refine z_calli b (z_runS (As := [.int 4]) (st := []) b (c_X11_isRow_7 S ) cf_X11_isRow wm_X11_169 ws_X11_isRow dX11_after_1 rfl (Nat.le_of_ble_eq_true rfl) ⟨by decide, by decide, by decide, by decide⟩) (fun r20239 u20240 h20238 => ?_)
  obtain ⟨rfl, rfl⟩ := h20238
  refine z_if_eq_f (tgt := 14) b dX11_after_4 (by decide) (by decide) ?_
  refine z_iload_n b dX11_after_7 rfl rfl ?_
  refine z_calli b (z_runS (As := [.int 23]) (st := []) b (c_X9_has_26 S ) cf_X9_has wm_X11_191 ws_X9_has dX11_after_8 rfl (Nat.le_of_ble_eq_true rfl) ⟨by decide, by decide, by decide, by decide⟩) (fun r20242 u20243 h20241 => ?_)
  obtain ⟨rfl, rfl⟩ := h20241
  refine z_if_ne_t (tgt := 16) b dX11_after_11 (by decide) (by decide) ?_
  refine z_aload_n b dX11_after_16 rfl rfl ?_
  refine z_get (q0 := 0) (k9 := 5) (v := .ref (a 16)) b (cw_0 cy tE a rw S) rfl in_X11 (by decide) wf_X11_43 rfl dX11_after_17 ?_
  refine z_aload_n b dX11_after_20 rfl rfl ?_
  refine z_get (q0 := 0) (k9 := 7) (v := .ref (a 35)) b (cw_0 cy tE a rw S) rfl in_X11 (by decide) wf_X11_58 rfl dX11_after_21 ?_
  refine z_iload_n b dX11_after_24 rfl rfl ?_
  refine y_aald (q0 := 35) (t0 := 4) (j := 4) (v := .ref (a 44)) b (cw_35 cy tE a rw S) rfl (by decide) (by rw [hrw 4 (by decide)]; rfl) dX11_after_25 ?_
  refine z_aload_n b dX11_after_26 rfl rfl ?_
  refine z_get (q0 := 0) (k9 := 4) (v := .ref (a 14)) b (cw_0 cy tE a rw S) rfl in_X11 (by decide) wf_X11_34 rfl dX11_after_27 ?_
  refine z_iconst (v := 3) b dX11_after_30 (by decide) ?_
  refine z_iconst (v := 0) b dX11_after_31 (by decide) ?_
  refine z_calli b (z_runV (q0 := 16) (As := [.ref (a 44), .ref (a 14), .int 3, .int 0]) (st := []) b (c_X2_follow_11 S h_i_14 h_i_35) cf_X2_follow (cw_16 cy tE a rw S) rfl wm_X11_184 wi_X2_follow ws_X2_follow dX11_after_32 rfl (Nat.le_of_ble_eq_true rfl) ⟨by decide, by decide, by decide, by decide⟩) (fun r20245 u20246 h20244 => ?_)
  obtain ⟨rfl, rfl⟩ := h20244
  refine z_pop b dX11_after_35 rfl ?_
  refine z_aload_n b dX11_after_36 rfl rfl ?_
  refine z_get (q0 := 0) (k9 := 5) (v := .ref (a 16)) b (cw_0 cy tE a rw (sa S 8 (va_cpy (ar S 4) (ar S 8) 0 0 51))) rfl in_X11 (by decide) wf_X11_43 rfl dX11_after_37 ?_
  refine z_get (q0 := 16) (k9 := 3) (v := .ref (a 23)) b (cw_16 cy tE a rw (sa S 8 (va_cpy (ar S 4) (ar S 8) 0 0 51))) rfl in_X2 (by decide) wf_X11_194 rfl dX11_after_40 ?_
  refine z_iload_n b dX11_after_43 rfl rfl ?_
  refine z_calli b (z_runV (q0 := 23) (As := [.int 23]) (st := []) b (c_X9_get_21 (sa S 8 (va_cpy (ar S 4) (ar S 8) 0 0 51)) h_a_4_23) cf_X9_get (cw_23 cy tE a rw (sa S 8 (va_cpy (ar S 4) (ar S 8) 0 0 51))) rfl wm_X11_197 wi_X9_get ws_X9_get dX11_after_44 rfl (Nat.le_of_ble_eq_true rfl) ⟨by decide, by decide, by decide, by decide⟩) (fun r20248 u20249 h20247 => ?_)
  obtain ⟨rfl, rfl⟩ := h20247
  exact z_iret (u := (sa S 8 (va_cpy (ar S 4) (ar S 8) 0 0 51))) b rfl dX11_after_47 ⟨rfl, rfl⟩ rfl (by decide) (by decide)

set_option maxHeartbeats 4000000 in
set_option maxRecDepth 100000 in
theorem c_X12_after_244 {l : Launch} {D : va_G} {cy : Nat → ClassId} {T0 tB tE : Nat} {a : Nat → Nat} (S : GS)  (h_l_0 : fl S 0 = 1649317774848) (h_a_38_4 : ar S 38 4 = 0) (h_a_4_7 : ar S 4 7 = 0) (h_a_1_7 : ar S 1 7 = 0) (h_a_4_6 : ar S 4 6 = 0) (h_a_1_6 : ar S 1 6 = 0) (h_a_3_6 : ar S 3 6 = 0) (h_a_3_2 : ar S 3 2 = 0) (h_a_2_2 : ar S 2 2 = 3) (h_a_0_2 : ar S 0 2 = 0) (h_a_4_3 : ar S 4 3 = 0) (h_a_1_3 : ar S 1 3 = 0) (h_a_4_5 : ar S 4 5 = 0) (h_a_1_5 : ar S 1 5 = 0) (h_a_3_5 : ar S 3 5 = 0) (h_a_3_7 : ar S 3 7 = 0) (h_a_2_1 : ar S 2 1 = 3) (h_a_0_1 : ar S 0 1 = 0) (h_a_4_2 : ar S 4 2 = 0) (h_a_1_2 : ar S 1 2 = 0) (h_a_4_1 : ar S 4 1 = 0) (h_a_1_1 : ar S 1 1 = 0) (h_a_3_1 : ar S 3 1 = 0) (h_a_3_3 : ar S 3 3 = 0) (h_a_2_0 : ar S 2 0 = 3) (h_a_0_0 : ar S 0 0 = 0) (h_i_0 : fi S 0 = 0) : Ct l D cy T0 tB tE yX12_after cX12_after 4 (some .int) 2 47 0 0 (mw cy a S) [.ref (a 0), .int 4, .int 23] (QI D (U := GS) (fun r u => 0 = r ∧ (si (sl S 2 1649317774848) 24 (-1)) = u) (mw cy a)) := by
  refine Ct.ofZ RX12 "after" [(0, .ref (a 0)), (1, .int 4), (2, .int 23)] rfl rfl rfl rfl (Nat.le_of_ble_eq_true rfl) ?_
  intro p e R s m args below meth c A b
  refine z_iload_n b dX12_after_0 rfl rfl ?_
  refine z_calli b (z_runS (As := [.int 4]) (st := []) b (c_X12_isRow_7 S ) cf_X12_isRow wm_X12_452 ws_X12_isRow dX12_after_1 rfl (Nat.le_of_ble_eq_true rfl) ⟨by decide, by decide, by decide, by decide⟩) (fun r20251 u20252 h20250 => ?_)
  obtain ⟨rfl, rfl⟩ := h20250
  refine z_if_ne_t (tgt := 9) b dX12_after_4 (by decide) (by decide) ?_
  refine z_aload_n b dX12_after_9 rfl rfl ?_
  refine z_iload_n b dX12_after_10 rfl rfl ?_
  refine z_iconst (v := 3) b dX12_after_11 (by decide) ?_
  refine z_iconst (v := 0) b dX12_after_12 (by decide) ?_
  refine z_calli b (z_runV (q0 := 0) (As := [.int 4, .int 3, .int 0]) (st := []) b (c_X12_goes_11 S h_l_0 h_a_38_4) cf_X12_goes (mw_0 cy a S) rfl wm_X12_464 wi_X12_goes ws_X12_goes dX12_after_13 rfl (Nat.le_of_ble_eq_true rfl) ⟨by decide, by decide, by decide, by decide⟩) (fun r20254 u20255 h20253 => ?_)
  obtain ⟨rfl, rfl⟩ := h20253
  refine z_pop b dX12_after_16 rfl ?_
  refine z_aload_n b dX12_after_17 rfl rfl ?_
  refine z_aload_n b dX12_after_18 rfl rfl ?_
  refine z_get (q0 := 0) (k9 := 68) (v := .long 1649317774848) b (mw_0 cy a (si (sl S 2 1649317774848) 24 (-1))) rfl in_X12 (by decide) wf_X12_458 rfl dX12_after_19 ?_
  refine z_callv b (z_runV (q0 := 0) (As := [.long 1649317774848]) (st := []) b (c_X12_takes (si (sl S 2 1649317774848) 24 (-1)) h_a_4_7 h_a_1_7 h_a_4_6 h_a_1_6 h_a_3_6 h_a_3_2 h_a_2_2 h_a_0_2 h_a_4_3 h_a_1_3 h_a_4_5 h_a_1_5 h_a_3_5 h_a_3_7 h_a_2_1 h_a_0_1 h_a_4_2 h_a_1_2 h_a_4_1 h_a_1_1 h_a_3_1 h_a_3_3 h_a_2_0 h_a_0_0 h_i_0) cf_X12_takes (mw_0 cy a (si (sl S 2 1649317774848) 24 (-1))) rfl wm_X12_174 wi_X12_takes ws_X12_takes dX12_after_22 rfl (Nat.le_of_ble_eq_true rfl) ⟨by decide, by decide, by decide, by decide⟩) (fun u20258 h20256 => ?_)
  obtain rfl := h20256
  refine z_iload_n b dX12_after_25 rfl rfl ?_
  refine z_calli b (z_runS (As := [.int 23]) (st := []) b (c_X12_isOne_28 (si (sl S 2 1649317774848) 24 (-1)) ) cf_X12_isOne wm_X12_170 ws_X12_isOne dX12_after_26 rfl (Nat.le_of_ble_eq_true rfl) ⟨by decide, by decide, by decide, by decide⟩) (fun r20260 u20261 h20259 => ?_)
  obtain ⟨rfl, rfl⟩ := h20259
  refine z_if_eq_t (tgt := 39) b dX12_after_29 (by decide) (by decide) ?_
  refine z_iload_n b dX12_after_39 rfl rfl ?_
  refine z_bipush (v := 50) b dX12_after_40 (by decide) ?_
  refine z_icmp_ne_t (tgt := 50) b dX12_after_42 (by decide) (by decide) ?_
  refine z_iload_n b dX12_after_50 rfl rfl ?_
  refine z_bipush (v := 40) b dX12_after_51 (by decide) ?_
  refine z_bipush (v := 42) b dX12_after_53 (by decide) ?_
  refine z_calli b (z_runS (As := [.int 23, .int 40, .int 42]) (st := []) b (c_X12_isIn_129 (si (sl S 2 1649317774848) 24 (-1)) ) cf_X12_isIn wm_X12_1 ws_X12_isIn dX12_after_55 rfl (Nat.le_of_ble_eq_true rfl) ⟨by decide, by decide, by decide, by decide⟩) (fun r20263 u20264 h20262 => ?_)
  obtain ⟨rfl, rfl⟩ := h20262
  refine z_if_eq_t (tgt := 71) b dX12_after_58 (by decide) (by decide) ?_
  refine z_iload_n b dX12_after_71 rfl rfl ?_
  refine z_bipush (v := 10) b dX12_after_72 (by decide) ?_
  refine z_irem (v := 3) b dX12_after_74 (by decide) (by decide) ?_
  refine z_istore_n (lv' := [(3, .int 3), (0, .ref (a 0)), (1, .int 4), (2, .int 23)]) b dX12_after_75 rfl (by decide) rfl ?_
  refine z_iload_n b dX12_after_76 rfl rfl ?_
  refine z_bipush (v := 10) b dX12_after_77 (by decide) ?_
  refine z_bipush (v := 38) b dX12_after_79 (by decide) ?_
  refine z_calli b (z_runS (As := [.int 23, .int 10, .int 38]) (st := []) b (c_X12_isIn_130 (si (sl S 2 1649317774848) 24 (-1)) ) cf_X12_isIn wm_X12_1 ws_X12_isIn dX12_after_81 rfl (Nat.le_of_ble_eq_true rfl) ⟨by decide, by decide, by decide, by decide⟩) (fun r20266 u20267 h20265 => ?_)
  obtain ⟨rfl, rfl⟩ := h20265
  refine z_if_eq_f (tgt := 102) b dX12_after_84 (by decide) (by decide) ?_
  refine z_iload_n b dX12_after_87 rfl rfl ?_
  refine z_bipush (v := 9) b dX12_after_88 (by decide) ?_
  refine z_icmp_eq_f (tgt := 102) b dX12_after_90 (by decide) (by decide) ?_
  refine z_iload_n b dX12_after_93 rfl rfl ?_
  refine z_iconst (v := 3) b dX12_after_94 (by decide) ?_
  refine z_idiv (v := 1) b dX12_after_95 (by decide) (by decide) ?_
  refine z_iload_n b dX12_after_96 rfl rfl ?_
  refine z_iconst (v := 3) b dX12_after_97 (by decide) ?_
  refine z_irem (v := 0) b dX12_after_98 (by decide) (by decide) ?_
  refine z_icmp_ne_t (tgt := 104) b dX12_after_99 (by decide) (by decide) ?_
  refine z_iload_n b dX12_after_104 rfl rfl ?_
  refine z_bipush (v := 20) b dX12_after_105 (by decide) ?_
  refine z_icmp_ge_t (tgt := 119) b dX12_after_107 (by decide) (by decide) ?_
  refine z_iload_n b dX12_after_119 rfl rfl ?_
  refine z_bipush (v := 30) b dX12_after_120 (by decide) ?_
  refine z_icmp_ge_f (tgt := 137) b dX12_after_122 (by decide) (by decide) ?_
  refine z_aload_n b dX12_after_125 rfl rfl ?_
  refine z_get (q0 := 0) (k9 := 3) (v := .ref (a 4)) b (mw_0 cy a (si (sl S 2 1649317774848) 24 (-1))) rfl in_X12 (by decide) wf_X12_23 rfl dX12_after_126 ?_
  refine z_iload_n b dX12_after_129 rfl rfl ?_
  refine y_zald (q0 := 4) (j := 3) (v := (ar (si (sl S 2 1649317774848) 24 (-1)) 3 3)) b (mw_4 cy a (si (sl S 2 1649317774848) 24 (-1))) (by decide) rfl dX12_after_130 ?_
  refine z_eqi h_a_3_3 ?_
  refine z_if_eq_t (tgt := 150) b dX12_after_131 (by decide) (by decide) ?_
  refine z_iconst (v := 0) b dX12_after_150 (by decide) ?_
  exact z_iret (u := (si (sl S 2 1649317774848) 24 (-1))) b rfl dX12_after_151 ⟨rfl, rfl⟩ rfl (by decide) (by decide)

set_option maxHeartbeats 4000000 in
set_option maxRecDepth 100000 in
theorem c_X11_after_245 {l : Launch} {D : va_G} {cy : Nat → ClassId} {T0 tB tE : Nat} {a : Nat → Nat} {rw : Nat → Option Nat} (S : GS)   : Ct l D cy T0 tB tE yX11_after cX11_after 3 (some .int) 3 62 0 0 (cw cy tE a rw S) [.ref (a 0), .int 4, .int 24] (QI D (U := GS) (fun r u => (-1) = r ∧ S = u) (cw cy tE a rw)) := by
  refine Ct.ofZ RX11 "after" [(0, .ref (a 0)), (1, .int 4), (2, .int 24)] rfl rfl rfl rfl (Nat.le_of_ble_eq_true rfl) ?_
  intro p e R s m args below meth c A b
  refine z_iload_n b dX11_after_0 rfl rfl ?_
  refine z_calli b (z_runS (As := [.int 4]) (st := []) b (c_X11_isRow_7 S ) cf_X11_isRow wm_X11_169 ws_X11_isRow dX11_after_1 rfl (Nat.le_of_ble_eq_true rfl) ⟨by decide, by decide, by decide, by decide⟩) (fun r20269 u20270 h20268 => ?_)
  obtain ⟨rfl, rfl⟩ := h20268
  refine z_if_eq_f (tgt := 14) b dX11_after_4 (by decide) (by decide) ?_
  refine z_iload_n b dX11_after_7 rfl rfl ?_
  refine z_calli b (z_runS (As := [.int 24]) (st := []) b (c_X9_has_27 S ) cf_X9_has wm_X11_191 ws_X9_has dX11_after_8 rfl (Nat.le_of_ble_eq_true rfl) ⟨by decide, by decide, by decide, by decide⟩) (fun r20272 u20273 h20271 => ?_)
  obtain ⟨rfl, rfl⟩ := h20271
  refine z_if_ne_f (tgt := 16) b dX11_after_11 (by decide) (by decide) ?_
  refine z_iconst (v := (-1)) b dX11_after_14 (by decide) ?_
  exact z_iret (u := S) b rfl dX11_after_15 ⟨rfl, rfl⟩ rfl (by decide) (by decide)

set_option maxHeartbeats 4000000 in
set_option maxRecDepth 100000 in
theorem c_X12_after_245 {l : Launch} {D : va_G} {cy : Nat → ClassId} {T0 tB tE : Nat} {a : Nat → Nat} (S : GS)  (h_l_0 : fl S 0 = 1649317774848) (h_a_38_4 : ar S 38 4 = 0) (h_a_4_7 : ar S 4 7 = 0) (h_a_1_7 : ar S 1 7 = 0) (h_a_4_6 : ar S 4 6 = 0) (h_a_1_6 : ar S 1 6 = 0) (h_a_3_6 : ar S 3 6 = 0) (h_a_3_2 : ar S 3 2 = 0) (h_a_2_2 : ar S 2 2 = 3) (h_a_0_2 : ar S 0 2 = 0) (h_a_4_3 : ar S 4 3 = 0) (h_a_1_3 : ar S 1 3 = 0) (h_a_4_5 : ar S 4 5 = 0) (h_a_1_5 : ar S 1 5 = 0) (h_a_3_5 : ar S 3 5 = 0) (h_a_3_7 : ar S 3 7 = 0) (h_a_2_1 : ar S 2 1 = 3) (h_a_0_1 : ar S 0 1 = 0) (h_a_4_2 : ar S 4 2 = 0) (h_a_1_2 : ar S 1 2 = 0) (h_a_4_1 : ar S 4 1 = 0) (h_a_1_1 : ar S 1 1 = 0) (h_a_3_1 : ar S 3 1 = 0) (h_a_3_3 : ar S 3 3 = 0) (h_a_2_0 : ar S 2 0 = 3) (h_a_0_0 : ar S 0 0 = 0) (h_i_0 : fi S 0 = 0) : Ct l D cy T0 tB tE yX12_after cX12_after 4 (some .int) 2 47 0 0 (mw cy a S) [.ref (a 0), .int 4, .int 24] (QI D (U := GS) (fun r u => (-1) = r ∧ (si (sl S 2 1649317774848) 24 (-1)) = u) (mw cy a)) := by
  refine Ct.ofZ RX12 "after" [(0, .ref (a 0)), (1, .int 4), (2, .int 24)] rfl rfl rfl rfl (Nat.le_of_ble_eq_true rfl) ?_
  intro p e R s m args below meth c A b
  refine z_iload_n b dX12_after_0 rfl rfl ?_
  refine z_calli b (z_runS (As := [.int 4]) (st := []) b (c_X12_isRow_7 S ) cf_X12_isRow wm_X12_452 ws_X12_isRow dX12_after_1 rfl (Nat.le_of_ble_eq_true rfl) ⟨by decide, by decide, by decide, by decide⟩) (fun r20275 u20276 h20274 => ?_)
  obtain ⟨rfl, rfl⟩ := h20274
  refine z_if_ne_t (tgt := 9) b dX12_after_4 (by decide) (by decide) ?_
  refine z_aload_n b dX12_after_9 rfl rfl ?_
  refine z_iload_n b dX12_after_10 rfl rfl ?_
  refine z_iconst (v := 3) b dX12_after_11 (by decide) ?_
  refine z_iconst (v := 0) b dX12_after_12 (by decide) ?_
  refine z_calli b (z_runV (q0 := 0) (As := [.int 4, .int 3, .int 0]) (st := []) b (c_X12_goes_11 S h_l_0 h_a_38_4) cf_X12_goes (mw_0 cy a S) rfl wm_X12_464 wi_X12_goes ws_X12_goes dX12_after_13 rfl (Nat.le_of_ble_eq_true rfl) ⟨by decide, by decide, by decide, by decide⟩) (fun r20278 u20279 h20277 => ?_)
  obtain ⟨rfl, rfl⟩ := h20277
  refine z_pop b dX12_after_16 rfl ?_
  refine z_aload_n b dX12_after_17 rfl rfl ?_
  refine z_aload_n b dX12_after_18 rfl rfl ?_
  refine z_get (q0 := 0) (k9 := 68) (v := .long 1649317774848) b (mw_0 cy a (si (sl S 2 1649317774848) 24 (-1))) rfl in_X12 (by decide) wf_X12_458 rfl dX12_after_19 ?_
  refine z_callv b (z_runV (q0 := 0) (As := [.long 1649317774848]) (st := []) b (c_X12_takes (si (sl S 2 1649317774848) 24 (-1)) h_a_4_7 h_a_1_7 h_a_4_6 h_a_1_6 h_a_3_6 h_a_3_2 h_a_2_2 h_a_0_2 h_a_4_3 h_a_1_3 h_a_4_5 h_a_1_5 h_a_3_5 h_a_3_7 h_a_2_1 h_a_0_1 h_a_4_2 h_a_1_2 h_a_4_1 h_a_1_1 h_a_3_1 h_a_3_3 h_a_2_0 h_a_0_0 h_i_0) cf_X12_takes (mw_0 cy a (si (sl S 2 1649317774848) 24 (-1))) rfl wm_X12_174 wi_X12_takes ws_X12_takes dX12_after_22 rfl (Nat.le_of_ble_eq_true rfl) ⟨by decide, by decide, by decide, by decide⟩) (fun u20282 h20280 => ?_)
  obtain rfl := h20280
  refine z_iload_n b dX12_after_25 rfl rfl ?_
  refine z_calli b (z_runS (As := [.int 24]) (st := []) b (c_X12_isOne_29 (si (sl S 2 1649317774848) 24 (-1)) ) cf_X12_isOne wm_X12_170 ws_X12_isOne dX12_after_26 rfl (Nat.le_of_ble_eq_true rfl) ⟨by decide, by decide, by decide, by decide⟩) (fun r20284 u20285 h20283 => ?_)
  obtain ⟨rfl, rfl⟩ := h20283
  refine z_if_eq_t (tgt := 39) b dX12_after_29 (by decide) (by decide) ?_
  refine z_iload_n b dX12_after_39 rfl rfl ?_
  refine z_bipush (v := 50) b dX12_after_40 (by decide) ?_
  refine z_icmp_ne_t (tgt := 50) b dX12_after_42 (by decide) (by decide) ?_
  refine z_iload_n b dX12_after_50 rfl rfl ?_
  refine z_bipush (v := 40) b dX12_after_51 (by decide) ?_
  refine z_bipush (v := 42) b dX12_after_53 (by decide) ?_
  refine z_calli b (z_runS (As := [.int 24, .int 40, .int 42]) (st := []) b (c_X12_isIn_132 (si (sl S 2 1649317774848) 24 (-1)) ) cf_X12_isIn wm_X12_1 ws_X12_isIn dX12_after_55 rfl (Nat.le_of_ble_eq_true rfl) ⟨by decide, by decide, by decide, by decide⟩) (fun r20287 u20288 h20286 => ?_)
  obtain ⟨rfl, rfl⟩ := h20286
  refine z_if_eq_t (tgt := 71) b dX12_after_58 (by decide) (by decide) ?_
  refine z_iload_n b dX12_after_71 rfl rfl ?_
  refine z_bipush (v := 10) b dX12_after_72 (by decide) ?_
  refine z_irem (v := 4) b dX12_after_74 (by decide) (by decide) ?_
  refine z_istore_n (lv' := [(3, .int 4), (0, .ref (a 0)), (1, .int 4), (2, .int 24)]) b dX12_after_75 rfl (by decide) rfl ?_
  refine z_iload_n b dX12_after_76 rfl rfl ?_
  refine z_bipush (v := 10) b dX12_after_77 (by decide) ?_
  refine z_bipush (v := 38) b dX12_after_79 (by decide) ?_
  refine z_calli b (z_runS (As := [.int 24, .int 10, .int 38]) (st := []) b (c_X12_isIn_133 (si (sl S 2 1649317774848) 24 (-1)) ) cf_X12_isIn wm_X12_1 ws_X12_isIn dX12_after_81 rfl (Nat.le_of_ble_eq_true rfl) ⟨by decide, by decide, by decide, by decide⟩) (fun r20290 u20291 h20289 => ?_)
  obtain ⟨rfl, rfl⟩ := h20289
  refine z_if_eq_f (tgt := 102) b dX12_after_84 (by decide) (by decide) ?_
  refine z_iload_n b dX12_after_87 rfl rfl ?_
  refine z_bipush (v := 9) b dX12_after_88 (by decide) ?_
  refine z_icmp_eq_f (tgt := 102) b dX12_after_90 (by decide) (by decide) ?_
  refine z_iload_n b dX12_after_93 rfl rfl ?_
  refine z_iconst (v := 3) b dX12_after_94 (by decide) ?_
  refine z_idiv (v := 1) b dX12_after_95 (by decide) (by decide) ?_
  refine z_iload_n b dX12_after_96 rfl rfl ?_
  refine z_iconst (v := 3) b dX12_after_97 (by decide) ?_
  refine z_irem (v := 1) b dX12_after_98 (by decide) (by decide) ?_
  refine z_icmp_ne_f (tgt := 104) b dX12_after_99 (by decide) (by decide) ?_
  refine z_iconst (v := (-1)) b dX12_after_102 (by decide) ?_
  exact z_iret (u := (si (sl S 2 1649317774848) 24 (-1))) b rfl dX12_after_103 ⟨rfl, rfl⟩ rfl (by decide) (by decide)

set_option maxHeartbeats 4000000 in
set_option maxRecDepth 100000 in
theorem c_X11_after_246 {l : Launch} {D : va_G} {cy : Nat → ClassId} {T0 tB tE : Nat} {a : Nat → Nat} {rw : Nat → Option Nat} (S : GS)  (h_i_14 : fi S 14 = (-1)) (h_i_35 : fi S 35 = 0) (h_a_4_25 : ar S 4 25 = 0) (hrw : ∀ i, i < 6 → rw i = some (a (36 + 2 * i))) : Ct l D cy T0 tB tE yX11_after cX11_after 3 (some .int) 3 86 0 0 (cw cy tE a rw S) [.ref (a 0), .int 4, .int 25] (QI D (U := GS) (fun r u => 0 = r ∧ (sa S 8 (va_cpy (ar S 4) (ar S 8) 0 0 51)) = u) (cw cy tE a rw)) := by
  refine Ct.ofZ RX11 "after" [(0, .ref (a 0)), (1, .int 4), (2, .int 25)] rfl rfl rfl rfl (Nat.le_of_ble_eq_true rfl) ?_
  intro p e R s m args below meth c A b
  refine z_iload_n b dX11_after_0 rfl rfl ?_
  refine z_calli b (z_runS (As := [.int 4]) (st := []) b (c_X11_isRow_7 S ) cf_X11_isRow wm_X11_169 ws_X11_isRow dX11_after_1 rfl (Nat.le_of_ble_eq_true rfl) ⟨by decide, by decide, by decide, by decide⟩) (fun r20293 u20294 h20292 => ?_)
  obtain ⟨rfl, rfl⟩ := h20292
  refine z_if_eq_f (tgt := 14) b dX11_after_4 (by decide) (by decide) ?_
  refine z_iload_n b dX11_after_7 rfl rfl ?_
  refine z_calli b (z_runS (As := [.int 25]) (st := []) b (c_X9_has_28 S ) cf_X9_has wm_X11_191 ws_X9_has dX11_after_8 rfl (Nat.le_of_ble_eq_true rfl) ⟨by decide, by decide, by decide, by decide⟩) (fun r20296 u20297 h20295 => ?_)
  obtain ⟨rfl, rfl⟩ := h20295
  refine z_if_ne_t (tgt := 16) b dX11_after_11 (by decide) (by decide) ?_
  refine z_aload_n b dX11_after_16 rfl rfl ?_
  refine z_get (q0 := 0) (k9 := 5) (v := .ref (a 16)) b (cw_0 cy tE a rw S) rfl in_X11 (by decide) wf_X11_43 rfl dX11_after_17 ?_
  refine z_aload_n b dX11_after_20 rfl rfl ?_
  refine z_get (q0 := 0) (k9 := 7) (v := .ref (a 35)) b (cw_0 cy tE a rw S) rfl in_X11 (by decide) wf_X11_58 rfl dX11_after_21 ?_
  refine z_iload_n b dX11_after_24 rfl rfl ?_
  refine y_aald (q0 := 35) (t0 := 4) (j := 4) (v := .ref (a 44)) b (cw_35 cy tE a rw S) rfl (by decide) (by rw [hrw 4 (by decide)]; rfl) dX11_after_25 ?_
  refine z_aload_n b dX11_after_26 rfl rfl ?_
  refine z_get (q0 := 0) (k9 := 4) (v := .ref (a 14)) b (cw_0 cy tE a rw S) rfl in_X11 (by decide) wf_X11_34 rfl dX11_after_27 ?_
  refine z_iconst (v := 3) b dX11_after_30 (by decide) ?_
  refine z_iconst (v := 0) b dX11_after_31 (by decide) ?_
  refine z_calli b (z_runV (q0 := 16) (As := [.ref (a 44), .ref (a 14), .int 3, .int 0]) (st := []) b (c_X2_follow_11 S h_i_14 h_i_35) cf_X2_follow (cw_16 cy tE a rw S) rfl wm_X11_184 wi_X2_follow ws_X2_follow dX11_after_32 rfl (Nat.le_of_ble_eq_true rfl) ⟨by decide, by decide, by decide, by decide⟩) (fun r20299 u20300 h20298 => ?_)
  obtain ⟨rfl, rfl⟩ := h20298
  refine z_pop b dX11_after_35 rfl ?_
  refine z_aload_n b dX11_after_36 rfl rfl ?_
  refine z_get (q0 := 0) (k9 := 5) (v := .ref (a 16)) b (cw_0 cy tE a rw (sa S 8 (va_cpy (ar S 4) (ar S 8) 0 0 51))) rfl in_X11 (by decide) wf_X11_43 rfl dX11_after_37 ?_
  refine z_get (q0 := 16) (k9 := 3) (v := .ref (a 23)) b (cw_16 cy tE a rw (sa S 8 (va_cpy (ar S 4) (ar S 8) 0 0 51))) rfl in_X2 (by decide) wf_X11_194 rfl dX11_after_40 ?_
  refine z_iload_n b dX11_after_43 rfl rfl ?_
  refine z_calli b (z_runV (q0 := 23) (As := [.int 25]) (st := []) b (c_X9_get_22 (sa S 8 (va_cpy (ar S 4) (ar S 8) 0 0 51)) h_a_4_25) cf_X9_get (cw_23 cy tE a rw (sa S 8 (va_cpy (ar S 4) (ar S 8) 0 0 51))) rfl wm_X11_197 wi_X9_get ws_X9_get dX11_after_44 rfl (Nat.le_of_ble_eq_true rfl) ⟨by decide, by decide, by decide, by decide⟩) (fun r20302 u20303 h20301 => ?_)
  obtain ⟨rfl, rfl⟩ := h20301
  exact z_iret (u := (sa S 8 (va_cpy (ar S 4) (ar S 8) 0 0 51))) b rfl dX11_after_47 ⟨rfl, rfl⟩ rfl (by decide) (by decide)

set_option maxHeartbeats 4000000 in
set_option maxRecDepth 100000 in
theorem c_X12_after_246 {l : Launch} {D : va_G} {cy : Nat → ClassId} {T0 tB tE : Nat} {a : Nat → Nat} (S : GS)  (h_l_0 : fl S 0 = 1649317774848) (h_a_38_4 : ar S 38 4 = 0) (h_a_4_7 : ar S 4 7 = 0) (h_a_1_7 : ar S 1 7 = 0) (h_a_4_6 : ar S 4 6 = 0) (h_a_1_6 : ar S 1 6 = 0) (h_a_3_6 : ar S 3 6 = 0) (h_a_3_2 : ar S 3 2 = 0) (h_a_2_2 : ar S 2 2 = 3) (h_a_0_2 : ar S 0 2 = 0) (h_a_4_3 : ar S 4 3 = 0) (h_a_1_3 : ar S 1 3 = 0) (h_a_4_5 : ar S 4 5 = 0) (h_a_1_5 : ar S 1 5 = 0) (h_a_3_5 : ar S 3 5 = 0) (h_a_3_7 : ar S 3 7 = 0) (h_a_2_1 : ar S 2 1 = 3) (h_a_0_1 : ar S 0 1 = 0) (h_a_4_2 : ar S 4 2 = 0) (h_a_1_2 : ar S 1 2 = 0) (h_a_4_1 : ar S 4 1 = 0) (h_a_1_1 : ar S 1 1 = 0) (h_a_3_1 : ar S 3 1 = 0) (h_a_3_3 : ar S 3 3 = 0) (h_a_2_0 : ar S 2 0 = 3) (h_a_0_0 : ar S 0 0 = 0) (h_i_0 : fi S 0 = 0) : Ct l D cy T0 tB tE yX12_after cX12_after 4 (some .int) 2 47 0 0 (mw cy a S) [.ref (a 0), .int 4, .int 25] (QI D (U := GS) (fun r u => 0 = r ∧ (si (sl S 2 1649317774848) 24 (-1)) = u) (mw cy a)) := by
  refine Ct.ofZ RX12 "after" [(0, .ref (a 0)), (1, .int 4), (2, .int 25)] rfl rfl rfl rfl (Nat.le_of_ble_eq_true rfl) ?_
  intro p e R s m args below meth c A b
  refine z_iload_n b dX12_after_0 rfl rfl ?_
  refine z_calli b (z_runS (As := [.int 4]) (st := []) b (c_X12_isRow_7 S ) cf_X12_isRow wm_X12_452 ws_X12_isRow dX12_after_1 rfl (Nat.le_of_ble_eq_true rfl) ⟨by decide, by decide, by decide, by decide⟩) (fun r20305 u20306 h20304 => ?_)
  obtain ⟨rfl, rfl⟩ := h20304
  refine z_if_ne_t (tgt := 9) b dX12_after_4 (by decide) (by decide) ?_
  refine z_aload_n b dX12_after_9 rfl rfl ?_
  refine z_iload_n b dX12_after_10 rfl rfl ?_
  refine z_iconst (v := 3) b dX12_after_11 (by decide) ?_
  refine z_iconst (v := 0) b dX12_after_12 (by decide) ?_
  refine z_calli b (z_runV (q0 := 0) (As := [.int 4, .int 3, .int 0]) (st := []) b (c_X12_goes_11 S h_l_0 h_a_38_4) cf_X12_goes (mw_0 cy a S) rfl wm_X12_464 wi_X12_goes ws_X12_goes dX12_after_13 rfl (Nat.le_of_ble_eq_true rfl) ⟨by decide, by decide, by decide, by decide⟩) (fun r20308 u20309 h20307 => ?_)
  obtain ⟨rfl, rfl⟩ := h20307
  refine z_pop b dX12_after_16 rfl ?_
  refine z_aload_n b dX12_after_17 rfl rfl ?_
  refine z_aload_n b dX12_after_18 rfl rfl ?_
  refine z_get (q0 := 0) (k9 := 68) (v := .long 1649317774848) b (mw_0 cy a (si (sl S 2 1649317774848) 24 (-1))) rfl in_X12 (by decide) wf_X12_458 rfl dX12_after_19 ?_
  refine z_callv b (z_runV (q0 := 0) (As := [.long 1649317774848]) (st := []) b (c_X12_takes (si (sl S 2 1649317774848) 24 (-1)) h_a_4_7 h_a_1_7 h_a_4_6 h_a_1_6 h_a_3_6 h_a_3_2 h_a_2_2 h_a_0_2 h_a_4_3 h_a_1_3 h_a_4_5 h_a_1_5 h_a_3_5 h_a_3_7 h_a_2_1 h_a_0_1 h_a_4_2 h_a_1_2 h_a_4_1 h_a_1_1 h_a_3_1 h_a_3_3 h_a_2_0 h_a_0_0 h_i_0) cf_X12_takes (mw_0 cy a (si (sl S 2 1649317774848) 24 (-1))) rfl wm_X12_174 wi_X12_takes ws_X12_takes dX12_after_22 rfl (Nat.le_of_ble_eq_true rfl) ⟨by decide, by decide, by decide, by decide⟩) (fun u20312 h20310 => ?_)
  obtain rfl := h20310
  refine z_iload_n b dX12_after_25 rfl rfl ?_
  refine z_calli b (z_runS (As := [.int 25]) (st := []) b (c_X12_isOne_30 (si (sl S 2 1649317774848) 24 (-1)) ) cf_X12_isOne wm_X12_170 ws_X12_isOne dX12_after_26 rfl (Nat.le_of_ble_eq_true rfl) ⟨by decide, by decide, by decide, by decide⟩) (fun r20314 u20315 h20313 => ?_)
  obtain ⟨rfl, rfl⟩ := h20313
  refine z_if_eq_t (tgt := 39) b dX12_after_29 (by decide) (by decide) ?_
  refine z_iload_n b dX12_after_39 rfl rfl ?_
  refine z_bipush (v := 50) b dX12_after_40 (by decide) ?_
  refine z_icmp_ne_t (tgt := 50) b dX12_after_42 (by decide) (by decide) ?_
  refine z_iload_n b dX12_after_50 rfl rfl ?_
  refine z_bipush (v := 40) b dX12_after_51 (by decide) ?_
  refine z_bipush (v := 42) b dX12_after_53 (by decide) ?_
  refine z_calli b (z_runS (As := [.int 25, .int 40, .int 42]) (st := []) b (c_X12_isIn_135 (si (sl S 2 1649317774848) 24 (-1)) ) cf_X12_isIn wm_X12_1 ws_X12_isIn dX12_after_55 rfl (Nat.le_of_ble_eq_true rfl) ⟨by decide, by decide, by decide, by decide⟩) (fun r20317 u20318 h20316 => ?_)
  obtain ⟨rfl, rfl⟩ := h20316
  refine z_if_eq_t (tgt := 71) b dX12_after_58 (by decide) (by decide) ?_
  refine z_iload_n b dX12_after_71 rfl rfl ?_
  refine z_bipush (v := 10) b dX12_after_72 (by decide) ?_
  refine z_irem (v := 5) b dX12_after_74 (by decide) (by decide) ?_
  refine z_istore_n (lv' := [(3, .int 5), (0, .ref (a 0)), (1, .int 4), (2, .int 25)]) b dX12_after_75 rfl (by decide) rfl ?_
  refine z_iload_n b dX12_after_76 rfl rfl ?_
  refine z_bipush (v := 10) b dX12_after_77 (by decide) ?_
  refine z_bipush (v := 38) b dX12_after_79 (by decide) ?_
  refine z_calli b (z_runS (As := [.int 25, .int 10, .int 38]) (st := []) b (c_X12_isIn_136 (si (sl S 2 1649317774848) 24 (-1)) ) cf_X12_isIn wm_X12_1 ws_X12_isIn dX12_after_81 rfl (Nat.le_of_ble_eq_true rfl) ⟨by decide, by decide, by decide, by decide⟩) (fun r20320 u20321 h20319 => ?_)
  obtain ⟨rfl, rfl⟩ := h20319
  refine z_if_eq_f (tgt := 102) b dX12_after_84 (by decide) (by decide) ?_
  refine z_iload_n b dX12_after_87 rfl rfl ?_
  refine z_bipush (v := 9) b dX12_after_88 (by decide) ?_
  refine z_icmp_eq_f (tgt := 102) b dX12_after_90 (by decide) (by decide) ?_
  refine z_iload_n b dX12_after_93 rfl rfl ?_
  refine z_iconst (v := 3) b dX12_after_94 (by decide) ?_
  refine z_idiv (v := 1) b dX12_after_95 (by decide) (by decide) ?_
  refine z_iload_n b dX12_after_96 rfl rfl ?_
  refine z_iconst (v := 3) b dX12_after_97 (by decide) ?_
  refine z_irem (v := 2) b dX12_after_98 (by decide) (by decide) ?_
  refine z_icmp_ne_t (tgt := 104) b dX12_after_99 (by decide) (by decide) ?_
  refine z_iload_n b dX12_after_104 rfl rfl ?_
  refine z_bipush (v := 20) b dX12_after_105 (by decide) ?_
  refine z_icmp_ge_t (tgt := 119) b dX12_after_107 (by decide) (by decide) ?_
  refine z_iload_n b dX12_after_119 rfl rfl ?_
  refine z_bipush (v := 30) b dX12_after_120 (by decide) ?_
  refine z_icmp_ge_f (tgt := 137) b dX12_after_122 (by decide) (by decide) ?_
  refine z_aload_n b dX12_after_125 rfl rfl ?_
  refine z_get (q0 := 0) (k9 := 3) (v := .ref (a 4)) b (mw_0 cy a (si (sl S 2 1649317774848) 24 (-1))) rfl in_X12 (by decide) wf_X12_23 rfl dX12_after_126 ?_
  refine z_iload_n b dX12_after_129 rfl rfl ?_
  refine y_zald (q0 := 4) (j := 5) (v := (ar (si (sl S 2 1649317774848) 24 (-1)) 3 5)) b (mw_4 cy a (si (sl S 2 1649317774848) 24 (-1))) (by decide) rfl dX12_after_130 ?_
  refine z_eqi h_a_3_5 ?_
  refine z_if_eq_t (tgt := 150) b dX12_after_131 (by decide) (by decide) ?_
  refine z_iconst (v := 0) b dX12_after_150 (by decide) ?_
  exact z_iret (u := (si (sl S 2 1649317774848) 24 (-1))) b rfl dX12_after_151 ⟨rfl, rfl⟩ rfl (by decide) (by decide)

set_option maxHeartbeats 4000000 in
set_option maxRecDepth 100000 in
theorem c_X11_after_247 {l : Launch} {D : va_G} {cy : Nat → ClassId} {T0 tB tE : Nat} {a : Nat → Nat} {rw : Nat → Option Nat} (S : GS)  (h_i_14 : fi S 14 = (-1)) (h_i_35 : fi S 35 = 0) (h_a_4_26 : ar S 4 26 = 0) (hrw : ∀ i, i < 6 → rw i = some (a (36 + 2 * i))) : Ct l D cy T0 tB tE yX11_after cX11_after 3 (some .int) 3 86 0 0 (cw cy tE a rw S) [.ref (a 0), .int 4, .int 26] (QI D (U := GS) (fun r u => 0 = r ∧ (sa S 8 (va_cpy (ar S 4) (ar S 8) 0 0 51)) = u) (cw cy tE a rw)) := by
  refine Ct.ofZ RX11 "after" [(0, .ref (a 0)), (1, .int 4), (2, .int 26)] rfl rfl rfl rfl (Nat.le_of_ble_eq_true rfl) ?_
  intro p e R s m args below meth c A b
  refine z_iload_n b dX11_after_0 rfl rfl ?_
  refine z_calli b (z_runS (As := [.int 4]) (st := []) b (c_X11_isRow_7 S ) cf_X11_isRow wm_X11_169 ws_X11_isRow dX11_after_1 rfl (Nat.le_of_ble_eq_true rfl) ⟨by decide, by decide, by decide, by decide⟩) (fun r20323 u20324 h20322 => ?_)
  obtain ⟨rfl, rfl⟩ := h20322
  refine z_if_eq_f (tgt := 14) b dX11_after_4 (by decide) (by decide) ?_
  refine z_iload_n b dX11_after_7 rfl rfl ?_
  refine z_calli b (z_runS (As := [.int 26]) (st := []) b (c_X9_has_29 S ) cf_X9_has wm_X11_191 ws_X9_has dX11_after_8 rfl (Nat.le_of_ble_eq_true rfl) ⟨by decide, by decide, by decide, by decide⟩) (fun r20326 u20327 h20325 => ?_)
  obtain ⟨rfl, rfl⟩ := h20325
  refine z_if_ne_t (tgt := 16) b dX11_after_11 (by decide) (by decide) ?_
  refine z_aload_n b dX11_after_16 rfl rfl ?_
  refine z_get (q0 := 0) (k9 := 5) (v := .ref (a 16)) b (cw_0 cy tE a rw S) rfl in_X11 (by decide) wf_X11_43 rfl dX11_after_17 ?_
  refine z_aload_n b dX11_after_20 rfl rfl ?_
  refine z_get (q0 := 0) (k9 := 7) (v := .ref (a 35)) b (cw_0 cy tE a rw S) rfl in_X11 (by decide) wf_X11_58 rfl dX11_after_21 ?_
  refine z_iload_n b dX11_after_24 rfl rfl ?_
  refine y_aald (q0 := 35) (t0 := 4) (j := 4) (v := .ref (a 44)) b (cw_35 cy tE a rw S) rfl (by decide) (by rw [hrw 4 (by decide)]; rfl) dX11_after_25 ?_
  refine z_aload_n b dX11_after_26 rfl rfl ?_
  refine z_get (q0 := 0) (k9 := 4) (v := .ref (a 14)) b (cw_0 cy tE a rw S) rfl in_X11 (by decide) wf_X11_34 rfl dX11_after_27 ?_
  refine z_iconst (v := 3) b dX11_after_30 (by decide) ?_
  refine z_iconst (v := 0) b dX11_after_31 (by decide) ?_
  refine z_calli b (z_runV (q0 := 16) (As := [.ref (a 44), .ref (a 14), .int 3, .int 0]) (st := []) b (c_X2_follow_11 S h_i_14 h_i_35) cf_X2_follow (cw_16 cy tE a rw S) rfl wm_X11_184 wi_X2_follow ws_X2_follow dX11_after_32 rfl (Nat.le_of_ble_eq_true rfl) ⟨by decide, by decide, by decide, by decide⟩) (fun r20329 u20330 h20328 => ?_)
  obtain ⟨rfl, rfl⟩ := h20328
  refine z_pop b dX11_after_35 rfl ?_
  refine z_aload_n b dX11_after_36 rfl rfl ?_
  refine z_get (q0 := 0) (k9 := 5) (v := .ref (a 16)) b (cw_0 cy tE a rw (sa S 8 (va_cpy (ar S 4) (ar S 8) 0 0 51))) rfl in_X11 (by decide) wf_X11_43 rfl dX11_after_37 ?_
  refine z_get (q0 := 16) (k9 := 3) (v := .ref (a 23)) b (cw_16 cy tE a rw (sa S 8 (va_cpy (ar S 4) (ar S 8) 0 0 51))) rfl in_X2 (by decide) wf_X11_194 rfl dX11_after_40 ?_
  refine z_iload_n b dX11_after_43 rfl rfl ?_
  refine z_calli b (z_runV (q0 := 23) (As := [.int 26]) (st := []) b (c_X9_get_23 (sa S 8 (va_cpy (ar S 4) (ar S 8) 0 0 51)) h_a_4_26) cf_X9_get (cw_23 cy tE a rw (sa S 8 (va_cpy (ar S 4) (ar S 8) 0 0 51))) rfl wm_X11_197 wi_X9_get ws_X9_get dX11_after_44 rfl (Nat.le_of_ble_eq_true rfl) ⟨by decide, by decide, by decide, by decide⟩) (fun r20332 u20333 h20331 => ?_)
  obtain ⟨rfl, rfl⟩ := h20331
  exact z_iret (u := (sa S 8 (va_cpy (ar S 4) (ar S 8) 0 0 51))) b rfl dX11_after_47 ⟨rfl, rfl⟩ rfl (by decide) (by decide)

set_option maxHeartbeats 4000000 in
set_option maxRecDepth 100000 in
theorem c_X12_after_247 {l : Launch} {D : va_G} {cy : Nat → ClassId} {T0 tB tE : Nat} {a : Nat → Nat} (S : GS)  (h_l_0 : fl S 0 = 1649317774848) (h_a_38_4 : ar S 38 4 = 0) (h_a_4_7 : ar S 4 7 = 0) (h_a_1_7 : ar S 1 7 = 0) (h_a_4_6 : ar S 4 6 = 0) (h_a_1_6 : ar S 1 6 = 0) (h_a_3_6 : ar S 3 6 = 0) (h_a_3_2 : ar S 3 2 = 0) (h_a_2_2 : ar S 2 2 = 3) (h_a_0_2 : ar S 0 2 = 0) (h_a_4_3 : ar S 4 3 = 0) (h_a_1_3 : ar S 1 3 = 0) (h_a_4_5 : ar S 4 5 = 0) (h_a_1_5 : ar S 1 5 = 0) (h_a_3_5 : ar S 3 5 = 0) (h_a_3_7 : ar S 3 7 = 0) (h_a_2_1 : ar S 2 1 = 3) (h_a_0_1 : ar S 0 1 = 0) (h_a_4_2 : ar S 4 2 = 0) (h_a_1_2 : ar S 1 2 = 0) (h_a_4_1 : ar S 4 1 = 0) (h_a_1_1 : ar S 1 1 = 0) (h_a_3_1 : ar S 3 1 = 0) (h_a_3_3 : ar S 3 3 = 0) (h_a_2_0 : ar S 2 0 = 3) (h_a_0_0 : ar S 0 0 = 0) (h_i_0 : fi S 0 = 0) : Ct l D cy T0 tB tE yX12_after cX12_after 4 (some .int) 2 47 0 0 (mw cy a S) [.ref (a 0), .int 4, .int 26] (QI D (U := GS) (fun r u => 0 = r ∧ (si (sl S 2 1649317774848) 24 (-1)) = u) (mw cy a)) := by
  refine Ct.ofZ RX12 "after" [(0, .ref (a 0)), (1, .int 4), (2, .int 26)] rfl rfl rfl rfl (Nat.le_of_ble_eq_true rfl) ?_
  intro p e R s m args below meth c A b
  refine z_iload_n b dX12_after_0 rfl rfl ?_
  refine z_calli b (z_runS (As := [.int 4]) (st := []) b (c_X12_isRow_7 S ) cf_X12_isRow wm_X12_452 ws_X12_isRow dX12_after_1 rfl (Nat.le_of_ble_eq_true rfl) ⟨by decide, by decide, by decide, by decide⟩) (fun r20335 u20336 h20334 => ?_)
  obtain ⟨rfl, rfl⟩ := h20334
  refine z_if_ne_t (tgt := 9) b dX12_after_4 (by decide) (by decide) ?_
  refine z_aload_n b dX12_after_9 rfl rfl ?_
  refine z_iload_n b dX12_after_10 rfl rfl ?_
  refine z_iconst (v := 3) b dX12_after_11 (by decide) ?_
  refine z_iconst (v := 0) b dX12_after_12 (by decide) ?_
  refine z_calli b (z_runV (q0 := 0) (As := [.int 4, .int 3, .int 0]) (st := []) b (c_X12_goes_11 S h_l_0 h_a_38_4) cf_X12_goes (mw_0 cy a S) rfl wm_X12_464 wi_X12_goes ws_X12_goes dX12_after_13 rfl (Nat.le_of_ble_eq_true rfl) ⟨by decide, by decide, by decide, by decide⟩) (fun r20338 u20339 h20337 => ?_)
  obtain ⟨rfl, rfl⟩ := h20337
  refine z_pop b dX12_after_16 rfl ?_
  refine z_aload_n b dX12_after_17 rfl rfl ?_
  refine z_aload_n b dX12_after_18 rfl rfl ?_
  refine z_get (q0 := 0) (k9 := 68) (v := .long 1649317774848) b (mw_0 cy a (si (sl S 2 1649317774848) 24 (-1))) rfl in_X12 (by decide) wf_X12_458 rfl dX12_after_19 ?_
  refine z_callv b (z_runV (q0 := 0) (As := [.long 1649317774848]) (st := []) b (c_X12_takes (si (sl S 2 1649317774848) 24 (-1)) h_a_4_7 h_a_1_7 h_a_4_6 h_a_1_6 h_a_3_6 h_a_3_2 h_a_2_2 h_a_0_2 h_a_4_3 h_a_1_3 h_a_4_5 h_a_1_5 h_a_3_5 h_a_3_7 h_a_2_1 h_a_0_1 h_a_4_2 h_a_1_2 h_a_4_1 h_a_1_1 h_a_3_1 h_a_3_3 h_a_2_0 h_a_0_0 h_i_0) cf_X12_takes (mw_0 cy a (si (sl S 2 1649317774848) 24 (-1))) rfl wm_X12_174 wi_X12_takes ws_X12_takes dX12_after_22 rfl (Nat.le_of_ble_eq_true rfl) ⟨by decide, by decide, by decide, by decide⟩) (fun u20342 h20340 => ?_)
  obtain rfl := h20340
  refine z_iload_n b dX12_after_25 rfl rfl ?_
  refine z_calli b (z_runS (As := [.int 26]) (st := []) b (c_X12_isOne_31 (si (sl S 2 1649317774848) 24 (-1)) ) cf_X12_isOne wm_X12_170 ws_X12_isOne dX12_after_26 rfl (Nat.le_of_ble_eq_true rfl) ⟨by decide, by decide, by decide, by decide⟩) (fun r20344 u20345 h20343 => ?_)
  obtain ⟨rfl, rfl⟩ := h20343
  refine z_if_eq_t (tgt := 39) b dX12_after_29 (by decide) (by decide) ?_
  refine z_iload_n b dX12_after_39 rfl rfl ?_
  refine z_bipush (v := 50) b dX12_after_40 (by decide) ?_
  refine z_icmp_ne_t (tgt := 50) b dX12_after_42 (by decide) (by decide) ?_
  refine z_iload_n b dX12_after_50 rfl rfl ?_
  refine z_bipush (v := 40) b dX12_after_51 (by decide) ?_
  refine z_bipush (v := 42) b dX12_after_53 (by decide) ?_
  refine z_calli b (z_runS (As := [.int 26, .int 40, .int 42]) (st := []) b (c_X12_isIn_138 (si (sl S 2 1649317774848) 24 (-1)) ) cf_X12_isIn wm_X12_1 ws_X12_isIn dX12_after_55 rfl (Nat.le_of_ble_eq_true rfl) ⟨by decide, by decide, by decide, by decide⟩) (fun r20347 u20348 h20346 => ?_)
  obtain ⟨rfl, rfl⟩ := h20346
  refine z_if_eq_t (tgt := 71) b dX12_after_58 (by decide) (by decide) ?_
  refine z_iload_n b dX12_after_71 rfl rfl ?_
  refine z_bipush (v := 10) b dX12_after_72 (by decide) ?_
  refine z_irem (v := 6) b dX12_after_74 (by decide) (by decide) ?_
  refine z_istore_n (lv' := [(3, .int 6), (0, .ref (a 0)), (1, .int 4), (2, .int 26)]) b dX12_after_75 rfl (by decide) rfl ?_
  refine z_iload_n b dX12_after_76 rfl rfl ?_
  refine z_bipush (v := 10) b dX12_after_77 (by decide) ?_
  refine z_bipush (v := 38) b dX12_after_79 (by decide) ?_
  refine z_calli b (z_runS (As := [.int 26, .int 10, .int 38]) (st := []) b (c_X12_isIn_139 (si (sl S 2 1649317774848) 24 (-1)) ) cf_X12_isIn wm_X12_1 ws_X12_isIn dX12_after_81 rfl (Nat.le_of_ble_eq_true rfl) ⟨by decide, by decide, by decide, by decide⟩) (fun r20350 u20351 h20349 => ?_)
  obtain ⟨rfl, rfl⟩ := h20349
  refine z_if_eq_f (tgt := 102) b dX12_after_84 (by decide) (by decide) ?_
  refine z_iload_n b dX12_after_87 rfl rfl ?_
  refine z_bipush (v := 9) b dX12_after_88 (by decide) ?_
  refine z_icmp_eq_f (tgt := 102) b dX12_after_90 (by decide) (by decide) ?_
  refine z_iload_n b dX12_after_93 rfl rfl ?_
  refine z_iconst (v := 3) b dX12_after_94 (by decide) ?_
  refine z_idiv (v := 2) b dX12_after_95 (by decide) (by decide) ?_
  refine z_iload_n b dX12_after_96 rfl rfl ?_
  refine z_iconst (v := 3) b dX12_after_97 (by decide) ?_
  refine z_irem (v := 0) b dX12_after_98 (by decide) (by decide) ?_
  refine z_icmp_ne_t (tgt := 104) b dX12_after_99 (by decide) (by decide) ?_
  refine z_iload_n b dX12_after_104 rfl rfl ?_
  refine z_bipush (v := 20) b dX12_after_105 (by decide) ?_
  refine z_icmp_ge_t (tgt := 119) b dX12_after_107 (by decide) (by decide) ?_
  refine z_iload_n b dX12_after_119 rfl rfl ?_
  refine z_bipush (v := 30) b dX12_after_120 (by decide) ?_
  refine z_icmp_ge_f (tgt := 137) b dX12_after_122 (by decide) (by decide) ?_
  refine z_aload_n b dX12_after_125 rfl rfl ?_
  refine z_get (q0 := 0) (k9 := 3) (v := .ref (a 4)) b (mw_0 cy a (si (sl S 2 1649317774848) 24 (-1))) rfl in_X12 (by decide) wf_X12_23 rfl dX12_after_126 ?_
  refine z_iload_n b dX12_after_129 rfl rfl ?_
  refine y_zald (q0 := 4) (j := 6) (v := (ar (si (sl S 2 1649317774848) 24 (-1)) 3 6)) b (mw_4 cy a (si (sl S 2 1649317774848) 24 (-1))) (by decide) rfl dX12_after_130 ?_
  refine z_eqi h_a_3_6 ?_
  refine z_if_eq_t (tgt := 150) b dX12_after_131 (by decide) (by decide) ?_
  refine z_iconst (v := 0) b dX12_after_150 (by decide) ?_
  exact z_iret (u := (si (sl S 2 1649317774848) 24 (-1))) b rfl dX12_after_151 ⟨rfl, rfl⟩ rfl (by decide) (by decide)

set_option maxHeartbeats 4000000 in
set_option maxRecDepth 100000 in
theorem c_X11_after_248 {l : Launch} {D : va_G} {cy : Nat → ClassId} {T0 tB tE : Nat} {a : Nat → Nat} {rw : Nat → Option Nat} (S : GS)  (h_i_14 : fi S 14 = (-1)) (h_i_35 : fi S 35 = 0) (h_a_4_27 : ar S 4 27 = 0) (hrw : ∀ i, i < 6 → rw i = some (a (36 + 2 * i))) : Ct l D cy T0 tB tE yX11_after cX11_after 3 (some .int) 3 86 0 0 (cw cy tE a rw S) [.ref (a 0), .int 4, .int 27] (QI D (U := GS) (fun r u => 0 = r ∧ (sa S 8 (va_cpy (ar S 4) (ar S 8) 0 0 51)) = u) (cw cy tE a rw)) := by
  refine Ct.ofZ RX11 "after" [(0, .ref (a 0)), (1, .int 4), (2, .int 27)] rfl rfl rfl rfl (Nat.le_of_ble_eq_true rfl) ?_
  intro p e R s m args below meth c A b
  refine z_iload_n b dX11_after_0 rfl rfl ?_
  refine z_calli b (z_runS (As := [.int 4]) (st := []) b (c_X11_isRow_7 S ) cf_X11_isRow wm_X11_169 ws_X11_isRow dX11_after_1 rfl (Nat.le_of_ble_eq_true rfl) ⟨by decide, by decide, by decide, by decide⟩) (fun r20353 u20354 h20352 => ?_)
  obtain ⟨rfl, rfl⟩ := h20352
  refine z_if_eq_f (tgt := 14) b dX11_after_4 (by decide) (by decide) ?_
  refine z_iload_n b dX11_after_7 rfl rfl ?_
  refine z_calli b (z_runS (As := [.int 27]) (st := []) b (c_X9_has_30 S ) cf_X9_has wm_X11_191 ws_X9_has dX11_after_8 rfl (Nat.le_of_ble_eq_true rfl) ⟨by decide, by decide, by decide, by decide⟩) (fun r20356 u20357 h20355 => ?_)
  obtain ⟨rfl, rfl⟩ := h20355
  refine z_if_ne_t (tgt := 16) b dX11_after_11 (by decide) (by decide) ?_
  refine z_aload_n b dX11_after_16 rfl rfl ?_
  refine z_get (q0 := 0) (k9 := 5) (v := .ref (a 16)) b (cw_0 cy tE a rw S) rfl in_X11 (by decide) wf_X11_43 rfl dX11_after_17 ?_
  refine z_aload_n b dX11_after_20 rfl rfl ?_
  refine z_get (q0 := 0) (k9 := 7) (v := .ref (a 35)) b (cw_0 cy tE a rw S) rfl in_X11 (by decide) wf_X11_58 rfl dX11_after_21 ?_
  refine z_iload_n b dX11_after_24 rfl rfl ?_
  refine y_aald (q0 := 35) (t0 := 4) (j := 4) (v := .ref (a 44)) b (cw_35 cy tE a rw S) rfl (by decide) (by rw [hrw 4 (by decide)]; rfl) dX11_after_25 ?_
  refine z_aload_n b dX11_after_26 rfl rfl ?_
  refine z_get (q0 := 0) (k9 := 4) (v := .ref (a 14)) b (cw_0 cy tE a rw S) rfl in_X11 (by decide) wf_X11_34 rfl dX11_after_27 ?_
  refine z_iconst (v := 3) b dX11_after_30 (by decide) ?_
  refine z_iconst (v := 0) b dX11_after_31 (by decide) ?_
  refine z_calli b (z_runV (q0 := 16) (As := [.ref (a 44), .ref (a 14), .int 3, .int 0]) (st := []) b (c_X2_follow_11 S h_i_14 h_i_35) cf_X2_follow (cw_16 cy tE a rw S) rfl wm_X11_184 wi_X2_follow ws_X2_follow dX11_after_32 rfl (Nat.le_of_ble_eq_true rfl) ⟨by decide, by decide, by decide, by decide⟩) (fun r20359 u20360 h20358 => ?_)
  obtain ⟨rfl, rfl⟩ := h20358
  refine z_pop b dX11_after_35 rfl ?_
  refine z_aload_n b dX11_after_36 rfl rfl ?_
  refine z_get (q0 := 0) (k9 := 5) (v := .ref (a 16)) b (cw_0 cy tE a rw (sa S 8 (va_cpy (ar S 4) (ar S 8) 0 0 51))) rfl in_X11 (by decide) wf_X11_43 rfl dX11_after_37 ?_
  refine z_get (q0 := 16) (k9 := 3) (v := .ref (a 23)) b (cw_16 cy tE a rw (sa S 8 (va_cpy (ar S 4) (ar S 8) 0 0 51))) rfl in_X2 (by decide) wf_X11_194 rfl dX11_after_40 ?_
  refine z_iload_n b dX11_after_43 rfl rfl ?_
  refine z_calli b (z_runV (q0 := 23) (As := [.int 27]) (st := []) b (c_X9_get_24 (sa S 8 (va_cpy (ar S 4) (ar S 8) 0 0 51)) h_a_4_27) cf_X9_get (cw_23 cy tE a rw (sa S 8 (va_cpy (ar S 4) (ar S 8) 0 0 51))) rfl wm_X11_197 wi_X9_get ws_X9_get dX11_after_44 rfl (Nat.le_of_ble_eq_true rfl) ⟨by decide, by decide, by decide, by decide⟩) (fun r20362 u20363 h20361 => ?_)
  obtain ⟨rfl, rfl⟩ := h20361
  exact z_iret (u := (sa S 8 (va_cpy (ar S 4) (ar S 8) 0 0 51))) b rfl dX11_after_47 ⟨rfl, rfl⟩ rfl (by decide) (by decide)

set_option maxHeartbeats 4000000 in
set_option maxRecDepth 100000 in
theorem c_X12_after_248 {l : Launch} {D : va_G} {cy : Nat → ClassId} {T0 tB tE : Nat} {a : Nat → Nat} (S : GS)  (h_l_0 : fl S 0 = 1649317774848) (h_a_38_4 : ar S 38 4 = 0) (h_a_4_7 : ar S 4 7 = 0) (h_a_1_7 : ar S 1 7 = 0) (h_a_4_6 : ar S 4 6 = 0) (h_a_1_6 : ar S 1 6 = 0) (h_a_3_6 : ar S 3 6 = 0) (h_a_3_2 : ar S 3 2 = 0) (h_a_2_2 : ar S 2 2 = 3) (h_a_0_2 : ar S 0 2 = 0) (h_a_4_3 : ar S 4 3 = 0) (h_a_1_3 : ar S 1 3 = 0) (h_a_4_5 : ar S 4 5 = 0) (h_a_1_5 : ar S 1 5 = 0) (h_a_3_5 : ar S 3 5 = 0) (h_a_3_7 : ar S 3 7 = 0) (h_a_2_1 : ar S 2 1 = 3) (h_a_0_1 : ar S 0 1 = 0) (h_a_4_2 : ar S 4 2 = 0) (h_a_1_2 : ar S 1 2 = 0) (h_a_4_1 : ar S 4 1 = 0) (h_a_1_1 : ar S 1 1 = 0) (h_a_3_1 : ar S 3 1 = 0) (h_a_3_3 : ar S 3 3 = 0) (h_a_2_0 : ar S 2 0 = 3) (h_a_0_0 : ar S 0 0 = 0) (h_i_0 : fi S 0 = 0) : Ct l D cy T0 tB tE yX12_after cX12_after 4 (some .int) 2 47 0 0 (mw cy a S) [.ref (a 0), .int 4, .int 27] (QI D (U := GS) (fun r u => 0 = r ∧ (si (sl S 2 1649317774848) 24 (-1)) = u) (mw cy a)) := by
  refine Ct.ofZ RX12 "after" [(0, .ref (a 0)), (1, .int 4), (2, .int 27)] rfl rfl rfl rfl (Nat.le_of_ble_eq_true rfl) ?_
  intro p e R s m args below meth c A b
  refine z_iload_n b dX12_after_0 rfl rfl ?_
  refine z_calli b (z_runS (As := [.int 4]) (st := []) b (c_X12_isRow_7 S ) cf_X12_isRow wm_X12_452 ws_X12_isRow dX12_after_1 rfl (Nat.le_of_ble_eq_true rfl) ⟨by decide, by decide, by decide, by decide⟩) (fun r20365 u20366 h20364 => ?_)
  obtain ⟨rfl, rfl⟩ := h20364
  refine z_if_ne_t (tgt := 9) b dX12_after_4 (by decide) (by decide) ?_
  refine z_aload_n b dX12_after_9 rfl rfl ?_
  refine z_iload_n b dX12_after_10 rfl rfl ?_
  refine z_iconst (v := 3) b dX12_after_11 (by decide) ?_
  refine z_iconst (v := 0) b dX12_after_12 (by decide) ?_
  refine z_calli b (z_runV (q0 := 0) (As := [.int 4, .int 3, .int 0]) (st := []) b (c_X12_goes_11 S h_l_0 h_a_38_4) cf_X12_goes (mw_0 cy a S) rfl wm_X12_464 wi_X12_goes ws_X12_goes dX12_after_13 rfl (Nat.le_of_ble_eq_true rfl) ⟨by decide, by decide, by decide, by decide⟩) (fun r20368 u20369 h20367 => ?_)
  obtain ⟨rfl, rfl⟩ := h20367
  refine z_pop b dX12_after_16 rfl ?_
  refine z_aload_n b dX12_after_17 rfl rfl ?_
  refine z_aload_n b dX12_after_18 rfl rfl ?_
  refine z_get (q0 := 0) (k9 := 68) (v := .long 1649317774848) b (mw_0 cy a (si (sl S 2 1649317774848) 24 (-1))) rfl in_X12 (by decide) wf_X12_458 rfl dX12_after_19 ?_
  refine z_callv b (z_runV (q0 := 0) (As := [.long 1649317774848]) (st := []) b (c_X12_takes (si (sl S 2 1649317774848) 24 (-1)) h_a_4_7 h_a_1_7 h_a_4_6 h_a_1_6 h_a_3_6 h_a_3_2 h_a_2_2 h_a_0_2 h_a_4_3 h_a_1_3 h_a_4_5 h_a_1_5 h_a_3_5 h_a_3_7 h_a_2_1 h_a_0_1 h_a_4_2 h_a_1_2 h_a_4_1 h_a_1_1 h_a_3_1 h_a_3_3 h_a_2_0 h_a_0_0 h_i_0) cf_X12_takes (mw_0 cy a (si (sl S 2 1649317774848) 24 (-1))) rfl wm_X12_174 wi_X12_takes ws_X12_takes dX12_after_22 rfl (Nat.le_of_ble_eq_true rfl) ⟨by decide, by decide, by decide, by decide⟩) (fun u20372 h20370 => ?_)
  obtain rfl := h20370
  refine z_iload_n b dX12_after_25 rfl rfl ?_
  refine z_calli b (z_runS (As := [.int 27]) (st := []) b (c_X12_isOne_32 (si (sl S 2 1649317774848) 24 (-1)) ) cf_X12_isOne wm_X12_170 ws_X12_isOne dX12_after_26 rfl (Nat.le_of_ble_eq_true rfl) ⟨by decide, by decide, by decide, by decide⟩) (fun r20374 u20375 h20373 => ?_)
  obtain ⟨rfl, rfl⟩ := h20373
  refine z_if_eq_t (tgt := 39) b dX12_after_29 (by decide) (by decide) ?_
  refine z_iload_n b dX12_after_39 rfl rfl ?_
  refine z_bipush (v := 50) b dX12_after_40 (by decide) ?_
  refine z_icmp_ne_t (tgt := 50) b dX12_after_42 (by decide) (by decide) ?_
  refine z_iload_n b dX12_after_50 rfl rfl ?_
  refine z_bipush (v := 40) b dX12_after_51 (by decide) ?_
  refine z_bipush (v := 42) b dX12_after_53 (by decide) ?_
  refine z_calli b (z_runS (As := [.int 27, .int 40, .int 42]) (st := []) b (c_X12_isIn_141 (si (sl S 2 1649317774848) 24 (-1)) ) cf_X12_isIn wm_X12_1 ws_X12_isIn dX12_after_55 rfl (Nat.le_of_ble_eq_true rfl) ⟨by decide, by decide, by decide, by decide⟩) (fun r20377 u20378 h20376 => ?_)
  obtain ⟨rfl, rfl⟩ := h20376
  refine z_if_eq_t (tgt := 71) b dX12_after_58 (by decide) (by decide) ?_
  refine z_iload_n b dX12_after_71 rfl rfl ?_
  refine z_bipush (v := 10) b dX12_after_72 (by decide) ?_
  refine z_irem (v := 7) b dX12_after_74 (by decide) (by decide) ?_
  refine z_istore_n (lv' := [(3, .int 7), (0, .ref (a 0)), (1, .int 4), (2, .int 27)]) b dX12_after_75 rfl (by decide) rfl ?_
  refine z_iload_n b dX12_after_76 rfl rfl ?_
  refine z_bipush (v := 10) b dX12_after_77 (by decide) ?_
  refine z_bipush (v := 38) b dX12_after_79 (by decide) ?_
  refine z_calli b (z_runS (As := [.int 27, .int 10, .int 38]) (st := []) b (c_X12_isIn_142 (si (sl S 2 1649317774848) 24 (-1)) ) cf_X12_isIn wm_X12_1 ws_X12_isIn dX12_after_81 rfl (Nat.le_of_ble_eq_true rfl) ⟨by decide, by decide, by decide, by decide⟩) (fun r20380 u20381 h20379 => ?_)
  obtain ⟨rfl, rfl⟩ := h20379
  refine z_if_eq_f (tgt := 102) b dX12_after_84 (by decide) (by decide) ?_
  refine z_iload_n b dX12_after_87 rfl rfl ?_
  refine z_bipush (v := 9) b dX12_after_88 (by decide) ?_
  refine z_icmp_eq_f (tgt := 102) b dX12_after_90 (by decide) (by decide) ?_
  refine z_iload_n b dX12_after_93 rfl rfl ?_
  refine z_iconst (v := 3) b dX12_after_94 (by decide) ?_
  refine z_idiv (v := 2) b dX12_after_95 (by decide) (by decide) ?_
  refine z_iload_n b dX12_after_96 rfl rfl ?_
  refine z_iconst (v := 3) b dX12_after_97 (by decide) ?_
  refine z_irem (v := 1) b dX12_after_98 (by decide) (by decide) ?_
  refine z_icmp_ne_t (tgt := 104) b dX12_after_99 (by decide) (by decide) ?_
  refine z_iload_n b dX12_after_104 rfl rfl ?_
  refine z_bipush (v := 20) b dX12_after_105 (by decide) ?_
  refine z_icmp_ge_t (tgt := 119) b dX12_after_107 (by decide) (by decide) ?_
  refine z_iload_n b dX12_after_119 rfl rfl ?_
  refine z_bipush (v := 30) b dX12_after_120 (by decide) ?_
  refine z_icmp_ge_f (tgt := 137) b dX12_after_122 (by decide) (by decide) ?_
  refine z_aload_n b dX12_after_125 rfl rfl ?_
  refine z_get (q0 := 0) (k9 := 3) (v := .ref (a 4)) b (mw_0 cy a (si (sl S 2 1649317774848) 24 (-1))) rfl in_X12 (by decide) wf_X12_23 rfl dX12_after_126 ?_
  refine z_iload_n b dX12_after_129 rfl rfl ?_
  refine y_zald (q0 := 4) (j := 7) (v := (ar (si (sl S 2 1649317774848) 24 (-1)) 3 7)) b (mw_4 cy a (si (sl S 2 1649317774848) 24 (-1))) (by decide) rfl dX12_after_130 ?_
  refine z_eqi h_a_3_7 ?_
  refine z_if_eq_t (tgt := 150) b dX12_after_131 (by decide) (by decide) ?_
  refine z_iconst (v := 0) b dX12_after_150 (by decide) ?_
  exact z_iret (u := (si (sl S 2 1649317774848) 24 (-1))) b rfl dX12_after_151 ⟨rfl, rfl⟩ rfl (by decide) (by decide)

set_option maxHeartbeats 4000000 in
set_option maxRecDepth 100000 in
theorem c_X11_after_249 {l : Launch} {D : va_G} {cy : Nat → ClassId} {T0 tB tE : Nat} {a : Nat → Nat} {rw : Nat → Option Nat} (S : GS)   : Ct l D cy T0 tB tE yX11_after cX11_after 3 (some .int) 3 62 0 0 (cw cy tE a rw S) [.ref (a 0), .int 4, .int 28] (QI D (U := GS) (fun r u => (-1) = r ∧ S = u) (cw cy tE a rw)) := by
  refine Ct.ofZ RX11 "after" [(0, .ref (a 0)), (1, .int 4), (2, .int 28)] rfl rfl rfl rfl (Nat.le_of_ble_eq_true rfl) ?_
  intro p e R s m args below meth c A b
  refine z_iload_n b dX11_after_0 rfl rfl ?_
  refine z_calli b (z_runS (As := [.int 4]) (st := []) b (c_X11_isRow_7 S ) cf_X11_isRow wm_X11_169 ws_X11_isRow dX11_after_1 rfl (Nat.le_of_ble_eq_true rfl) ⟨by decide, by decide, by decide, by decide⟩) (fun r20383 u20384 h20382 => ?_)
  obtain ⟨rfl, rfl⟩ := h20382
  refine z_if_eq_f (tgt := 14) b dX11_after_4 (by decide) (by decide) ?_
  refine z_iload_n b dX11_after_7 rfl rfl ?_
  refine z_calli b (z_runS (As := [.int 28]) (st := []) b (c_X9_has_31 S ) cf_X9_has wm_X11_191 ws_X9_has dX11_after_8 rfl (Nat.le_of_ble_eq_true rfl) ⟨by decide, by decide, by decide, by decide⟩) (fun r20386 u20387 h20385 => ?_)
  obtain ⟨rfl, rfl⟩ := h20385
  refine z_if_ne_f (tgt := 16) b dX11_after_11 (by decide) (by decide) ?_
  refine z_iconst (v := (-1)) b dX11_after_14 (by decide) ?_
  exact z_iret (u := S) b rfl dX11_after_15 ⟨rfl, rfl⟩ rfl (by decide) (by decide)

set_option maxHeartbeats 4000000 in
set_option maxRecDepth 100000 in
theorem c_X12_after_249 {l : Launch} {D : va_G} {cy : Nat → ClassId} {T0 tB tE : Nat} {a : Nat → Nat} (S : GS)  (h_l_0 : fl S 0 = 1649317774848) (h_a_38_4 : ar S 38 4 = 0) (h_a_4_7 : ar S 4 7 = 0) (h_a_1_7 : ar S 1 7 = 0) (h_a_4_6 : ar S 4 6 = 0) (h_a_1_6 : ar S 1 6 = 0) (h_a_3_6 : ar S 3 6 = 0) (h_a_3_2 : ar S 3 2 = 0) (h_a_2_2 : ar S 2 2 = 3) (h_a_0_2 : ar S 0 2 = 0) (h_a_4_3 : ar S 4 3 = 0) (h_a_1_3 : ar S 1 3 = 0) (h_a_4_5 : ar S 4 5 = 0) (h_a_1_5 : ar S 1 5 = 0) (h_a_3_5 : ar S 3 5 = 0) (h_a_3_7 : ar S 3 7 = 0) (h_a_2_1 : ar S 2 1 = 3) (h_a_0_1 : ar S 0 1 = 0) (h_a_4_2 : ar S 4 2 = 0) (h_a_1_2 : ar S 1 2 = 0) (h_a_4_1 : ar S 4 1 = 0) (h_a_1_1 : ar S 1 1 = 0) (h_a_3_1 : ar S 3 1 = 0) (h_a_3_3 : ar S 3 3 = 0) (h_a_2_0 : ar S 2 0 = 3) (h_a_0_0 : ar S 0 0 = 0) (h_i_0 : fi S 0 = 0) : Ct l D cy T0 tB tE yX12_after cX12_after 4 (some .int) 2 47 0 0 (mw cy a S) [.ref (a 0), .int 4, .int 28] (QI D (U := GS) (fun r u => (-1) = r ∧ (si (sl S 2 1649317774848) 24 (-1)) = u) (mw cy a)) := by
  refine Ct.ofZ RX12 "after" [(0, .ref (a 0)), (1, .int 4), (2, .int 28)] rfl rfl rfl rfl (Nat.le_of_ble_eq_true rfl) ?_
  intro p e R s m args below meth c A b
  refine z_iload_n b dX12_after_0 rfl rfl ?_
  refine z_calli b (z_runS (As := [.int 4]) (st := []) b (c_X12_isRow_7 S ) cf_X12_isRow wm_X12_452 ws_X12_isRow dX12_after_1 rfl (Nat.le_of_ble_eq_true rfl) ⟨by decide, by decide, by decide, by decide⟩) (fun r20389 u20390 h20388 => ?_)
  obtain ⟨rfl, rfl⟩ := h20388
  refine z_if_ne_t (tgt := 9) b dX12_after_4 (by decide) (by decide) ?_
  refine z_aload_n b dX12_after_9 rfl rfl ?_
  refine z_iload_n b dX12_after_10 rfl rfl ?_
  refine z_iconst (v := 3) b dX12_after_11 (by decide) ?_
  refine z_iconst (v := 0) b dX12_after_12 (by decide) ?_
  refine z_calli b (z_runV (q0 := 0) (As := [.int 4, .int 3, .int 0]) (st := []) b (c_X12_goes_11 S h_l_0 h_a_38_4) cf_X12_goes (mw_0 cy a S) rfl wm_X12_464 wi_X12_goes ws_X12_goes dX12_after_13 rfl (Nat.le_of_ble_eq_true rfl) ⟨by decide, by decide, by decide, by decide⟩) (fun r20392 u20393 h20391 => ?_)
  obtain ⟨rfl, rfl⟩ := h20391
  refine z_pop b dX12_after_16 rfl ?_
  refine z_aload_n b dX12_after_17 rfl rfl ?_
  refine z_aload_n b dX12_after_18 rfl rfl ?_
  refine z_get (q0 := 0) (k9 := 68) (v := .long 1649317774848) b (mw_0 cy a (si (sl S 2 1649317774848) 24 (-1))) rfl in_X12 (by decide) wf_X12_458 rfl dX12_after_19 ?_
  refine z_callv b (z_runV (q0 := 0) (As := [.long 1649317774848]) (st := []) b (c_X12_takes (si (sl S 2 1649317774848) 24 (-1)) h_a_4_7 h_a_1_7 h_a_4_6 h_a_1_6 h_a_3_6 h_a_3_2 h_a_2_2 h_a_0_2 h_a_4_3 h_a_1_3 h_a_4_5 h_a_1_5 h_a_3_5 h_a_3_7 h_a_2_1 h_a_0_1 h_a_4_2 h_a_1_2 h_a_4_1 h_a_1_1 h_a_3_1 h_a_3_3 h_a_2_0 h_a_0_0 h_i_0) cf_X12_takes (mw_0 cy a (si (sl S 2 1649317774848) 24 (-1))) rfl wm_X12_174 wi_X12_takes ws_X12_takes dX12_after_22 rfl (Nat.le_of_ble_eq_true rfl) ⟨by decide, by decide, by decide, by decide⟩) (fun u20396 h20394 => ?_)
  obtain rfl := h20394
  refine z_iload_n b dX12_after_25 rfl rfl ?_
  refine z_calli b (z_runS (As := [.int 28]) (st := []) b (c_X12_isOne_33 (si (sl S 2 1649317774848) 24 (-1)) ) cf_X12_isOne wm_X12_170 ws_X12_isOne dX12_after_26 rfl (Nat.le_of_ble_eq_true rfl) ⟨by decide, by decide, by decide, by decide⟩) (fun r20398 u20399 h20397 => ?_)
  obtain ⟨rfl, rfl⟩ := h20397
  refine z_if_eq_t (tgt := 39) b dX12_after_29 (by decide) (by decide) ?_
  refine z_iload_n b dX12_after_39 rfl rfl ?_
  refine z_bipush (v := 50) b dX12_after_40 (by decide) ?_
  refine z_icmp_ne_t (tgt := 50) b dX12_after_42 (by decide) (by decide) ?_
  refine z_iload_n b dX12_after_50 rfl rfl ?_
  refine z_bipush (v := 40) b dX12_after_51 (by decide) ?_
  refine z_bipush (v := 42) b dX12_after_53 (by decide) ?_
  refine z_calli b (z_runS (As := [.int 28, .int 40, .int 42]) (st := []) b (c_X12_isIn_144 (si (sl S 2 1649317774848) 24 (-1)) ) cf_X12_isIn wm_X12_1 ws_X12_isIn dX12_after_55 rfl (Nat.le_of_ble_eq_true rfl) ⟨by decide, by decide, by decide, by decide⟩) (fun r20401 u20402 h20400 => ?_)
  obtain ⟨rfl, rfl⟩ := h20400
  refine z_if_eq_t (tgt := 71) b dX12_after_58 (by decide) (by decide) ?_
  refine z_iload_n b dX12_after_71 rfl rfl ?_
  refine z_bipush (v := 10) b dX12_after_72 (by decide) ?_
  refine z_irem (v := 8) b dX12_after_74 (by decide) (by decide) ?_
  refine z_istore_n (lv' := [(3, .int 8), (0, .ref (a 0)), (1, .int 4), (2, .int 28)]) b dX12_after_75 rfl (by decide) rfl ?_
  refine z_iload_n b dX12_after_76 rfl rfl ?_
  refine z_bipush (v := 10) b dX12_after_77 (by decide) ?_
  refine z_bipush (v := 38) b dX12_after_79 (by decide) ?_
  refine z_calli b (z_runS (As := [.int 28, .int 10, .int 38]) (st := []) b (c_X12_isIn_145 (si (sl S 2 1649317774848) 24 (-1)) ) cf_X12_isIn wm_X12_1 ws_X12_isIn dX12_after_81 rfl (Nat.le_of_ble_eq_true rfl) ⟨by decide, by decide, by decide, by decide⟩) (fun r20404 u20405 h20403 => ?_)
  obtain ⟨rfl, rfl⟩ := h20403
  refine z_if_eq_f (tgt := 102) b dX12_after_84 (by decide) (by decide) ?_
  refine z_iload_n b dX12_after_87 rfl rfl ?_
  refine z_bipush (v := 9) b dX12_after_88 (by decide) ?_
  refine z_icmp_eq_f (tgt := 102) b dX12_after_90 (by decide) (by decide) ?_
  refine z_iload_n b dX12_after_93 rfl rfl ?_
  refine z_iconst (v := 3) b dX12_after_94 (by decide) ?_
  refine z_idiv (v := 2) b dX12_after_95 (by decide) (by decide) ?_
  refine z_iload_n b dX12_after_96 rfl rfl ?_
  refine z_iconst (v := 3) b dX12_after_97 (by decide) ?_
  refine z_irem (v := 2) b dX12_after_98 (by decide) (by decide) ?_
  refine z_icmp_ne_f (tgt := 104) b dX12_after_99 (by decide) (by decide) ?_
  refine z_iconst (v := (-1)) b dX12_after_102 (by decide) ?_
  exact z_iret (u := (si (sl S 2 1649317774848) 24 (-1))) b rfl dX12_after_103 ⟨rfl, rfl⟩ rfl (by decide) (by decide)

set_option maxHeartbeats 4000000 in
set_option maxRecDepth 100000 in
theorem c_X11_after_250 {l : Launch} {D : va_G} {cy : Nat → ClassId} {T0 tB tE : Nat} {a : Nat → Nat} {rw : Nat → Option Nat} (S : GS)   : Ct l D cy T0 tB tE yX11_after cX11_after 3 (some .int) 3 62 0 0 (cw cy tE a rw S) [.ref (a 0), .int 4, .int 29] (QI D (U := GS) (fun r u => (-1) = r ∧ S = u) (cw cy tE a rw)) := by
  refine Ct.ofZ RX11 "after" [(0, .ref (a 0)), (1, .int 4), (2, .int 29)] rfl rfl rfl rfl (Nat.le_of_ble_eq_true rfl) ?_
  intro p e R s m args below meth c A b
  refine z_iload_n b dX11_after_0 rfl rfl ?_
  refine z_calli b (z_runS (As := [.int 4]) (st := []) b (c_X11_isRow_7 S ) cf_X11_isRow wm_X11_169 ws_X11_isRow dX11_after_1 rfl (Nat.le_of_ble_eq_true rfl) ⟨by decide, by decide, by decide, by decide⟩) (fun r20407 u20408 h20406 => ?_)
  obtain ⟨rfl, rfl⟩ := h20406
  refine z_if_eq_f (tgt := 14) b dX11_after_4 (by decide) (by decide) ?_
  refine z_iload_n b dX11_after_7 rfl rfl ?_
  refine z_calli b (z_runS (As := [.int 29]) (st := []) b (c_X9_has_32 S ) cf_X9_has wm_X11_191 ws_X9_has dX11_after_8 rfl (Nat.le_of_ble_eq_true rfl) ⟨by decide, by decide, by decide, by decide⟩) (fun r20410 u20411 h20409 => ?_)
  obtain ⟨rfl, rfl⟩ := h20409
  refine z_if_ne_f (tgt := 16) b dX11_after_11 (by decide) (by decide) ?_
  refine z_iconst (v := (-1)) b dX11_after_14 (by decide) ?_
  exact z_iret (u := S) b rfl dX11_after_15 ⟨rfl, rfl⟩ rfl (by decide) (by decide)

set_option maxHeartbeats 4000000 in
set_option maxRecDepth 100000 in
theorem c_X12_after_250 {l : Launch} {D : va_G} {cy : Nat → ClassId} {T0 tB tE : Nat} {a : Nat → Nat} (S : GS)  (h_l_0 : fl S 0 = 1649317774848) (h_a_38_4 : ar S 38 4 = 0) (h_a_4_7 : ar S 4 7 = 0) (h_a_1_7 : ar S 1 7 = 0) (h_a_4_6 : ar S 4 6 = 0) (h_a_1_6 : ar S 1 6 = 0) (h_a_3_6 : ar S 3 6 = 0) (h_a_3_2 : ar S 3 2 = 0) (h_a_2_2 : ar S 2 2 = 3) (h_a_0_2 : ar S 0 2 = 0) (h_a_4_3 : ar S 4 3 = 0) (h_a_1_3 : ar S 1 3 = 0) (h_a_4_5 : ar S 4 5 = 0) (h_a_1_5 : ar S 1 5 = 0) (h_a_3_5 : ar S 3 5 = 0) (h_a_3_7 : ar S 3 7 = 0) (h_a_2_1 : ar S 2 1 = 3) (h_a_0_1 : ar S 0 1 = 0) (h_a_4_2 : ar S 4 2 = 0) (h_a_1_2 : ar S 1 2 = 0) (h_a_4_1 : ar S 4 1 = 0) (h_a_1_1 : ar S 1 1 = 0) (h_a_3_1 : ar S 3 1 = 0) (h_a_3_3 : ar S 3 3 = 0) (h_a_2_0 : ar S 2 0 = 3) (h_a_0_0 : ar S 0 0 = 0) (h_i_0 : fi S 0 = 0) : Ct l D cy T0 tB tE yX12_after cX12_after 4 (some .int) 2 47 0 0 (mw cy a S) [.ref (a 0), .int 4, .int 29] (QI D (U := GS) (fun r u => (-1) = r ∧ (si (sl S 2 1649317774848) 24 (-1)) = u) (mw cy a)) := by
  refine Ct.ofZ RX12 "after" [(0, .ref (a 0)), (1, .int 4), (2, .int 29)] rfl rfl rfl rfl (Nat.le_of_ble_eq_true rfl) ?_
  intro p e R s m args below meth c A b
  refine z_iload_n b dX12_after_0 rfl rfl ?_
  refine z_calli b (z_runS (As := [.int 4]) (st := []) b (c_X12_isRow_7 S ) cf_X12_isRow wm_X12_452 ws_X12_isRow dX12_after_1 rfl (Nat.le_of_ble_eq_true rfl) ⟨by decide, by decide, by decide, by decide⟩) (fun r20413 u20414 h20412 => ?_)
  obtain ⟨rfl, rfl⟩ := h20412
  refine z_if_ne_t (tgt := 9) b dX12_after_4 (by decide) (by decide) ?_
  refine z_aload_n b dX12_after_9 rfl rfl ?_
  refine z_iload_n b dX12_after_10 rfl rfl ?_
  refine z_iconst (v := 3) b dX12_after_11 (by decide) ?_
  refine z_iconst (v := 0) b dX12_after_12 (by decide) ?_
  refine z_calli b (z_runV (q0 := 0) (As := [.int 4, .int 3, .int 0]) (st := []) b (c_X12_goes_11 S h_l_0 h_a_38_4) cf_X12_goes (mw_0 cy a S) rfl wm_X12_464 wi_X12_goes ws_X12_goes dX12_after_13 rfl (Nat.le_of_ble_eq_true rfl) ⟨by decide, by decide, by decide, by decide⟩) (fun r20416 u20417 h20415 => ?_)
  obtain ⟨rfl, rfl⟩ := h20415
  refine z_pop b dX12_after_16 rfl ?_
  refine z_aload_n b dX12_after_17 rfl rfl ?_
  refine z_aload_n b dX12_after_18 rfl rfl ?_
  refine z_get (q0 := 0) (k9 := 68) (v := .long 1649317774848) b (mw_0 cy a (si (sl S 2 1649317774848) 24 (-1))) rfl in_X12 (by decide) wf_X12_458 rfl dX12_after_19 ?_
  refine z_callv b (z_runV (q0 := 0) (As := [.long 1649317774848]) (st := []) b (c_X12_takes (si (sl S 2 1649317774848) 24 (-1)) h_a_4_7 h_a_1_7 h_a_4_6 h_a_1_6 h_a_3_6 h_a_3_2 h_a_2_2 h_a_0_2 h_a_4_3 h_a_1_3 h_a_4_5 h_a_1_5 h_a_3_5 h_a_3_7 h_a_2_1 h_a_0_1 h_a_4_2 h_a_1_2 h_a_4_1 h_a_1_1 h_a_3_1 h_a_3_3 h_a_2_0 h_a_0_0 h_i_0) cf_X12_takes (mw_0 cy a (si (sl S 2 1649317774848) 24 (-1))) rfl wm_X12_174 wi_X12_takes ws_X12_takes dX12_after_22 rfl (Nat.le_of_ble_eq_true rfl) ⟨by decide, by decide, by decide, by decide⟩) (fun u20420 h20418 => ?_)
  obtain rfl := h20418
  refine z_iload_n b dX12_after_25 rfl rfl ?_
  refine z_calli b (z_runS (As := [.int 29]) (st := []) b (c_X12_isOne_34 (si (sl S 2 1649317774848) 24 (-1)) ) cf_X12_isOne wm_X12_170 ws_X12_isOne dX12_after_26 rfl (Nat.le_of_ble_eq_true rfl) ⟨by decide, by decide, by decide, by decide⟩) (fun r20422 u20423 h20421 => ?_)
  obtain ⟨rfl, rfl⟩ := h20421
  refine z_if_eq_t (tgt := 39) b dX12_after_29 (by decide) (by decide) ?_
  refine z_iload_n b dX12_after_39 rfl rfl ?_
  refine z_bipush (v := 50) b dX12_after_40 (by decide) ?_
  refine z_icmp_ne_t (tgt := 50) b dX12_after_42 (by decide) (by decide) ?_
  refine z_iload_n b dX12_after_50 rfl rfl ?_
  refine z_bipush (v := 40) b dX12_after_51 (by decide) ?_
  refine z_bipush (v := 42) b dX12_after_53 (by decide) ?_
  refine z_calli b (z_runS (As := [.int 29, .int 40, .int 42]) (st := []) b (c_X12_isIn_147 (si (sl S 2 1649317774848) 24 (-1)) ) cf_X12_isIn wm_X12_1 ws_X12_isIn dX12_after_55 rfl (Nat.le_of_ble_eq_true rfl) ⟨by decide, by decide, by decide, by decide⟩) (fun r20425 u20426 h20424 => ?_)
  obtain ⟨rfl, rfl⟩ := h20424
  refine z_if_eq_t (tgt := 71) b dX12_after_58 (by decide) (by decide) ?_
  refine z_iload_n b dX12_after_71 rfl rfl ?_
  refine z_bipush (v := 10) b dX12_after_72 (by decide) ?_
  refine z_irem (v := 9) b dX12_after_74 (by decide) (by decide) ?_
  refine z_istore_n (lv' := [(3, .int 9), (0, .ref (a 0)), (1, .int 4), (2, .int 29)]) b dX12_after_75 rfl (by decide) rfl ?_
  refine z_iload_n b dX12_after_76 rfl rfl ?_
  refine z_bipush (v := 10) b dX12_after_77 (by decide) ?_
  refine z_bipush (v := 38) b dX12_after_79 (by decide) ?_
  refine z_calli b (z_runS (As := [.int 29, .int 10, .int 38]) (st := []) b (c_X12_isIn_148 (si (sl S 2 1649317774848) 24 (-1)) ) cf_X12_isIn wm_X12_1 ws_X12_isIn dX12_after_81 rfl (Nat.le_of_ble_eq_true rfl) ⟨by decide, by decide, by decide, by decide⟩) (fun r20428 u20429 h20427 => ?_)
  obtain ⟨rfl, rfl⟩ := h20427
  refine z_if_eq_f (tgt := 102) b dX12_after_84 (by decide) (by decide) ?_
  refine z_iload_n b dX12_after_87 rfl rfl ?_
  refine z_bipush (v := 9) b dX12_after_88 (by decide) ?_
  refine z_icmp_eq_t (tgt := 102) b dX12_after_90 (by decide) (by decide) ?_
  refine z_iconst (v := (-1)) b dX12_after_102 (by decide) ?_
  exact z_iret (u := (si (sl S 2 1649317774848) 24 (-1))) b rfl dX12_after_103 ⟨rfl, rfl⟩ rfl (by decide) (by decide)

set_option maxHeartbeats 4000000 in
set_option maxRecDepth 100000 in
theorem c_X11_after_251 {l : Launch} {D : va_G} {cy : Nat → ClassId} {T0 tB tE : Nat} {a : Nat → Nat} {rw : Nat → Option Nat} (S : GS)   : Ct l D cy T0 tB tE yX11_after cX11_after 3 (some .int) 3 62 0 0 (cw cy tE a rw S) [.ref (a 0), .int 4, .int 30] (QI D (U := GS) (fun r u => (-1) = r ∧ S = u) (cw cy tE a rw)) := by
  refine Ct.ofZ RX11 "after" [(0, .ref (a 0)), (1, .int 4), (2, .int 30)] rfl rfl rfl rfl (Nat.le_of_ble_eq_true rfl) ?_
  intro p e R s m args below meth c A b
  refine z_iload_n b dX11_after_0 rfl rfl ?_
  refine z_calli b (z_runS (As := [.int 4]) (st := []) b (c_X11_isRow_7 S ) cf_X11_isRow wm_X11_169 ws_X11_isRow dX11_after_1 rfl (Nat.le_of_ble_eq_true rfl) ⟨by decide, by decide, by decide, by decide⟩) (fun r20431 u20432 h20430 => ?_)
  obtain ⟨rfl, rfl⟩ := h20430
  refine z_if_eq_f (tgt := 14) b dX11_after_4 (by decide) (by decide) ?_
  refine z_iload_n b dX11_after_7 rfl rfl ?_
  refine z_calli b (z_runS (As := [.int 30]) (st := []) b (c_X9_has_33 S ) cf_X9_has wm_X11_191 ws_X9_has dX11_after_8 rfl (Nat.le_of_ble_eq_true rfl) ⟨by decide, by decide, by decide, by decide⟩) (fun r20434 u20435 h20433 => ?_)
  obtain ⟨rfl, rfl⟩ := h20433
  refine z_if_ne_f (tgt := 16) b dX11_after_11 (by decide) (by decide) ?_
  refine z_iconst (v := (-1)) b dX11_after_14 (by decide) ?_
  exact z_iret (u := S) b rfl dX11_after_15 ⟨rfl, rfl⟩ rfl (by decide) (by decide)

set_option maxHeartbeats 4000000 in
set_option maxRecDepth 100000 in
theorem c_X12_after_251 {l : Launch} {D : va_G} {cy : Nat → ClassId} {T0 tB tE : Nat} {a : Nat → Nat} (S : GS)  (h_l_0 : fl S 0 = 1649317774848) (h_a_38_4 : ar S 38 4 = 0) (h_a_4_7 : ar S 4 7 = 0) (h_a_1_7 : ar S 1 7 = 0) (h_a_4_6 : ar S 4 6 = 0) (h_a_1_6 : ar S 1 6 = 0) (h_a_3_6 : ar S 3 6 = 0) (h_a_3_2 : ar S 3 2 = 0) (h_a_2_2 : ar S 2 2 = 3) (h_a_0_2 : ar S 0 2 = 0) (h_a_4_3 : ar S 4 3 = 0) (h_a_1_3 : ar S 1 3 = 0) (h_a_4_5 : ar S 4 5 = 0) (h_a_1_5 : ar S 1 5 = 0) (h_a_3_5 : ar S 3 5 = 0) (h_a_3_7 : ar S 3 7 = 0) (h_a_2_1 : ar S 2 1 = 3) (h_a_0_1 : ar S 0 1 = 0) (h_a_4_2 : ar S 4 2 = 0) (h_a_1_2 : ar S 1 2 = 0) (h_a_4_1 : ar S 4 1 = 0) (h_a_1_1 : ar S 1 1 = 0) (h_a_3_1 : ar S 3 1 = 0) (h_a_3_3 : ar S 3 3 = 0) (h_a_2_0 : ar S 2 0 = 3) (h_a_0_0 : ar S 0 0 = 0) (h_i_0 : fi S 0 = 0) : Ct l D cy T0 tB tE yX12_after cX12_after 4 (some .int) 2 47 0 0 (mw cy a S) [.ref (a 0), .int 4, .int 30] (QI D (U := GS) (fun r u => (-1) = r ∧ (si (sl S 2 1649317774848) 24 (-1)) = u) (mw cy a)) := by
  refine Ct.ofZ RX12 "after" [(0, .ref (a 0)), (1, .int 4), (2, .int 30)] rfl rfl rfl rfl (Nat.le_of_ble_eq_true rfl) ?_
  intro p e R s m args below meth c A b
  refine z_iload_n b dX12_after_0 rfl rfl ?_
  refine z_calli b (z_runS (As := [.int 4]) (st := []) b (c_X12_isRow_7 S ) cf_X12_isRow wm_X12_452 ws_X12_isRow dX12_after_1 rfl (Nat.le_of_ble_eq_true rfl) ⟨by decide, by decide, by decide, by decide⟩) (fun r20437 u20438 h20436 => ?_)
  obtain ⟨rfl, rfl⟩ := h20436
  refine z_if_ne_t (tgt := 9) b dX12_after_4 (by decide) (by decide) ?_
  refine z_aload_n b dX12_after_9 rfl rfl ?_
  refine z_iload_n b dX12_after_10 rfl rfl ?_
  refine z_iconst (v := 3) b dX12_after_11 (by decide) ?_
  refine z_iconst (v := 0) b dX12_after_12 (by decide) ?_
  refine z_calli b (z_runV (q0 := 0) (As := [.int 4, .int 3, .int 0]) (st := []) b (c_X12_goes_11 S h_l_0 h_a_38_4) cf_X12_goes (mw_0 cy a S) rfl wm_X12_464 wi_X12_goes ws_X12_goes dX12_after_13 rfl (Nat.le_of_ble_eq_true rfl) ⟨by decide, by decide, by decide, by decide⟩) (fun r20440 u20441 h20439 => ?_)
  obtain ⟨rfl, rfl⟩ := h20439
  refine z_pop b dX12_after_16 rfl ?_
  refine z_aload_n b dX12_after_17 rfl rfl ?_
  refine z_aload_n b dX12_after_18 rfl rfl ?_
  refine z_get (q0 := 0) (k9 := 68) (v := .long 1649317774848) b (mw_0 cy a (si (sl S 2 1649317774848) 24 (-1))) rfl in_X12 (by decide) wf_X12_458 rfl dX12_after_19 ?_
  refine z_callv b (z_runV (q0 := 0) (As := [.long 1649317774848]) (st := []) b (c_X12_takes (si (sl S 2 1649317774848) 24 (-1)) h_a_4_7 h_a_1_7 h_a_4_6 h_a_1_6 h_a_3_6 h_a_3_2 h_a_2_2 h_a_0_2 h_a_4_3 h_a_1_3 h_a_4_5 h_a_1_5 h_a_3_5 h_a_3_7 h_a_2_1 h_a_0_1 h_a_4_2 h_a_1_2 h_a_4_1 h_a_1_1 h_a_3_1 h_a_3_3 h_a_2_0 h_a_0_0 h_i_0) cf_X12_takes (mw_0 cy a (si (sl S 2 1649317774848) 24 (-1))) rfl wm_X12_174 wi_X12_takes ws_X12_takes dX12_after_22 rfl (Nat.le_of_ble_eq_true rfl) ⟨by decide, by decide, by decide, by decide⟩) (fun u20444 h20442 => ?_)
  obtain rfl := h20442
  refine z_iload_n b dX12_after_25 rfl rfl ?_
  refine z_calli b (z_runS (As := [.int 30]) (st := []) b (c_X12_isOne_35 (si (sl S 2 1649317774848) 24 (-1)) ) cf_X12_isOne wm_X12_170 ws_X12_isOne dX12_after_26 rfl (Nat.le_of_ble_eq_true rfl) ⟨by decide, by decide, by decide, by decide⟩) (fun r20446 u20447 h20445 => ?_)
  obtain ⟨rfl, rfl⟩ := h20445
  refine z_if_eq_t (tgt := 39) b dX12_after_29 (by decide) (by decide) ?_
  refine z_iload_n b dX12_after_39 rfl rfl ?_
  refine z_bipush (v := 50) b dX12_after_40 (by decide) ?_
  refine z_icmp_ne_t (tgt := 50) b dX12_after_42 (by decide) (by decide) ?_
  refine z_iload_n b dX12_after_50 rfl rfl ?_
  refine z_bipush (v := 40) b dX12_after_51 (by decide) ?_
  refine z_bipush (v := 42) b dX12_after_53 (by decide) ?_
  refine z_calli b (z_runS (As := [.int 30, .int 40, .int 42]) (st := []) b (c_X12_isIn_150 (si (sl S 2 1649317774848) 24 (-1)) ) cf_X12_isIn wm_X12_1 ws_X12_isIn dX12_after_55 rfl (Nat.le_of_ble_eq_true rfl) ⟨by decide, by decide, by decide, by decide⟩) (fun r20449 u20450 h20448 => ?_)
  obtain ⟨rfl, rfl⟩ := h20448
  refine z_if_eq_t (tgt := 71) b dX12_after_58 (by decide) (by decide) ?_
  refine z_iload_n b dX12_after_71 rfl rfl ?_
  refine z_bipush (v := 10) b dX12_after_72 (by decide) ?_
  refine z_irem (v := 0) b dX12_after_74 (by decide) (by decide) ?_
  refine z_istore_n (lv' := [(3, .int 0), (0, .ref (a 0)), (1, .int 4), (2, .int 30)]) b dX12_after_75 rfl (by decide) rfl ?_
  refine z_iload_n b dX12_after_76 rfl rfl ?_
  refine z_bipush (v := 10) b dX12_after_77 (by decide) ?_
  refine z_bipush (v := 38) b dX12_after_79 (by decide) ?_
  refine z_calli b (z_runS (As := [.int 30, .int 10, .int 38]) (st := []) b (c_X12_isIn_151 (si (sl S 2 1649317774848) 24 (-1)) ) cf_X12_isIn wm_X12_1 ws_X12_isIn dX12_after_81 rfl (Nat.le_of_ble_eq_true rfl) ⟨by decide, by decide, by decide, by decide⟩) (fun r20452 u20453 h20451 => ?_)
  obtain ⟨rfl, rfl⟩ := h20451
  refine z_if_eq_f (tgt := 102) b dX12_after_84 (by decide) (by decide) ?_
  refine z_iload_n b dX12_after_87 rfl rfl ?_
  refine z_bipush (v := 9) b dX12_after_88 (by decide) ?_
  refine z_icmp_eq_f (tgt := 102) b dX12_after_90 (by decide) (by decide) ?_
  refine z_iload_n b dX12_after_93 rfl rfl ?_
  refine z_iconst (v := 3) b dX12_after_94 (by decide) ?_
  refine z_idiv (v := 0) b dX12_after_95 (by decide) (by decide) ?_
  refine z_iload_n b dX12_after_96 rfl rfl ?_
  refine z_iconst (v := 3) b dX12_after_97 (by decide) ?_
  refine z_irem (v := 0) b dX12_after_98 (by decide) (by decide) ?_
  refine z_icmp_ne_f (tgt := 104) b dX12_after_99 (by decide) (by decide) ?_
  refine z_iconst (v := (-1)) b dX12_after_102 (by decide) ?_
  exact z_iret (u := (si (sl S 2 1649317774848) 24 (-1))) b rfl dX12_after_103 ⟨rfl, rfl⟩ rfl (by decide) (by decide)

set_option maxHeartbeats 4000000 in
set_option maxRecDepth 100000 in
theorem c_X11_after_252 {l : Launch} {D : va_G} {cy : Nat → ClassId} {T0 tB tE : Nat} {a : Nat → Nat} {rw : Nat → Option Nat} (S : GS)  (h_i_14 : fi S 14 = (-1)) (h_i_35 : fi S 35 = 0) (h_a_4_31 : ar S 4 31 = 0) (hrw : ∀ i, i < 6 → rw i = some (a (36 + 2 * i))) : Ct l D cy T0 tB tE yX11_after cX11_after 3 (some .int) 3 86 0 0 (cw cy tE a rw S) [.ref (a 0), .int 4, .int 31] (QI D (U := GS) (fun r u => 0 = r ∧ (sa S 8 (va_cpy (ar S 4) (ar S 8) 0 0 51)) = u) (cw cy tE a rw)) := by
  refine Ct.ofZ RX11 "after" [(0, .ref (a 0)), (1, .int 4), (2, .int 31)] rfl rfl rfl rfl (Nat.le_of_ble_eq_true rfl) ?_
  intro p e R s m args below meth c A b
  refine z_iload_n b dX11_after_0 rfl rfl ?_
  refine z_calli b (z_runS (As := [.int 4]) (st := []) b (c_X11_isRow_7 S ) cf_X11_isRow wm_X11_169 ws_X11_isRow dX11_after_1 rfl (Nat.le_of_ble_eq_true rfl) ⟨by decide, by decide, by decide, by decide⟩) (fun r20455 u20456 h20454 => ?_)
  obtain ⟨rfl, rfl⟩ := h20454
  refine z_if_eq_f (tgt := 14) b dX11_after_4 (by decide) (by decide) ?_
  refine z_iload_n b dX11_after_7 rfl rfl ?_
  refine z_calli b (z_runS (As := [.int 31]) (st := []) b (c_X9_has_34 S ) cf_X9_has wm_X11_191 ws_X9_has dX11_after_8 rfl (Nat.le_of_ble_eq_true rfl) ⟨by decide, by decide, by decide, by decide⟩) (fun r20458 u20459 h20457 => ?_)
  obtain ⟨rfl, rfl⟩ := h20457
  refine z_if_ne_t (tgt := 16) b dX11_after_11 (by decide) (by decide) ?_
  refine z_aload_n b dX11_after_16 rfl rfl ?_
  refine z_get (q0 := 0) (k9 := 5) (v := .ref (a 16)) b (cw_0 cy tE a rw S) rfl in_X11 (by decide) wf_X11_43 rfl dX11_after_17 ?_
  refine z_aload_n b dX11_after_20 rfl rfl ?_
  refine z_get (q0 := 0) (k9 := 7) (v := .ref (a 35)) b (cw_0 cy tE a rw S) rfl in_X11 (by decide) wf_X11_58 rfl dX11_after_21 ?_
  refine z_iload_n b dX11_after_24 rfl rfl ?_
  refine y_aald (q0 := 35) (t0 := 4) (j := 4) (v := .ref (a 44)) b (cw_35 cy tE a rw S) rfl (by decide) (by rw [hrw 4 (by decide)]; rfl) dX11_after_25 ?_
  refine z_aload_n b dX11_after_26 rfl rfl ?_
  refine z_get (q0 := 0) (k9 := 4) (v := .ref (a 14)) b (cw_0 cy tE a rw S) rfl in_X11 (by decide) wf_X11_34 rfl dX11_after_27 ?_
  refine z_iconst (v := 3) b dX11_after_30 (by decide) ?_
  refine z_iconst (v := 0) b dX11_after_31 (by decide) ?_
  refine z_calli b (z_runV (q0 := 16) (As := [.ref (a 44), .ref (a 14), .int 3, .int 0]) (st := []) b (c_X2_follow_11 S h_i_14 h_i_35) cf_X2_follow (cw_16 cy tE a rw S) rfl wm_X11_184 wi_X2_follow ws_X2_follow dX11_after_32 rfl (Nat.le_of_ble_eq_true rfl) ⟨by decide, by decide, by decide, by decide⟩) (fun r20461 u20462 h20460 => ?_)
  obtain ⟨rfl, rfl⟩ := h20460
  refine z_pop b dX11_after_35 rfl ?_
  refine z_aload_n b dX11_after_36 rfl rfl ?_
  refine z_get (q0 := 0) (k9 := 5) (v := .ref (a 16)) b (cw_0 cy tE a rw (sa S 8 (va_cpy (ar S 4) (ar S 8) 0 0 51))) rfl in_X11 (by decide) wf_X11_43 rfl dX11_after_37 ?_
  refine z_get (q0 := 16) (k9 := 3) (v := .ref (a 23)) b (cw_16 cy tE a rw (sa S 8 (va_cpy (ar S 4) (ar S 8) 0 0 51))) rfl in_X2 (by decide) wf_X11_194 rfl dX11_after_40 ?_
  refine z_iload_n b dX11_after_43 rfl rfl ?_
  refine z_calli b (z_runV (q0 := 23) (As := [.int 31]) (st := []) b (c_X9_get_25 (sa S 8 (va_cpy (ar S 4) (ar S 8) 0 0 51)) h_a_4_31) cf_X9_get (cw_23 cy tE a rw (sa S 8 (va_cpy (ar S 4) (ar S 8) 0 0 51))) rfl wm_X11_197 wi_X9_get ws_X9_get dX11_after_44 rfl (Nat.le_of_ble_eq_true rfl) ⟨by decide, by decide, by decide, by decide⟩) (fun r20464 u20465 h20463 => ?_)
  obtain ⟨rfl, rfl⟩ := h20463
  exact z_iret (u := (sa S 8 (va_cpy (ar S 4) (ar S 8) 0 0 51))) b rfl dX11_after_47 ⟨rfl, rfl⟩ rfl (by decide) (by decide)

set_option maxHeartbeats 4000000 in
set_option maxRecDepth 100000 in
theorem c_X12_after_252 {l : Launch} {D : va_G} {cy : Nat → ClassId} {T0 tB tE : Nat} {a : Nat → Nat} (S : GS)  (h_l_0 : fl S 0 = 1649317774848) (h_a_38_4 : ar S 38 4 = 0) (h_a_4_7 : ar S 4 7 = 0) (h_a_1_7 : ar S 1 7 = 0) (h_a_4_6 : ar S 4 6 = 0) (h_a_1_6 : ar S 1 6 = 0) (h_a_3_6 : ar S 3 6 = 0) (h_a_3_2 : ar S 3 2 = 0) (h_a_2_2 : ar S 2 2 = 3) (h_a_0_2 : ar S 0 2 = 0) (h_a_4_3 : ar S 4 3 = 0) (h_a_1_3 : ar S 1 3 = 0) (h_a_4_5 : ar S 4 5 = 0) (h_a_1_5 : ar S 1 5 = 0) (h_a_3_5 : ar S 3 5 = 0) (h_a_3_7 : ar S 3 7 = 0) (h_a_2_1 : ar S 2 1 = 3) (h_a_0_1 : ar S 0 1 = 0) (h_a_4_2 : ar S 4 2 = 0) (h_a_1_2 : ar S 1 2 = 0) (h_a_4_1 : ar S 4 1 = 0) (h_a_1_1 : ar S 1 1 = 0) (h_a_3_1 : ar S 3 1 = 0) (h_a_3_3 : ar S 3 3 = 0) (h_a_2_0 : ar S 2 0 = 3) (h_a_0_0 : ar S 0 0 = 0) (h_i_0 : fi S 0 = 0) : Ct l D cy T0 tB tE yX12_after cX12_after 4 (some .int) 2 47 0 0 (mw cy a S) [.ref (a 0), .int 4, .int 31] (QI D (U := GS) (fun r u => 0 = r ∧ (si (sl S 2 1649317774848) 24 (-1)) = u) (mw cy a)) := by
  refine Ct.ofZ RX12 "after" [(0, .ref (a 0)), (1, .int 4), (2, .int 31)] rfl rfl rfl rfl (Nat.le_of_ble_eq_true rfl) ?_
  intro p e R s m args below meth c A b
  refine z_iload_n b dX12_after_0 rfl rfl ?_
  refine z_calli b (z_runS (As := [.int 4]) (st := []) b (c_X12_isRow_7 S ) cf_X12_isRow wm_X12_452 ws_X12_isRow dX12_after_1 rfl (Nat.le_of_ble_eq_true rfl) ⟨by decide, by decide, by decide, by decide⟩) (fun r20467 u20468 h20466 => ?_)
  obtain ⟨rfl, rfl⟩ := h20466
  refine z_if_ne_t (tgt := 9) b dX12_after_4 (by decide) (by decide) ?_
  refine z_aload_n b dX12_after_9 rfl rfl ?_
  refine z_iload_n b dX12_after_10 rfl rfl ?_
  refine z_iconst (v := 3) b dX12_after_11 (by decide) ?_
  refine z_iconst (v := 0) b dX12_after_12 (by decide) ?_
  refine z_calli b (z_runV (q0 := 0) (As := [.int 4, .int 3, .int 0]) (st := []) b (c_X12_goes_11 S h_l_0 h_a_38_4) cf_X12_goes (mw_0 cy a S) rfl wm_X12_464 wi_X12_goes ws_X12_goes dX12_after_13 rfl (Nat.le_of_ble_eq_true rfl) ⟨by decide, by decide, by decide, by decide⟩) (fun r20470 u20471 h20469 => ?_)
  obtain ⟨rfl, rfl⟩ := h20469
  refine z_pop b dX12_after_16 rfl ?_
  refine z_aload_n b dX12_after_17 rfl rfl ?_
  refine z_aload_n b dX12_after_18 rfl rfl ?_
  refine z_get (q0 := 0) (k9 := 68) (v := .long 1649317774848) b (mw_0 cy a (si (sl S 2 1649317774848) 24 (-1))) rfl in_X12 (by decide) wf_X12_458 rfl dX12_after_19 ?_
  refine z_callv b (z_runV (q0 := 0) (As := [.long 1649317774848]) (st := []) b (c_X12_takes (si (sl S 2 1649317774848) 24 (-1)) h_a_4_7 h_a_1_7 h_a_4_6 h_a_1_6 h_a_3_6 h_a_3_2 h_a_2_2 h_a_0_2 h_a_4_3 h_a_1_3 h_a_4_5 h_a_1_5 h_a_3_5 h_a_3_7 h_a_2_1 h_a_0_1 h_a_4_2 h_a_1_2 h_a_4_1 h_a_1_1 h_a_3_1 h_a_3_3 h_a_2_0 h_a_0_0 h_i_0) cf_X12_takes (mw_0 cy a (si (sl S 2 1649317774848) 24 (-1))) rfl wm_X12_174 wi_X12_takes ws_X12_takes dX12_after_22 rfl (Nat.le_of_ble_eq_true rfl) ⟨by decide, by decide, by decide, by decide⟩) (fun u20474 h20472 => ?_)
  obtain rfl := h20472
  refine z_iload_n b dX12_after_25 rfl rfl ?_
  refine z_calli b (z_runS (As := [.int 31]) (st := []) b (c_X12_isOne_36 (si (sl S 2 1649317774848) 24 (-1)) ) cf_X12_isOne wm_X12_170 ws_X12_isOne dX12_after_26 rfl (Nat.le_of_ble_eq_true rfl) ⟨by decide, by decide, by decide, by decide⟩) (fun r20476 u20477 h20475 => ?_)
  obtain ⟨rfl, rfl⟩ := h20475
  refine z_if_eq_t (tgt := 39) b dX12_after_29 (by decide) (by decide) ?_
  refine z_iload_n b dX12_after_39 rfl rfl ?_
  refine z_bipush (v := 50) b dX12_after_40 (by decide) ?_
  refine z_icmp_ne_t (tgt := 50) b dX12_after_42 (by decide) (by decide) ?_
  refine z_iload_n b dX12_after_50 rfl rfl ?_
  refine z_bipush (v := 40) b dX12_after_51 (by decide) ?_
  refine z_bipush (v := 42) b dX12_after_53 (by decide) ?_
  refine z_calli b (z_runS (As := [.int 31, .int 40, .int 42]) (st := []) b (c_X12_isIn_153 (si (sl S 2 1649317774848) 24 (-1)) ) cf_X12_isIn wm_X12_1 ws_X12_isIn dX12_after_55 rfl (Nat.le_of_ble_eq_true rfl) ⟨by decide, by decide, by decide, by decide⟩) (fun r20479 u20480 h20478 => ?_)
  obtain ⟨rfl, rfl⟩ := h20478
  refine z_if_eq_t (tgt := 71) b dX12_after_58 (by decide) (by decide) ?_
  refine z_iload_n b dX12_after_71 rfl rfl ?_
  refine z_bipush (v := 10) b dX12_after_72 (by decide) ?_
  refine z_irem (v := 1) b dX12_after_74 (by decide) (by decide) ?_
  refine z_istore_n (lv' := [(3, .int 1), (0, .ref (a 0)), (1, .int 4), (2, .int 31)]) b dX12_after_75 rfl (by decide) rfl ?_
  refine z_iload_n b dX12_after_76 rfl rfl ?_
  refine z_bipush (v := 10) b dX12_after_77 (by decide) ?_
  refine z_bipush (v := 38) b dX12_after_79 (by decide) ?_
  refine z_calli b (z_runS (As := [.int 31, .int 10, .int 38]) (st := []) b (c_X12_isIn_154 (si (sl S 2 1649317774848) 24 (-1)) ) cf_X12_isIn wm_X12_1 ws_X12_isIn dX12_after_81 rfl (Nat.le_of_ble_eq_true rfl) ⟨by decide, by decide, by decide, by decide⟩) (fun r20482 u20483 h20481 => ?_)
  obtain ⟨rfl, rfl⟩ := h20481
  refine z_if_eq_f (tgt := 102) b dX12_after_84 (by decide) (by decide) ?_
  refine z_iload_n b dX12_after_87 rfl rfl ?_
  refine z_bipush (v := 9) b dX12_after_88 (by decide) ?_
  refine z_icmp_eq_f (tgt := 102) b dX12_after_90 (by decide) (by decide) ?_
  refine z_iload_n b dX12_after_93 rfl rfl ?_
  refine z_iconst (v := 3) b dX12_after_94 (by decide) ?_
  refine z_idiv (v := 0) b dX12_after_95 (by decide) (by decide) ?_
  refine z_iload_n b dX12_after_96 rfl rfl ?_
  refine z_iconst (v := 3) b dX12_after_97 (by decide) ?_
  refine z_irem (v := 1) b dX12_after_98 (by decide) (by decide) ?_
  refine z_icmp_ne_t (tgt := 104) b dX12_after_99 (by decide) (by decide) ?_
  refine z_iload_n b dX12_after_104 rfl rfl ?_
  refine z_bipush (v := 20) b dX12_after_105 (by decide) ?_
  refine z_icmp_ge_t (tgt := 119) b dX12_after_107 (by decide) (by decide) ?_
  refine z_iload_n b dX12_after_119 rfl rfl ?_
  refine z_bipush (v := 30) b dX12_after_120 (by decide) ?_
  refine z_icmp_ge_t (tgt := 137) b dX12_after_122 (by decide) (by decide) ?_
  refine z_aload_n b dX12_after_137 rfl rfl ?_
  refine z_get (q0 := 0) (k9 := 4) (v := .ref (a 5)) b (mw_0 cy a (si (sl S 2 1649317774848) 24 (-1))) rfl in_X12 (by decide) wf_X12_27 rfl dX12_after_138 ?_
  refine z_iload_n b dX12_after_141 rfl rfl ?_
  refine y_zald (q0 := 5) (j := 1) (v := (ar (si (sl S 2 1649317774848) 24 (-1)) 4 1)) b (mw_5 cy a (si (sl S 2 1649317774848) 24 (-1))) (by decide) rfl dX12_after_142 ?_
  refine z_eqi h_a_4_1 ?_
  refine z_if_eq_t (tgt := 150) b dX12_after_143 (by decide) (by decide) ?_
  refine z_iconst (v := 0) b dX12_after_150 (by decide) ?_
  exact z_iret (u := (si (sl S 2 1649317774848) 24 (-1))) b rfl dX12_after_151 ⟨rfl, rfl⟩ rfl (by decide) (by decide)

set_option maxHeartbeats 4000000 in
set_option maxRecDepth 100000 in
theorem c_X11_after_253 {l : Launch} {D : va_G} {cy : Nat → ClassId} {T0 tB tE : Nat} {a : Nat → Nat} {rw : Nat → Option Nat} (S : GS)  (h_i_14 : fi S 14 = (-1)) (h_i_35 : fi S 35 = 0) (h_a_4_32 : ar S 4 32 = 0) (hrw : ∀ i, i < 6 → rw i = some (a (36 + 2 * i))) : Ct l D cy T0 tB tE yX11_after cX11_after 3 (some .int) 3 86 0 0 (cw cy tE a rw S) [.ref (a 0), .int 4, .int 32] (QI D (U := GS) (fun r u => 0 = r ∧ (sa S 8 (va_cpy (ar S 4) (ar S 8) 0 0 51)) = u) (cw cy tE a rw)) := by
  refine Ct.ofZ RX11 "after" [(0, .ref (a 0)), (1, .int 4), (2, .int 32)] rfl rfl rfl rfl (Nat.le_of_ble_eq_true rfl) ?_
  intro p e R s m args below meth c A b
  refine z_iload_n b dX11_after_0 rfl rfl ?_
  refine z_calli b (z_runS (As := [.int 4]) (st := []) b (c_X11_isRow_7 S ) cf_X11_isRow wm_X11_169 ws_X11_isRow dX11_after_1 rfl (Nat.le_of_ble_eq_true rfl) ⟨by decide, by decide, by decide, by decide⟩) (fun r20485 u20486 h20484 => ?_)
  obtain ⟨rfl, rfl⟩ := h20484
  refine z_if_eq_f (tgt := 14) b dX11_after_4 (by decide) (by decide) ?_
  refine z_iload_n b dX11_after_7 rfl rfl ?_
  refine z_calli b (z_runS (As := [.int 32]) (st := []) b (c_X9_has_35 S ) cf_X9_has wm_X11_191 ws_X9_has dX11_after_8 rfl (Nat.le_of_ble_eq_true rfl) ⟨by decide, by decide, by decide, by decide⟩) (fun r20488 u20489 h20487 => ?_)
  obtain ⟨rfl, rfl⟩ := h20487
  refine z_if_ne_t (tgt := 16) b dX11_after_11 (by decide) (by decide) ?_
  refine z_aload_n b dX11_after_16 rfl rfl ?_
  refine z_get (q0 := 0) (k9 := 5) (v := .ref (a 16)) b (cw_0 cy tE a rw S) rfl in_X11 (by decide) wf_X11_43 rfl dX11_after_17 ?_
  refine z_aload_n b dX11_after_20 rfl rfl ?_
  refine z_get (q0 := 0) (k9 := 7) (v := .ref (a 35)) b (cw_0 cy tE a rw S) rfl in_X11 (by decide) wf_X11_58 rfl dX11_after_21 ?_
  refine z_iload_n b dX11_after_24 rfl rfl ?_
  refine y_aald (q0 := 35) (t0 := 4) (j := 4) (v := .ref (a 44)) b (cw_35 cy tE a rw S) rfl (by decide) (by rw [hrw 4 (by decide)]; rfl) dX11_after_25 ?_
  refine z_aload_n b dX11_after_26 rfl rfl ?_
  refine z_get (q0 := 0) (k9 := 4) (v := .ref (a 14)) b (cw_0 cy tE a rw S) rfl in_X11 (by decide) wf_X11_34 rfl dX11_after_27 ?_
  refine z_iconst (v := 3) b dX11_after_30 (by decide) ?_
  refine z_iconst (v := 0) b dX11_after_31 (by decide) ?_
  refine z_calli b (z_runV (q0 := 16) (As := [.ref (a 44), .ref (a 14), .int 3, .int 0]) (st := []) b (c_X2_follow_11 S h_i_14 h_i_35) cf_X2_follow (cw_16 cy tE a rw S) rfl wm_X11_184 wi_X2_follow ws_X2_follow dX11_after_32 rfl (Nat.le_of_ble_eq_true rfl) ⟨by decide, by decide, by decide, by decide⟩) (fun r20491 u20492 h20490 => ?_)
  obtain ⟨rfl, rfl⟩ := h20490
  refine z_pop b dX11_after_35 rfl ?_
  refine z_aload_n b dX11_after_36 rfl rfl ?_
  refine z_get (q0 := 0) (k9 := 5) (v := .ref (a 16)) b (cw_0 cy tE a rw (sa S 8 (va_cpy (ar S 4) (ar S 8) 0 0 51))) rfl in_X11 (by decide) wf_X11_43 rfl dX11_after_37 ?_
  refine z_get (q0 := 16) (k9 := 3) (v := .ref (a 23)) b (cw_16 cy tE a rw (sa S 8 (va_cpy (ar S 4) (ar S 8) 0 0 51))) rfl in_X2 (by decide) wf_X11_194 rfl dX11_after_40 ?_
  refine z_iload_n b dX11_after_43 rfl rfl ?_
  refine z_calli b (z_runV (q0 := 23) (As := [.int 32]) (st := []) b (c_X9_get_26 (sa S 8 (va_cpy (ar S 4) (ar S 8) 0 0 51)) h_a_4_32) cf_X9_get (cw_23 cy tE a rw (sa S 8 (va_cpy (ar S 4) (ar S 8) 0 0 51))) rfl wm_X11_197 wi_X9_get ws_X9_get dX11_after_44 rfl (Nat.le_of_ble_eq_true rfl) ⟨by decide, by decide, by decide, by decide⟩) (fun r20494 u20495 h20493 => ?_)
  obtain ⟨rfl, rfl⟩ := h20493
  exact z_iret (u := (sa S 8 (va_cpy (ar S 4) (ar S 8) 0 0 51))) b rfl dX11_after_47 ⟨rfl, rfl⟩ rfl (by decide) (by decide)

set_option maxHeartbeats 4000000 in
set_option maxRecDepth 100000 in
theorem c_X12_after_253 {l : Launch} {D : va_G} {cy : Nat → ClassId} {T0 tB tE : Nat} {a : Nat → Nat} (S : GS)  (h_l_0 : fl S 0 = 1649317774848) (h_a_38_4 : ar S 38 4 = 0) (h_a_4_7 : ar S 4 7 = 0) (h_a_1_7 : ar S 1 7 = 0) (h_a_4_6 : ar S 4 6 = 0) (h_a_1_6 : ar S 1 6 = 0) (h_a_3_6 : ar S 3 6 = 0) (h_a_3_2 : ar S 3 2 = 0) (h_a_2_2 : ar S 2 2 = 3) (h_a_0_2 : ar S 0 2 = 0) (h_a_4_3 : ar S 4 3 = 0) (h_a_1_3 : ar S 1 3 = 0) (h_a_4_5 : ar S 4 5 = 0) (h_a_1_5 : ar S 1 5 = 0) (h_a_3_5 : ar S 3 5 = 0) (h_a_3_7 : ar S 3 7 = 0) (h_a_2_1 : ar S 2 1 = 3) (h_a_0_1 : ar S 0 1 = 0) (h_a_4_2 : ar S 4 2 = 0) (h_a_1_2 : ar S 1 2 = 0) (h_a_4_1 : ar S 4 1 = 0) (h_a_1_1 : ar S 1 1 = 0) (h_a_3_1 : ar S 3 1 = 0) (h_a_3_3 : ar S 3 3 = 0) (h_a_2_0 : ar S 2 0 = 3) (h_a_0_0 : ar S 0 0 = 0) (h_i_0 : fi S 0 = 0) : Ct l D cy T0 tB tE yX12_after cX12_after 4 (some .int) 2 47 0 0 (mw cy a S) [.ref (a 0), .int 4, .int 32] (QI D (U := GS) (fun r u => 0 = r ∧ (si (sl S 2 1649317774848) 24 (-1)) = u) (mw cy a)) := by
  refine Ct.ofZ RX12 "after" [(0, .ref (a 0)), (1, .int 4), (2, .int 32)] rfl rfl rfl rfl (Nat.le_of_ble_eq_true rfl) ?_
  intro p e R s m args below meth c A b
  refine z_iload_n b dX12_after_0 rfl rfl ?_
  refine z_calli b (z_runS (As := [.int 4]) (st := []) b (c_X12_isRow_7 S ) cf_X12_isRow wm_X12_452 ws_X12_isRow dX12_after_1 rfl (Nat.le_of_ble_eq_true rfl) ⟨by decide, by decide, by decide, by decide⟩) (fun r20497 u20498 h20496 => ?_)
  obtain ⟨rfl, rfl⟩ := h20496
  refine z_if_ne_t (tgt := 9) b dX12_after_4 (by decide) (by decide) ?_
  refine z_aload_n b dX12_after_9 rfl rfl ?_
  refine z_iload_n b dX12_after_10 rfl rfl ?_
  refine z_iconst (v := 3) b dX12_after_11 (by decide) ?_
  refine z_iconst (v := 0) b dX12_after_12 (by decide) ?_
  refine z_calli b (z_runV (q0 := 0) (As := [.int 4, .int 3, .int 0]) (st := []) b (c_X12_goes_11 S h_l_0 h_a_38_4) cf_X12_goes (mw_0 cy a S) rfl wm_X12_464 wi_X12_goes ws_X12_goes dX12_after_13 rfl (Nat.le_of_ble_eq_true rfl) ⟨by decide, by decide, by decide, by decide⟩) (fun r20500 u20501 h20499 => ?_)
  obtain ⟨rfl, rfl⟩ := h20499
  refine z_pop b dX12_after_16 rfl ?_
  refine z_aload_n b dX12_after_17 rfl rfl ?_
  refine z_aload_n b dX12_after_18 rfl rfl ?_
  refine z_get (q0 := 0) (k9 := 68) (v := .long 1649317774848) b (mw_0 cy a (si (sl S 2 1649317774848) 24 (-1))) rfl in_X12 (by decide) wf_X12_458 rfl dX12_after_19 ?_
  refine z_callv b (z_runV (q0 := 0) (As := [.long 1649317774848]) (st := []) b (c_X12_takes (si (sl S 2 1649317774848) 24 (-1)) h_a_4_7 h_a_1_7 h_a_4_6 h_a_1_6 h_a_3_6 h_a_3_2 h_a_2_2 h_a_0_2 h_a_4_3 h_a_1_3 h_a_4_5 h_a_1_5 h_a_3_5 h_a_3_7 h_a_2_1 h_a_0_1 h_a_4_2 h_a_1_2 h_a_4_1 h_a_1_1 h_a_3_1 h_a_3_3 h_a_2_0 h_a_0_0 h_i_0) cf_X12_takes (mw_0 cy a (si (sl S 2 1649317774848) 24 (-1))) rfl wm_X12_174 wi_X12_takes ws_X12_takes dX12_after_22 rfl (Nat.le_of_ble_eq_true rfl) ⟨by decide, by decide, by decide, by decide⟩) (fun u20504 h20502 => ?_)
  obtain rfl := h20502
  refine z_iload_n b dX12_after_25 rfl rfl ?_
  refine z_calli b (z_runS (As := [.int 32]) (st := []) b (c_X12_isOne_37 (si (sl S 2 1649317774848) 24 (-1)) ) cf_X12_isOne wm_X12_170 ws_X12_isOne dX12_after_26 rfl (Nat.le_of_ble_eq_true rfl) ⟨by decide, by decide, by decide, by decide⟩) (fun r20506 u20507 h20505 => ?_)
  obtain ⟨rfl, rfl⟩ := h20505
  refine z_if_eq_t (tgt := 39) b dX12_after_29 (by decide) (by decide) ?_
  refine z_iload_n b dX12_after_39 rfl rfl ?_
  refine z_bipush (v := 50) b dX12_after_40 (by decide) ?_
  refine z_icmp_ne_t (tgt := 50) b dX12_after_42 (by decide) (by decide) ?_
  refine z_iload_n b dX12_after_50 rfl rfl ?_
  refine z_bipush (v := 40) b dX12_after_51 (by decide) ?_
  refine z_bipush (v := 42) b dX12_after_53 (by decide) ?_
  refine z_calli b (z_runS (As := [.int 32, .int 40, .int 42]) (st := []) b (c_X12_isIn_156 (si (sl S 2 1649317774848) 24 (-1)) ) cf_X12_isIn wm_X12_1 ws_X12_isIn dX12_after_55 rfl (Nat.le_of_ble_eq_true rfl) ⟨by decide, by decide, by decide, by decide⟩) (fun r20509 u20510 h20508 => ?_)
  obtain ⟨rfl, rfl⟩ := h20508
  refine z_if_eq_t (tgt := 71) b dX12_after_58 (by decide) (by decide) ?_
  refine z_iload_n b dX12_after_71 rfl rfl ?_
  refine z_bipush (v := 10) b dX12_after_72 (by decide) ?_
  refine z_irem (v := 2) b dX12_after_74 (by decide) (by decide) ?_
  refine z_istore_n (lv' := [(3, .int 2), (0, .ref (a 0)), (1, .int 4), (2, .int 32)]) b dX12_after_75 rfl (by decide) rfl ?_
  refine z_iload_n b dX12_after_76 rfl rfl ?_
  refine z_bipush (v := 10) b dX12_after_77 (by decide) ?_
  refine z_bipush (v := 38) b dX12_after_79 (by decide) ?_
  refine z_calli b (z_runS (As := [.int 32, .int 10, .int 38]) (st := []) b (c_X12_isIn_157 (si (sl S 2 1649317774848) 24 (-1)) ) cf_X12_isIn wm_X12_1 ws_X12_isIn dX12_after_81 rfl (Nat.le_of_ble_eq_true rfl) ⟨by decide, by decide, by decide, by decide⟩) (fun r20512 u20513 h20511 => ?_)
  obtain ⟨rfl, rfl⟩ := h20511
  refine z_if_eq_f (tgt := 102) b dX12_after_84 (by decide) (by decide) ?_
  refine z_iload_n b dX12_after_87 rfl rfl ?_
  refine z_bipush (v := 9) b dX12_after_88 (by decide) ?_
  refine z_icmp_eq_f (tgt := 102) b dX12_after_90 (by decide) (by decide) ?_
  refine z_iload_n b dX12_after_93 rfl rfl ?_
  refine z_iconst (v := 3) b dX12_after_94 (by decide) ?_
  refine z_idiv (v := 0) b dX12_after_95 (by decide) (by decide) ?_
  refine z_iload_n b dX12_after_96 rfl rfl ?_
  refine z_iconst (v := 3) b dX12_after_97 (by decide) ?_
  refine z_irem (v := 2) b dX12_after_98 (by decide) (by decide) ?_
  refine z_icmp_ne_t (tgt := 104) b dX12_after_99 (by decide) (by decide) ?_
  refine z_iload_n b dX12_after_104 rfl rfl ?_
  refine z_bipush (v := 20) b dX12_after_105 (by decide) ?_
  refine z_icmp_ge_t (tgt := 119) b dX12_after_107 (by decide) (by decide) ?_
  refine z_iload_n b dX12_after_119 rfl rfl ?_
  refine z_bipush (v := 30) b dX12_after_120 (by decide) ?_
  refine z_icmp_ge_t (tgt := 137) b dX12_after_122 (by decide) (by decide) ?_
  refine z_aload_n b dX12_after_137 rfl rfl ?_
  refine z_get (q0 := 0) (k9 := 4) (v := .ref (a 5)) b (mw_0 cy a (si (sl S 2 1649317774848) 24 (-1))) rfl in_X12 (by decide) wf_X12_27 rfl dX12_after_138 ?_
  refine z_iload_n b dX12_after_141 rfl rfl ?_
  refine y_zald (q0 := 5) (j := 2) (v := (ar (si (sl S 2 1649317774848) 24 (-1)) 4 2)) b (mw_5 cy a (si (sl S 2 1649317774848) 24 (-1))) (by decide) rfl dX12_after_142 ?_
  refine z_eqi h_a_4_2 ?_
  refine z_if_eq_t (tgt := 150) b dX12_after_143 (by decide) (by decide) ?_
  refine z_iconst (v := 0) b dX12_after_150 (by decide) ?_
  exact z_iret (u := (si (sl S 2 1649317774848) 24 (-1))) b rfl dX12_after_151 ⟨rfl, rfl⟩ rfl (by decide) (by decide)

set_option maxHeartbeats 4000000 in
set_option maxRecDepth 100000 in
theorem c_X11_after_254 {l : Launch} {D : va_G} {cy : Nat → ClassId} {T0 tB tE : Nat} {a : Nat → Nat} {rw : Nat → Option Nat} (S : GS)  (h_i_14 : fi S 14 = (-1)) (h_i_35 : fi S 35 = 0) (h_a_4_33 : ar S 4 33 = 0) (hrw : ∀ i, i < 6 → rw i = some (a (36 + 2 * i))) : Ct l D cy T0 tB tE yX11_after cX11_after 3 (some .int) 3 86 0 0 (cw cy tE a rw S) [.ref (a 0), .int 4, .int 33] (QI D (U := GS) (fun r u => 0 = r ∧ (sa S 8 (va_cpy (ar S 4) (ar S 8) 0 0 51)) = u) (cw cy tE a rw)) := by
  refine Ct.ofZ RX11 "after" [(0, .ref (a 0)), (1, .int 4), (2, .int 33)] rfl rfl rfl rfl (Nat.le_of_ble_eq_true rfl) ?_
  intro p e R s m args below meth c A b
  refine z_iload_n b dX11_after_0 rfl rfl ?_
  refine z_calli b (z_runS (As := [.int 4]) (st := []) b (c_X11_isRow_7 S ) cf_X11_isRow wm_X11_169 ws_X11_isRow dX11_after_1 rfl (Nat.le_of_ble_eq_true rfl) ⟨by decide, by decide, by decide, by decide⟩) (fun r20515 u20516 h20514 => ?_)
  obtain ⟨rfl, rfl⟩ := h20514
  refine z_if_eq_f (tgt := 14) b dX11_after_4 (by decide) (by decide) ?_
  refine z_iload_n b dX11_after_7 rfl rfl ?_
  refine z_calli b (z_runS (As := [.int 33]) (st := []) b (c_X9_has_36 S ) cf_X9_has wm_X11_191 ws_X9_has dX11_after_8 rfl (Nat.le_of_ble_eq_true rfl) ⟨by decide, by decide, by decide, by decide⟩) (fun r20518 u20519 h20517 => ?_)
  obtain ⟨rfl, rfl⟩ := h20517
  refine z_if_ne_t (tgt := 16) b dX11_after_11 (by decide) (by decide) ?_
  refine z_aload_n b dX11_after_16 rfl rfl ?_
  refine z_get (q0 := 0) (k9 := 5) (v := .ref (a 16)) b (cw_0 cy tE a rw S) rfl in_X11 (by decide) wf_X11_43 rfl dX11_after_17 ?_
  refine z_aload_n b dX11_after_20 rfl rfl ?_
  refine z_get (q0 := 0) (k9 := 7) (v := .ref (a 35)) b (cw_0 cy tE a rw S) rfl in_X11 (by decide) wf_X11_58 rfl dX11_after_21 ?_
  refine z_iload_n b dX11_after_24 rfl rfl ?_
  refine y_aald (q0 := 35) (t0 := 4) (j := 4) (v := .ref (a 44)) b (cw_35 cy tE a rw S) rfl (by decide) (by rw [hrw 4 (by decide)]; rfl) dX11_after_25 ?_
  refine z_aload_n b dX11_after_26 rfl rfl ?_
  refine z_get (q0 := 0) (k9 := 4) (v := .ref (a 14)) b (cw_0 cy tE a rw S) rfl in_X11 (by decide) wf_X11_34 rfl dX11_after_27 ?_
  refine z_iconst (v := 3) b dX11_after_30 (by decide) ?_
  refine z_iconst (v := 0) b dX11_after_31 (by decide) ?_
  refine z_calli b (z_runV (q0 := 16) (As := [.ref (a 44), .ref (a 14), .int 3, .int 0]) (st := []) b (c_X2_follow_11 S h_i_14 h_i_35) cf_X2_follow (cw_16 cy tE a rw S) rfl wm_X11_184 wi_X2_follow ws_X2_follow dX11_after_32 rfl (Nat.le_of_ble_eq_true rfl) ⟨by decide, by decide, by decide, by decide⟩) (fun r20521 u20522 h20520 => ?_)
  obtain ⟨rfl, rfl⟩ := h20520
  refine z_pop b dX11_after_35 rfl ?_
  refine z_aload_n b dX11_after_36 rfl rfl ?_
  refine z_get (q0 := 0) (k9 := 5) (v := .ref (a 16)) b (cw_0 cy tE a rw (sa S 8 (va_cpy (ar S 4) (ar S 8) 0 0 51))) rfl in_X11 (by decide) wf_X11_43 rfl dX11_after_37 ?_
  refine z_get (q0 := 16) (k9 := 3) (v := .ref (a 23)) b (cw_16 cy tE a rw (sa S 8 (va_cpy (ar S 4) (ar S 8) 0 0 51))) rfl in_X2 (by decide) wf_X11_194 rfl dX11_after_40 ?_
  refine z_iload_n b dX11_after_43 rfl rfl ?_
  refine z_calli b (z_runV (q0 := 23) (As := [.int 33]) (st := []) b (c_X9_get_27 (sa S 8 (va_cpy (ar S 4) (ar S 8) 0 0 51)) h_a_4_33) cf_X9_get (cw_23 cy tE a rw (sa S 8 (va_cpy (ar S 4) (ar S 8) 0 0 51))) rfl wm_X11_197 wi_X9_get ws_X9_get dX11_after_44 rfl (Nat.le_of_ble_eq_true rfl) ⟨by decide, by decide, by decide, by decide⟩) (fun r20524 u20525 h20523 => ?_)
  obtain ⟨rfl, rfl⟩ := h20523
  exact z_iret (u := (sa S 8 (va_cpy (ar S 4) (ar S 8) 0 0 51))) b rfl dX11_after_47 ⟨rfl, rfl⟩ rfl (by decide) (by decide)

set_option maxHeartbeats 4000000 in
set_option maxRecDepth 100000 in
theorem c_X12_after_254 {l : Launch} {D : va_G} {cy : Nat → ClassId} {T0 tB tE : Nat} {a : Nat → Nat} (S : GS)  (h_l_0 : fl S 0 = 1649317774848) (h_a_38_4 : ar S 38 4 = 0) (h_a_4_7 : ar S 4 7 = 0) (h_a_1_7 : ar S 1 7 = 0) (h_a_4_6 : ar S 4 6 = 0) (h_a_1_6 : ar S 1 6 = 0) (h_a_3_6 : ar S 3 6 = 0) (h_a_3_2 : ar S 3 2 = 0) (h_a_2_2 : ar S 2 2 = 3) (h_a_0_2 : ar S 0 2 = 0) (h_a_4_3 : ar S 4 3 = 0) (h_a_1_3 : ar S 1 3 = 0) (h_a_4_5 : ar S 4 5 = 0) (h_a_1_5 : ar S 1 5 = 0) (h_a_3_5 : ar S 3 5 = 0) (h_a_3_7 : ar S 3 7 = 0) (h_a_2_1 : ar S 2 1 = 3) (h_a_0_1 : ar S 0 1 = 0) (h_a_4_2 : ar S 4 2 = 0) (h_a_1_2 : ar S 1 2 = 0) (h_a_4_1 : ar S 4 1 = 0) (h_a_1_1 : ar S 1 1 = 0) (h_a_3_1 : ar S 3 1 = 0) (h_a_3_3 : ar S 3 3 = 0) (h_a_2_0 : ar S 2 0 = 3) (h_a_0_0 : ar S 0 0 = 0) (h_i_0 : fi S 0 = 0) : Ct l D cy T0 tB tE yX12_after cX12_after 4 (some .int) 2 47 0 0 (mw cy a S) [.ref (a 0), .int 4, .int 33] (QI D (U := GS) (fun r u => 0 = r ∧ (si (sl S 2 1649317774848) 24 (-1)) = u) (mw cy a)) := by
  refine Ct.ofZ RX12 "after" [(0, .ref (a 0)), (1, .int 4), (2, .int 33)] rfl rfl rfl rfl (Nat.le_of_ble_eq_true rfl) ?_
  intro p e R s m args below meth c A b
  refine z_iload_n b dX12_after_0 rfl rfl ?_
  refine z_calli b (z_runS (As := [.int 4]) (st := []) b (c_X12_isRow_7 S ) cf_X12_isRow wm_X12_452 ws_X12_isRow dX12_after_1 rfl (Nat.le_of_ble_eq_true rfl) ⟨by decide, by decide, by decide, by decide⟩) (fun r20527 u20528 h20526 => ?_)
  obtain ⟨rfl, rfl⟩ := h20526
  refine z_if_ne_t (tgt := 9) b dX12_after_4 (by decide) (by decide) ?_
  refine z_aload_n b dX12_after_9 rfl rfl ?_
  refine z_iload_n b dX12_after_10 rfl rfl ?_
  refine z_iconst (v := 3) b dX12_after_11 (by decide) ?_
  refine z_iconst (v := 0) b dX12_after_12 (by decide) ?_
  refine z_calli b (z_runV (q0 := 0) (As := [.int 4, .int 3, .int 0]) (st := []) b (c_X12_goes_11 S h_l_0 h_a_38_4) cf_X12_goes (mw_0 cy a S) rfl wm_X12_464 wi_X12_goes ws_X12_goes dX12_after_13 rfl (Nat.le_of_ble_eq_true rfl) ⟨by decide, by decide, by decide, by decide⟩) (fun r20530 u20531 h20529 => ?_)
  obtain ⟨rfl, rfl⟩ := h20529
  refine z_pop b dX12_after_16 rfl ?_
  refine z_aload_n b dX12_after_17 rfl rfl ?_
  refine z_aload_n b dX12_after_18 rfl rfl ?_
  refine z_get (q0 := 0) (k9 := 68) (v := .long 1649317774848) b (mw_0 cy a (si (sl S 2 1649317774848) 24 (-1))) rfl in_X12 (by decide) wf_X12_458 rfl dX12_after_19 ?_
  refine z_callv b (z_runV (q0 := 0) (As := [.long 1649317774848]) (st := []) b (c_X12_takes (si (sl S 2 1649317774848) 24 (-1)) h_a_4_7 h_a_1_7 h_a_4_6 h_a_1_6 h_a_3_6 h_a_3_2 h_a_2_2 h_a_0_2 h_a_4_3 h_a_1_3 h_a_4_5 h_a_1_5 h_a_3_5 h_a_3_7 h_a_2_1 h_a_0_1 h_a_4_2 h_a_1_2 h_a_4_1 h_a_1_1 h_a_3_1 h_a_3_3 h_a_2_0 h_a_0_0 h_i_0) cf_X12_takes (mw_0 cy a (si (sl S 2 1649317774848) 24 (-1))) rfl wm_X12_174 wi_X12_takes ws_X12_takes dX12_after_22 rfl (Nat.le_of_ble_eq_true rfl) ⟨by decide, by decide, by decide, by decide⟩) (fun u20534 h20532 => ?_)
  obtain rfl := h20532
  refine z_iload_n b dX12_after_25 rfl rfl ?_
  refine z_calli b (z_runS (As := [.int 33]) (st := []) b (c_X12_isOne_38 (si (sl S 2 1649317774848) 24 (-1)) ) cf_X12_isOne wm_X12_170 ws_X12_isOne dX12_after_26 rfl (Nat.le_of_ble_eq_true rfl) ⟨by decide, by decide, by decide, by decide⟩) (fun r20536 u20537 h20535 => ?_)
  obtain ⟨rfl, rfl⟩ := h20535
  refine z_if_eq_t (tgt := 39) b dX12_after_29 (by decide) (by decide) ?_
  refine z_iload_n b dX12_after_39 rfl rfl ?_
  refine z_bipush (v := 50) b dX12_after_40 (by decide) ?_
  refine z_icmp_ne_t (tgt := 50) b dX12_after_42 (by decide) (by decide) ?_
  refine z_iload_n b dX12_after_50 rfl rfl ?_
  refine z_bipush (v := 40) b dX12_after_51 (by decide) ?_
  refine z_bipush (v := 42) b dX12_after_53 (by decide) ?_
  refine z_calli b (z_runS (As := [.int 33, .int 40, .int 42]) (st := []) b (c_X12_isIn_159 (si (sl S 2 1649317774848) 24 (-1)) ) cf_X12_isIn wm_X12_1 ws_X12_isIn dX12_after_55 rfl (Nat.le_of_ble_eq_true rfl) ⟨by decide, by decide, by decide, by decide⟩) (fun r20539 u20540 h20538 => ?_)
  obtain ⟨rfl, rfl⟩ := h20538
  refine z_if_eq_t (tgt := 71) b dX12_after_58 (by decide) (by decide) ?_
  refine z_iload_n b dX12_after_71 rfl rfl ?_
  refine z_bipush (v := 10) b dX12_after_72 (by decide) ?_
  refine z_irem (v := 3) b dX12_after_74 (by decide) (by decide) ?_
  refine z_istore_n (lv' := [(3, .int 3), (0, .ref (a 0)), (1, .int 4), (2, .int 33)]) b dX12_after_75 rfl (by decide) rfl ?_
  refine z_iload_n b dX12_after_76 rfl rfl ?_
  refine z_bipush (v := 10) b dX12_after_77 (by decide) ?_
  refine z_bipush (v := 38) b dX12_after_79 (by decide) ?_
  refine z_calli b (z_runS (As := [.int 33, .int 10, .int 38]) (st := []) b (c_X12_isIn_160 (si (sl S 2 1649317774848) 24 (-1)) ) cf_X12_isIn wm_X12_1 ws_X12_isIn dX12_after_81 rfl (Nat.le_of_ble_eq_true rfl) ⟨by decide, by decide, by decide, by decide⟩) (fun r20542 u20543 h20541 => ?_)
  obtain ⟨rfl, rfl⟩ := h20541
  refine z_if_eq_f (tgt := 102) b dX12_after_84 (by decide) (by decide) ?_
  refine z_iload_n b dX12_after_87 rfl rfl ?_
  refine z_bipush (v := 9) b dX12_after_88 (by decide) ?_
  refine z_icmp_eq_f (tgt := 102) b dX12_after_90 (by decide) (by decide) ?_
  refine z_iload_n b dX12_after_93 rfl rfl ?_
  refine z_iconst (v := 3) b dX12_after_94 (by decide) ?_
  refine z_idiv (v := 1) b dX12_after_95 (by decide) (by decide) ?_
  refine z_iload_n b dX12_after_96 rfl rfl ?_
  refine z_iconst (v := 3) b dX12_after_97 (by decide) ?_
  refine z_irem (v := 0) b dX12_after_98 (by decide) (by decide) ?_
  refine z_icmp_ne_t (tgt := 104) b dX12_after_99 (by decide) (by decide) ?_
  refine z_iload_n b dX12_after_104 rfl rfl ?_
  refine z_bipush (v := 20) b dX12_after_105 (by decide) ?_
  refine z_icmp_ge_t (tgt := 119) b dX12_after_107 (by decide) (by decide) ?_
  refine z_iload_n b dX12_after_119 rfl rfl ?_
  refine z_bipush (v := 30) b dX12_after_120 (by decide) ?_
  refine z_icmp_ge_t (tgt := 137) b dX12_after_122 (by decide) (by decide) ?_
  refine z_aload_n b dX12_after_137 rfl rfl ?_
  refine z_get (q0 := 0) (k9 := 4) (v := .ref (a 5)) b (mw_0 cy a (si (sl S 2 1649317774848) 24 (-1))) rfl in_X12 (by decide) wf_X12_27 rfl dX12_after_138 ?_
  refine z_iload_n b dX12_after_141 rfl rfl ?_
  refine y_zald (q0 := 5) (j := 3) (v := (ar (si (sl S 2 1649317774848) 24 (-1)) 4 3)) b (mw_5 cy a (si (sl S 2 1649317774848) 24 (-1))) (by decide) rfl dX12_after_142 ?_
  refine z_eqi h_a_4_3 ?_
  refine z_if_eq_t (tgt := 150) b dX12_after_143 (by decide) (by decide) ?_
  refine z_iconst (v := 0) b dX12_after_150 (by decide) ?_
  exact z_iret (u := (si (sl S 2 1649317774848) 24 (-1))) b rfl dX12_after_151 ⟨rfl, rfl⟩ rfl (by decide) (by decide)

set_option maxHeartbeats 4000000 in
set_option maxRecDepth 100000 in
theorem c_X11_after_255 {l : Launch} {D : va_G} {cy : Nat → ClassId} {T0 tB tE : Nat} {a : Nat → Nat} {rw : Nat → Option Nat} (S : GS)   : Ct l D cy T0 tB tE yX11_after cX11_after 3 (some .int) 3 62 0 0 (cw cy tE a rw S) [.ref (a 0), .int 4, .int 34] (QI D (U := GS) (fun r u => (-1) = r ∧ S = u) (cw cy tE a rw)) := by
  refine Ct.ofZ RX11 "after" [(0, .ref (a 0)), (1, .int 4), (2, .int 34)] rfl rfl rfl rfl (Nat.le_of_ble_eq_true rfl) ?_
  intro p e R s m args below meth c A b
  refine z_iload_n b dX11_after_0 rfl rfl ?_
  refine z_calli b (z_runS (As := [.int 4]) (st := []) b (c_X11_isRow_7 S ) cf_X11_isRow wm_X11_169 ws_X11_isRow dX11_after_1 rfl (Nat.le_of_ble_eq_true rfl) ⟨by decide, by decide, by decide, by decide⟩) (fun r20545 u20546 h20544 => ?_)
  obtain ⟨rfl, rfl⟩ := h20544
  refine z_if_eq_f (tgt := 14) b dX11_after_4 (by decide) (by decide) ?_
  refine z_iload_n b dX11_after_7 rfl rfl ?_
  refine z_calli b (z_runS (As := [.int 34]) (st := []) b (c_X9_has_37 S ) cf_X9_has wm_X11_191 ws_X9_has dX11_after_8 rfl (Nat.le_of_ble_eq_true rfl) ⟨by decide, by decide, by decide, by decide⟩) (fun r20548 u20549 h20547 => ?_)
  obtain ⟨rfl, rfl⟩ := h20547
  refine z_if_ne_f (tgt := 16) b dX11_after_11 (by decide) (by decide) ?_
  refine z_iconst (v := (-1)) b dX11_after_14 (by decide) ?_
  exact z_iret (u := S) b rfl dX11_after_15 ⟨rfl, rfl⟩ rfl (by decide) (by decide)

set_option maxHeartbeats 4000000 in
set_option maxRecDepth 100000 in
theorem c_X12_after_255 {l : Launch} {D : va_G} {cy : Nat → ClassId} {T0 tB tE : Nat} {a : Nat → Nat} (S : GS)  (h_l_0 : fl S 0 = 1649317774848) (h_a_38_4 : ar S 38 4 = 0) (h_a_4_7 : ar S 4 7 = 0) (h_a_1_7 : ar S 1 7 = 0) (h_a_4_6 : ar S 4 6 = 0) (h_a_1_6 : ar S 1 6 = 0) (h_a_3_6 : ar S 3 6 = 0) (h_a_3_2 : ar S 3 2 = 0) (h_a_2_2 : ar S 2 2 = 3) (h_a_0_2 : ar S 0 2 = 0) (h_a_4_3 : ar S 4 3 = 0) (h_a_1_3 : ar S 1 3 = 0) (h_a_4_5 : ar S 4 5 = 0) (h_a_1_5 : ar S 1 5 = 0) (h_a_3_5 : ar S 3 5 = 0) (h_a_3_7 : ar S 3 7 = 0) (h_a_2_1 : ar S 2 1 = 3) (h_a_0_1 : ar S 0 1 = 0) (h_a_4_2 : ar S 4 2 = 0) (h_a_1_2 : ar S 1 2 = 0) (h_a_4_1 : ar S 4 1 = 0) (h_a_1_1 : ar S 1 1 = 0) (h_a_3_1 : ar S 3 1 = 0) (h_a_3_3 : ar S 3 3 = 0) (h_a_2_0 : ar S 2 0 = 3) (h_a_0_0 : ar S 0 0 = 0) (h_i_0 : fi S 0 = 0) : Ct l D cy T0 tB tE yX12_after cX12_after 4 (some .int) 2 47 0 0 (mw cy a S) [.ref (a 0), .int 4, .int 34] (QI D (U := GS) (fun r u => (-1) = r ∧ (si (sl S 2 1649317774848) 24 (-1)) = u) (mw cy a)) := by
  refine Ct.ofZ RX12 "after" [(0, .ref (a 0)), (1, .int 4), (2, .int 34)] rfl rfl rfl rfl (Nat.le_of_ble_eq_true rfl) ?_
  intro p e R s m args below meth c A b
  refine z_iload_n b dX12_after_0 rfl rfl ?_
  refine z_calli b (z_runS (As := [.int 4]) (st := []) b (c_X12_isRow_7 S ) cf_X12_isRow wm_X12_452 ws_X12_isRow dX12_after_1 rfl (Nat.le_of_ble_eq_true rfl) ⟨by decide, by decide, by decide, by decide⟩) (fun r20551 u20552 h20550 => ?_)
  obtain ⟨rfl, rfl⟩ := h20550
  refine z_if_ne_t (tgt := 9) b dX12_after_4 (by decide) (by decide) ?_
  refine z_aload_n b dX12_after_9 rfl rfl ?_
  refine z_iload_n b dX12_after_10 rfl rfl ?_
  refine z_iconst (v := 3) b dX12_after_11 (by decide) ?_
  refine z_iconst (v := 0) b dX12_after_12 (by decide) ?_
  refine z_calli b (z_runV (q0 := 0) (As := [.int 4, .int 3, .int 0]) (st := []) b (c_X12_goes_11 S h_l_0 h_a_38_4) cf_X12_goes (mw_0 cy a S) rfl wm_X12_464 wi_X12_goes ws_X12_goes dX12_after_13 rfl (Nat.le_of_ble_eq_true rfl) ⟨by decide, by decide, by decide, by decide⟩) (fun r20554 u20555 h20553 => ?_)
  obtain ⟨rfl, rfl⟩ := h20553
  refine z_pop b dX12_after_16 rfl ?_
  refine z_aload_n b dX12_after_17 rfl rfl ?_
  refine z_aload_n b dX12_after_18 rfl rfl ?_
  refine z_get (q0 := 0) (k9 := 68) (v := .long 1649317774848) b (mw_0 cy a (si (sl S 2 1649317774848) 24 (-1))) rfl in_X12 (by decide) wf_X12_458 rfl dX12_after_19 ?_
  refine z_callv b (z_runV (q0 := 0) (As := [.long 1649317774848]) (st := []) b (c_X12_takes (si (sl S 2 1649317774848) 24 (-1)) h_a_4_7 h_a_1_7 h_a_4_6 h_a_1_6 h_a_3_6 h_a_3_2 h_a_2_2 h_a_0_2 h_a_4_3 h_a_1_3 h_a_4_5 h_a_1_5 h_a_3_5 h_a_3_7 h_a_2_1 h_a_0_1 h_a_4_2 h_a_1_2 h_a_4_1 h_a_1_1 h_a_3_1 h_a_3_3 h_a_2_0 h_a_0_0 h_i_0) cf_X12_takes (mw_0 cy a (si (sl S 2 1649317774848) 24 (-1))) rfl wm_X12_174 wi_X12_takes ws_X12_takes dX12_after_22 rfl (Nat.le_of_ble_eq_true rfl) ⟨by decide, by decide, by decide, by decide⟩) (fun u20558 h20556 => ?_)
  obtain rfl := h20556
  refine z_iload_n b dX12_after_25 rfl rfl ?_
  refine z_calli b (z_runS (As := [.int 34]) (st := []) b (c_X12_isOne_39 (si (sl S 2 1649317774848) 24 (-1)) ) cf_X12_isOne wm_X12_170 ws_X12_isOne dX12_after_26 rfl (Nat.le_of_ble_eq_true rfl) ⟨by decide, by decide, by decide, by decide⟩) (fun r20560 u20561 h20559 => ?_)
  obtain ⟨rfl, rfl⟩ := h20559
  refine z_if_eq_t (tgt := 39) b dX12_after_29 (by decide) (by decide) ?_
  refine z_iload_n b dX12_after_39 rfl rfl ?_
  refine z_bipush (v := 50) b dX12_after_40 (by decide) ?_
  refine z_icmp_ne_t (tgt := 50) b dX12_after_42 (by decide) (by decide) ?_
  refine z_iload_n b dX12_after_50 rfl rfl ?_
  refine z_bipush (v := 40) b dX12_after_51 (by decide) ?_
  refine z_bipush (v := 42) b dX12_after_53 (by decide) ?_
  refine z_calli b (z_runS (As := [.int 34, .int 40, .int 42]) (st := []) b (c_X12_isIn_162 (si (sl S 2 1649317774848) 24 (-1)) ) cf_X12_isIn wm_X12_1 ws_X12_isIn dX12_after_55 rfl (Nat.le_of_ble_eq_true rfl) ⟨by decide, by decide, by decide, by decide⟩) (fun r20563 u20564 h20562 => ?_)
  obtain ⟨rfl, rfl⟩ := h20562
  refine z_if_eq_t (tgt := 71) b dX12_after_58 (by decide) (by decide) ?_
  refine z_iload_n b dX12_after_71 rfl rfl ?_
  refine z_bipush (v := 10) b dX12_after_72 (by decide) ?_
  refine z_irem (v := 4) b dX12_after_74 (by decide) (by decide) ?_
  refine z_istore_n (lv' := [(3, .int 4), (0, .ref (a 0)), (1, .int 4), (2, .int 34)]) b dX12_after_75 rfl (by decide) rfl ?_
  refine z_iload_n b dX12_after_76 rfl rfl ?_
  refine z_bipush (v := 10) b dX12_after_77 (by decide) ?_
  refine z_bipush (v := 38) b dX12_after_79 (by decide) ?_
  refine z_calli b (z_runS (As := [.int 34, .int 10, .int 38]) (st := []) b (c_X12_isIn_163 (si (sl S 2 1649317774848) 24 (-1)) ) cf_X12_isIn wm_X12_1 ws_X12_isIn dX12_after_81 rfl (Nat.le_of_ble_eq_true rfl) ⟨by decide, by decide, by decide, by decide⟩) (fun r20566 u20567 h20565 => ?_)
  obtain ⟨rfl, rfl⟩ := h20565
  refine z_if_eq_f (tgt := 102) b dX12_after_84 (by decide) (by decide) ?_
  refine z_iload_n b dX12_after_87 rfl rfl ?_
  refine z_bipush (v := 9) b dX12_after_88 (by decide) ?_
  refine z_icmp_eq_f (tgt := 102) b dX12_after_90 (by decide) (by decide) ?_
  refine z_iload_n b dX12_after_93 rfl rfl ?_
  refine z_iconst (v := 3) b dX12_after_94 (by decide) ?_
  refine z_idiv (v := 1) b dX12_after_95 (by decide) (by decide) ?_
  refine z_iload_n b dX12_after_96 rfl rfl ?_
  refine z_iconst (v := 3) b dX12_after_97 (by decide) ?_
  refine z_irem (v := 1) b dX12_after_98 (by decide) (by decide) ?_
  refine z_icmp_ne_f (tgt := 104) b dX12_after_99 (by decide) (by decide) ?_
  refine z_iconst (v := (-1)) b dX12_after_102 (by decide) ?_
  exact z_iret (u := (si (sl S 2 1649317774848) 24 (-1))) b rfl dX12_after_103 ⟨rfl, rfl⟩ rfl (by decide) (by decide)

set_option maxHeartbeats 4000000 in
set_option maxRecDepth 100000 in
theorem c_X11_after_256 {l : Launch} {D : va_G} {cy : Nat → ClassId} {T0 tB tE : Nat} {a : Nat → Nat} {rw : Nat → Option Nat} (S : GS)  (h_i_14 : fi S 14 = (-1)) (h_i_35 : fi S 35 = 0) (h_a_4_35 : ar S 4 35 = 0) (hrw : ∀ i, i < 6 → rw i = some (a (36 + 2 * i))) : Ct l D cy T0 tB tE yX11_after cX11_after 3 (some .int) 3 86 0 0 (cw cy tE a rw S) [.ref (a 0), .int 4, .int 35] (QI D (U := GS) (fun r u => 0 = r ∧ (sa S 8 (va_cpy (ar S 4) (ar S 8) 0 0 51)) = u) (cw cy tE a rw)) := by
  refine Ct.ofZ RX11 "after" [(0, .ref (a 0)), (1, .int 4), (2, .int 35)] rfl rfl rfl rfl (Nat.le_of_ble_eq_true rfl) ?_
  intro p e R s m args below meth c A b
  refine z_iload_n b dX11_after_0 rfl rfl ?_
  refine z_calli b (z_runS (As := [.int 4]) (st := []) b (c_X11_isRow_7 S ) cf_X11_isRow wm_X11_169 ws_X11_isRow dX11_after_1 rfl (Nat.le_of_ble_eq_true rfl) ⟨by decide, by decide, by decide, by decide⟩) (fun r20569 u20570 h20568 => ?_)
  obtain ⟨rfl, rfl⟩ := h20568
  refine z_if_eq_f (tgt := 14) b dX11_after_4 (by decide) (by decide) ?_
  refine z_iload_n b dX11_after_7 rfl rfl ?_
  refine z_calli b (z_runS (As := [.int 35]) (st := []) b (c_X9_has_38 S ) cf_X9_has wm_X11_191 ws_X9_has dX11_after_8 rfl (Nat.le_of_ble_eq_true rfl) ⟨by decide, by decide, by decide, by decide⟩) (fun r20572 u20573 h20571 => ?_)
  obtain ⟨rfl, rfl⟩ := h20571
  refine z_if_ne_t (tgt := 16) b dX11_after_11 (by decide) (by decide) ?_
  refine z_aload_n b dX11_after_16 rfl rfl ?_
  refine z_get (q0 := 0) (k9 := 5) (v := .ref (a 16)) b (cw_0 cy tE a rw S) rfl in_X11 (by decide) wf_X11_43 rfl dX11_after_17 ?_
  refine z_aload_n b dX11_after_20 rfl rfl ?_
  refine z_get (q0 := 0) (k9 := 7) (v := .ref (a 35)) b (cw_0 cy tE a rw S) rfl in_X11 (by decide) wf_X11_58 rfl dX11_after_21 ?_
  refine z_iload_n b dX11_after_24 rfl rfl ?_
  refine y_aald (q0 := 35) (t0 := 4) (j := 4) (v := .ref (a 44)) b (cw_35 cy tE a rw S) rfl (by decide) (by rw [hrw 4 (by decide)]; rfl) dX11_after_25 ?_
  refine z_aload_n b dX11_after_26 rfl rfl ?_
  refine z_get (q0 := 0) (k9 := 4) (v := .ref (a 14)) b (cw_0 cy tE a rw S) rfl in_X11 (by decide) wf_X11_34 rfl dX11_after_27 ?_
  refine z_iconst (v := 3) b dX11_after_30 (by decide) ?_
  refine z_iconst (v := 0) b dX11_after_31 (by decide) ?_
  refine z_calli b (z_runV (q0 := 16) (As := [.ref (a 44), .ref (a 14), .int 3, .int 0]) (st := []) b (c_X2_follow_11 S h_i_14 h_i_35) cf_X2_follow (cw_16 cy tE a rw S) rfl wm_X11_184 wi_X2_follow ws_X2_follow dX11_after_32 rfl (Nat.le_of_ble_eq_true rfl) ⟨by decide, by decide, by decide, by decide⟩) (fun r20575 u20576 h20574 => ?_)
  obtain ⟨rfl, rfl⟩ := h20574
  refine z_pop b dX11_after_35 rfl ?_
  refine z_aload_n b dX11_after_36 rfl rfl ?_
  refine z_get (q0 := 0) (k9 := 5) (v := .ref (a 16)) b (cw_0 cy tE a rw (sa S 8 (va_cpy (ar S 4) (ar S 8) 0 0 51))) rfl in_X11 (by decide) wf_X11_43 rfl dX11_after_37 ?_
  refine z_get (q0 := 16) (k9 := 3) (v := .ref (a 23)) b (cw_16 cy tE a rw (sa S 8 (va_cpy (ar S 4) (ar S 8) 0 0 51))) rfl in_X2 (by decide) wf_X11_194 rfl dX11_after_40 ?_
  refine z_iload_n b dX11_after_43 rfl rfl ?_
  refine z_calli b (z_runV (q0 := 23) (As := [.int 35]) (st := []) b (c_X9_get_28 (sa S 8 (va_cpy (ar S 4) (ar S 8) 0 0 51)) h_a_4_35) cf_X9_get (cw_23 cy tE a rw (sa S 8 (va_cpy (ar S 4) (ar S 8) 0 0 51))) rfl wm_X11_197 wi_X9_get ws_X9_get dX11_after_44 rfl (Nat.le_of_ble_eq_true rfl) ⟨by decide, by decide, by decide, by decide⟩) (fun r20578 u20579 h20577 => ?_)
  obtain ⟨rfl, rfl⟩ := h20577
  exact z_iret (u := (sa S 8 (va_cpy (ar S 4) (ar S 8) 0 0 51))) b rfl dX11_after_47 ⟨rfl, rfl⟩ rfl (by decide) (by decide)

set_option maxHeartbeats 4000000 in
set_option maxRecDepth 100000 in
theorem c_X12_after_256 {l : Launch} {D : va_G} {cy : Nat → ClassId} {T0 tB tE : Nat} {a : Nat → Nat} (S : GS)  (h_l_0 : fl S 0 = 1649317774848) (h_a_38_4 : ar S 38 4 = 0) (h_a_4_7 : ar S 4 7 = 0) (h_a_1_7 : ar S 1 7 = 0) (h_a_4_6 : ar S 4 6 = 0) (h_a_1_6 : ar S 1 6 = 0) (h_a_3_6 : ar S 3 6 = 0) (h_a_3_2 : ar S 3 2 = 0) (h_a_2_2 : ar S 2 2 = 3) (h_a_0_2 : ar S 0 2 = 0) (h_a_4_3 : ar S 4 3 = 0) (h_a_1_3 : ar S 1 3 = 0) (h_a_4_5 : ar S 4 5 = 0) (h_a_1_5 : ar S 1 5 = 0) (h_a_3_5 : ar S 3 5 = 0) (h_a_3_7 : ar S 3 7 = 0) (h_a_2_1 : ar S 2 1 = 3) (h_a_0_1 : ar S 0 1 = 0) (h_a_4_2 : ar S 4 2 = 0) (h_a_1_2 : ar S 1 2 = 0) (h_a_4_1 : ar S 4 1 = 0) (h_a_1_1 : ar S 1 1 = 0) (h_a_3_1 : ar S 3 1 = 0) (h_a_3_3 : ar S 3 3 = 0) (h_a_2_0 : ar S 2 0 = 3) (h_a_0_0 : ar S 0 0 = 0) (h_i_0 : fi S 0 = 0) : Ct l D cy T0 tB tE yX12_after cX12_after 4 (some .int) 2 47 0 0 (mw cy a S) [.ref (a 0), .int 4, .int 35] (QI D (U := GS) (fun r u => 0 = r ∧ (si (sl S 2 1649317774848) 24 (-1)) = u) (mw cy a)) := by
  refine Ct.ofZ RX12 "after" [(0, .ref (a 0)), (1, .int 4), (2, .int 35)] rfl rfl rfl rfl (Nat.le_of_ble_eq_true rfl) ?_
  intro p e R s m args below meth c A b
  refine z_iload_n b dX12_after_0 rfl rfl ?_
  refine z_calli b (z_runS (As := [.int 4]) (st := []) b (c_X12_isRow_7 S ) cf_X12_isRow wm_X12_452 ws_X12_isRow dX12_after_1 rfl (Nat.le_of_ble_eq_true rfl) ⟨by decide, by decide, by decide, by decide⟩) (fun r20581 u20582 h20580 => ?_)
  obtain ⟨rfl, rfl⟩ := h20580
  refine z_if_ne_t (tgt := 9) b dX12_after_4 (by decide) (by decide) ?_
  refine z_aload_n b dX12_after_9 rfl rfl ?_
  refine z_iload_n b dX12_after_10 rfl rfl ?_
  refine z_iconst (v := 3) b dX12_after_11 (by decide) ?_
  refine z_iconst (v := 0) b dX12_after_12 (by decide) ?_
  refine z_calli b (z_runV (q0 := 0) (As := [.int 4, .int 3, .int 0]) (st := []) b (c_X12_goes_11 S h_l_0 h_a_38_4) cf_X12_goes (mw_0 cy a S) rfl wm_X12_464 wi_X12_goes ws_X12_goes dX12_after_13 rfl (Nat.le_of_ble_eq_true rfl) ⟨by decide, by decide, by decide, by decide⟩) (fun r20584 u20585 h20583 => ?_)
  obtain ⟨rfl, rfl⟩ := h20583
  refine z_pop b dX12_after_16 rfl ?_
  refine z_aload_n b dX12_after_17 rfl rfl ?_
  refine z_aload_n b dX12_after_18 rfl rfl ?_
  refine z_get (q0 := 0) (k9 := 68) (v := .long 1649317774848) b (mw_0 cy a (si (sl S 2 1649317774848) 24 (-1))) rfl in_X12 (by decide) wf_X12_458 rfl dX12_after_19 ?_
  refine z_callv b (z_runV (q0 := 0) (As := [.long 1649317774848]) (st := []) b (c_X12_takes (si (sl S 2 1649317774848) 24 (-1)) h_a_4_7 h_a_1_7 h_a_4_6 h_a_1_6 h_a_3_6 h_a_3_2 h_a_2_2 h_a_0_2 h_a_4_3 h_a_1_3 h_a_4_5 h_a_1_5 h_a_3_5 h_a_3_7 h_a_2_1 h_a_0_1 h_a_4_2 h_a_1_2 h_a_4_1 h_a_1_1 h_a_3_1 h_a_3_3 h_a_2_0 h_a_0_0 h_i_0) cf_X12_takes (mw_0 cy a (si (sl S 2 1649317774848) 24 (-1))) rfl wm_X12_174 wi_X12_takes ws_X12_takes dX12_after_22 rfl (Nat.le_of_ble_eq_true rfl) ⟨by decide, by decide, by decide, by decide⟩) (fun u20588 h20586 => ?_)
  obtain rfl := h20586
  refine z_iload_n b dX12_after_25 rfl rfl ?_
  refine z_calli b (z_runS (As := [.int 35]) (st := []) b (c_X12_isOne_40 (si (sl S 2 1649317774848) 24 (-1)) ) cf_X12_isOne wm_X12_170 ws_X12_isOne dX12_after_26 rfl (Nat.le_of_ble_eq_true rfl) ⟨by decide, by decide, by decide, by decide⟩) (fun r20590 u20591 h20589 => ?_)
  obtain ⟨rfl, rfl⟩ := h20589
  refine z_if_eq_t (tgt := 39) b dX12_after_29 (by decide) (by decide) ?_
  refine z_iload_n b dX12_after_39 rfl rfl ?_
  refine z_bipush (v := 50) b dX12_after_40 (by decide) ?_
  refine z_icmp_ne_t (tgt := 50) b dX12_after_42 (by decide) (by decide) ?_
  refine z_iload_n b dX12_after_50 rfl rfl ?_
  refine z_bipush (v := 40) b dX12_after_51 (by decide) ?_
  refine z_bipush (v := 42) b dX12_after_53 (by decide) ?_
  refine z_calli b (z_runS (As := [.int 35, .int 40, .int 42]) (st := []) b (c_X12_isIn_165 (si (sl S 2 1649317774848) 24 (-1)) ) cf_X12_isIn wm_X12_1 ws_X12_isIn dX12_after_55 rfl (Nat.le_of_ble_eq_true rfl) ⟨by decide, by decide, by decide, by decide⟩) (fun r20593 u20594 h20592 => ?_)
  obtain ⟨rfl, rfl⟩ := h20592
  refine z_if_eq_t (tgt := 71) b dX12_after_58 (by decide) (by decide) ?_
  refine z_iload_n b dX12_after_71 rfl rfl ?_
  refine z_bipush (v := 10) b dX12_after_72 (by decide) ?_
  refine z_irem (v := 5) b dX12_after_74 (by decide) (by decide) ?_
  refine z_istore_n (lv' := [(3, .int 5), (0, .ref (a 0)), (1, .int 4), (2, .int 35)]) b dX12_after_75 rfl (by decide) rfl ?_
  refine z_iload_n b dX12_after_76 rfl rfl ?_
  refine z_bipush (v := 10) b dX12_after_77 (by decide) ?_
  refine z_bipush (v := 38) b dX12_after_79 (by decide) ?_
  refine z_calli b (z_runS (As := [.int 35, .int 10, .int 38]) (st := []) b (c_X12_isIn_166 (si (sl S 2 1649317774848) 24 (-1)) ) cf_X12_isIn wm_X12_1 ws_X12_isIn dX12_after_81 rfl (Nat.le_of_ble_eq_true rfl) ⟨by decide, by decide, by decide, by decide⟩) (fun r20596 u20597 h20595 => ?_)
  obtain ⟨rfl, rfl⟩ := h20595
  refine z_if_eq_f (tgt := 102) b dX12_after_84 (by decide) (by decide) ?_
  refine z_iload_n b dX12_after_87 rfl rfl ?_
  refine z_bipush (v := 9) b dX12_after_88 (by decide) ?_
  refine z_icmp_eq_f (tgt := 102) b dX12_after_90 (by decide) (by decide) ?_
  refine z_iload_n b dX12_after_93 rfl rfl ?_
  refine z_iconst (v := 3) b dX12_after_94 (by decide) ?_
  refine z_idiv (v := 1) b dX12_after_95 (by decide) (by decide) ?_
  refine z_iload_n b dX12_after_96 rfl rfl ?_
  refine z_iconst (v := 3) b dX12_after_97 (by decide) ?_
  refine z_irem (v := 2) b dX12_after_98 (by decide) (by decide) ?_
  refine z_icmp_ne_t (tgt := 104) b dX12_after_99 (by decide) (by decide) ?_
  refine z_iload_n b dX12_after_104 rfl rfl ?_
  refine z_bipush (v := 20) b dX12_after_105 (by decide) ?_
  refine z_icmp_ge_t (tgt := 119) b dX12_after_107 (by decide) (by decide) ?_
  refine z_iload_n b dX12_after_119 rfl rfl ?_
  refine z_bipush (v := 30) b dX12_after_120 (by decide) ?_
  refine z_icmp_ge_t (tgt := 137) b dX12_after_122 (by decide) (by decide) ?_
  refine z_aload_n b dX12_after_137 rfl rfl ?_
  refine z_get (q0 := 0) (k9 := 4) (v := .ref (a 5)) b (mw_0 cy a (si (sl S 2 1649317774848) 24 (-1))) rfl in_X12 (by decide) wf_X12_27 rfl dX12_after_138 ?_
  refine z_iload_n b dX12_after_141 rfl rfl ?_
  refine y_zald (q0 := 5) (j := 5) (v := (ar (si (sl S 2 1649317774848) 24 (-1)) 4 5)) b (mw_5 cy a (si (sl S 2 1649317774848) 24 (-1))) (by decide) rfl dX12_after_142 ?_
  refine z_eqi h_a_4_5 ?_
  refine z_if_eq_t (tgt := 150) b dX12_after_143 (by decide) (by decide) ?_
  refine z_iconst (v := 0) b dX12_after_150 (by decide) ?_
  exact z_iret (u := (si (sl S 2 1649317774848) 24 (-1))) b rfl dX12_after_151 ⟨rfl, rfl⟩ rfl (by decide) (by decide)

set_option maxHeartbeats 4000000 in
set_option maxRecDepth 100000 in
theorem c_X11_after_257 {l : Launch} {D : va_G} {cy : Nat → ClassId} {T0 tB tE : Nat} {a : Nat → Nat} {rw : Nat → Option Nat} (S : GS)  (h_i_14 : fi S 14 = (-1)) (h_i_35 : fi S 35 = 0) (h_a_4_36 : ar S 4 36 = 0) (hrw : ∀ i, i < 6 → rw i = some (a (36 + 2 * i))) : Ct l D cy T0 tB tE yX11_after cX11_after 3 (some .int) 3 86 0 0 (cw cy tE a rw S) [.ref (a 0), .int 4, .int 36] (QI D (U := GS) (fun r u => 0 = r ∧ (sa S 8 (va_cpy (ar S 4) (ar S 8) 0 0 51)) = u) (cw cy tE a rw)) := by
  refine Ct.ofZ RX11 "after" [(0, .ref (a 0)), (1, .int 4), (2, .int 36)] rfl rfl rfl rfl (Nat.le_of_ble_eq_true rfl) ?_
  intro p e R s m args below meth c A b
  refine z_iload_n b dX11_after_0 rfl rfl ?_
  refine z_calli b (z_runS (As := [.int 4]) (st := []) b (c_X11_isRow_7 S ) cf_X11_isRow wm_X11_169 ws_X11_isRow dX11_after_1 rfl (Nat.le_of_ble_eq_true rfl) ⟨by decide, by decide, by decide, by decide⟩) (fun r20599 u20600 h20598 => ?_)
  obtain ⟨rfl, rfl⟩ := h20598
  refine z_if_eq_f (tgt := 14) b dX11_after_4 (by decide) (by decide) ?_
  refine z_iload_n b dX11_after_7 rfl rfl ?_
  refine z_calli b (z_runS (As := [.int 36]) (st := []) b (c_X9_has_39 S ) cf_X9_has wm_X11_191 ws_X9_has dX11_after_8 rfl (Nat.le_of_ble_eq_true rfl) ⟨by decide, by decide, by decide, by decide⟩) (fun r20602 u20603 h20601 => ?_)
  obtain ⟨rfl, rfl⟩ := h20601
  refine z_if_ne_t (tgt := 16) b dX11_after_11 (by decide) (by decide) ?_
  refine z_aload_n b dX11_after_16 rfl rfl ?_
  refine z_get (q0 := 0) (k9 := 5) (v := .ref (a 16)) b (cw_0 cy tE a rw S) rfl in_X11 (by decide) wf_X11_43 rfl dX11_after_17 ?_
  refine z_aload_n b dX11_after_20 rfl rfl ?_
  refine z_get (q0 := 0) (k9 := 7) (v := .ref (a 35)) b (cw_0 cy tE a rw S) rfl in_X11 (by decide) wf_X11_58 rfl dX11_after_21 ?_
  refine z_iload_n b dX11_after_24 rfl rfl ?_
  refine y_aald (q0 := 35) (t0 := 4) (j := 4) (v := .ref (a 44)) b (cw_35 cy tE a rw S) rfl (by decide) (by rw [hrw 4 (by decide)]; rfl) dX11_after_25 ?_
  refine z_aload_n b dX11_after_26 rfl rfl ?_
  refine z_get (q0 := 0) (k9 := 4) (v := .ref (a 14)) b (cw_0 cy tE a rw S) rfl in_X11 (by decide) wf_X11_34 rfl dX11_after_27 ?_
  refine z_iconst (v := 3) b dX11_after_30 (by decide) ?_
  refine z_iconst (v := 0) b dX11_after_31 (by decide) ?_
  refine z_calli b (z_runV (q0 := 16) (As := [.ref (a 44), .ref (a 14), .int 3, .int 0]) (st := []) b (c_X2_follow_11 S h_i_14 h_i_35) cf_X2_follow (cw_16 cy tE a rw S) rfl wm_X11_184 wi_X2_follow ws_X2_follow dX11_after_32 rfl (Nat.le_of_ble_eq_true rfl) ⟨by decide, by decide, by decide, by decide⟩) (fun r20605 u20606 h20604 => ?_)
  obtain ⟨rfl, rfl⟩ := h20604
  refine z_pop b dX11_after_35 rfl ?_
  refine z_aload_n b dX11_after_36 rfl rfl ?_
  refine z_get (q0 := 0) (k9 := 5) (v := .ref (a 16)) b (cw_0 cy tE a rw (sa S 8 (va_cpy (ar S 4) (ar S 8) 0 0 51))) rfl in_X11 (by decide) wf_X11_43 rfl dX11_after_37 ?_
  refine z_get (q0 := 16) (k9 := 3) (v := .ref (a 23)) b (cw_16 cy tE a rw (sa S 8 (va_cpy (ar S 4) (ar S 8) 0 0 51))) rfl in_X2 (by decide) wf_X11_194 rfl dX11_after_40 ?_
  refine z_iload_n b dX11_after_43 rfl rfl ?_
  refine z_calli b (z_runV (q0 := 23) (As := [.int 36]) (st := []) b (c_X9_get_29 (sa S 8 (va_cpy (ar S 4) (ar S 8) 0 0 51)) h_a_4_36) cf_X9_get (cw_23 cy tE a rw (sa S 8 (va_cpy (ar S 4) (ar S 8) 0 0 51))) rfl wm_X11_197 wi_X9_get ws_X9_get dX11_after_44 rfl (Nat.le_of_ble_eq_true rfl) ⟨by decide, by decide, by decide, by decide⟩) (fun r20608 u20609 h20607 => ?_)
  obtain ⟨rfl, rfl⟩ := h20607
  exact z_iret (u := (sa S 8 (va_cpy (ar S 4) (ar S 8) 0 0 51))) b rfl dX11_after_47 ⟨rfl, rfl⟩ rfl (by decide) (by decide)

set_option maxHeartbeats 4000000 in
set_option maxRecDepth 100000 in
theorem c_X12_after_257 {l : Launch} {D : va_G} {cy : Nat → ClassId} {T0 tB tE : Nat} {a : Nat → Nat} (S : GS)  (h_l_0 : fl S 0 = 1649317774848) (h_a_38_4 : ar S 38 4 = 0) (h_a_4_7 : ar S 4 7 = 0) (h_a_1_7 : ar S 1 7 = 0) (h_a_4_6 : ar S 4 6 = 0) (h_a_1_6 : ar S 1 6 = 0) (h_a_3_6 : ar S 3 6 = 0) (h_a_3_2 : ar S 3 2 = 0) (h_a_2_2 : ar S 2 2 = 3) (h_a_0_2 : ar S 0 2 = 0) (h_a_4_3 : ar S 4 3 = 0) (h_a_1_3 : ar S 1 3 = 0) (h_a_4_5 : ar S 4 5 = 0) (h_a_1_5 : ar S 1 5 = 0) (h_a_3_5 : ar S 3 5 = 0) (h_a_3_7 : ar S 3 7 = 0) (h_a_2_1 : ar S 2 1 = 3) (h_a_0_1 : ar S 0 1 = 0) (h_a_4_2 : ar S 4 2 = 0) (h_a_1_2 : ar S 1 2 = 0) (h_a_4_1 : ar S 4 1 = 0) (h_a_1_1 : ar S 1 1 = 0) (h_a_3_1 : ar S 3 1 = 0) (h_a_3_3 : ar S 3 3 = 0) (h_a_2_0 : ar S 2 0 = 3) (h_a_0_0 : ar S 0 0 = 0) (h_i_0 : fi S 0 = 0) : Ct l D cy T0 tB tE yX12_after cX12_after 4 (some .int) 2 47 0 0 (mw cy a S) [.ref (a 0), .int 4, .int 36] (QI D (U := GS) (fun r u => 0 = r ∧ (si (sl S 2 1649317774848) 24 (-1)) = u) (mw cy a)) := by
  refine Ct.ofZ RX12 "after" [(0, .ref (a 0)), (1, .int 4), (2, .int 36)] rfl rfl rfl rfl (Nat.le_of_ble_eq_true rfl) ?_
  intro p e R s m args below meth c A b
  refine z_iload_n b dX12_after_0 rfl rfl ?_
  refine z_calli b (z_runS (As := [.int 4]) (st := []) b (c_X12_isRow_7 S ) cf_X12_isRow wm_X12_452 ws_X12_isRow dX12_after_1 rfl (Nat.le_of_ble_eq_true rfl) ⟨by decide, by decide, by decide, by decide⟩) (fun r20611 u20612 h20610 => ?_)
  obtain ⟨rfl, rfl⟩ := h20610
  refine z_if_ne_t (tgt := 9) b dX12_after_4 (by decide) (by decide) ?_
  refine z_aload_n b dX12_after_9 rfl rfl ?_
  refine z_iload_n b dX12_after_10 rfl rfl ?_
  refine z_iconst (v := 3) b dX12_after_11 (by decide) ?_
  refine z_iconst (v := 0) b dX12_after_12 (by decide) ?_
  refine z_calli b (z_runV (q0 := 0) (As := [.int 4, .int 3, .int 0]) (st := []) b (c_X12_goes_11 S h_l_0 h_a_38_4) cf_X12_goes (mw_0 cy a S) rfl wm_X12_464 wi_X12_goes ws_X12_goes dX12_after_13 rfl (Nat.le_of_ble_eq_true rfl) ⟨by decide, by decide, by decide, by decide⟩) (fun r20614 u20615 h20613 => ?_)
  obtain ⟨rfl, rfl⟩ := h20613
  refine z_pop b dX12_after_16 rfl ?_
  refine z_aload_n b dX12_after_17 rfl rfl ?_
  refine z_aload_n b dX12_after_18 rfl rfl ?_
  refine z_get (q0 := 0) (k9 := 68) (v := .long 1649317774848) b (mw_0 cy a (si (sl S 2 1649317774848) 24 (-1))) rfl in_X12 (by decide) wf_X12_458 rfl dX12_after_19 ?_
  refine z_callv b (z_runV (q0 := 0) (As := [.long 1649317774848]) (st := []) b (c_X12_takes (si (sl S 2 1649317774848) 24 (-1)) h_a_4_7 h_a_1_7 h_a_4_6 h_a_1_6 h_a_3_6 h_a_3_2 h_a_2_2 h_a_0_2 h_a_4_3 h_a_1_3 h_a_4_5 h_a_1_5 h_a_3_5 h_a_3_7 h_a_2_1 h_a_0_1 h_a_4_2 h_a_1_2 h_a_4_1 h_a_1_1 h_a_3_1 h_a_3_3 h_a_2_0 h_a_0_0 h_i_0) cf_X12_takes (mw_0 cy a (si (sl S 2 1649317774848) 24 (-1))) rfl wm_X12_174 wi_X12_takes ws_X12_takes dX12_after_22 rfl (Nat.le_of_ble_eq_true rfl) ⟨by decide, by decide, by decide, by decide⟩) (fun u20618 h20616 => ?_)
  obtain rfl := h20616
  refine z_iload_n b dX12_after_25 rfl rfl ?_
  refine z_calli b (z_runS (As := [.int 36]) (st := []) b (c_X12_isOne_41 (si (sl S 2 1649317774848) 24 (-1)) ) cf_X12_isOne wm_X12_170 ws_X12_isOne dX12_after_26 rfl (Nat.le_of_ble_eq_true rfl) ⟨by decide, by decide, by decide, by decide⟩) (fun r20620 u20621 h20619 => ?_)
  obtain ⟨rfl, rfl⟩ := h20619
  refine z_if_eq_t (tgt := 39) b dX12_after_29 (by decide) (by decide) ?_
  refine z_iload_n b dX12_after_39 rfl rfl ?_
  refine z_bipush (v := 50) b dX12_after_40 (by decide) ?_
  refine z_icmp_ne_t (tgt := 50) b dX12_after_42 (by decide) (by decide) ?_
  refine z_iload_n b dX12_after_50 rfl rfl ?_
  refine z_bipush (v := 40) b dX12_after_51 (by decide) ?_
  refine z_bipush (v := 42) b dX12_after_53 (by decide) ?_
  refine z_calli b (z_runS (As := [.int 36, .int 40, .int 42]) (st := []) b (c_X12_isIn_168 (si (sl S 2 1649317774848) 24 (-1)) ) cf_X12_isIn wm_X12_1 ws_X12_isIn dX12_after_55 rfl (Nat.le_of_ble_eq_true rfl) ⟨by decide, by decide, by decide, by decide⟩) (fun r20623 u20624 h20622 => ?_)
  obtain ⟨rfl, rfl⟩ := h20622
  refine z_if_eq_t (tgt := 71) b dX12_after_58 (by decide) (by decide) ?_
  refine z_iload_n b dX12_after_71 rfl rfl ?_
  refine z_bipush (v := 10) b dX12_after_72 (by decide) ?_
  refine z_irem (v := 6) b dX12_after_74 (by decide) (by decide) ?_
  refine z_istore_n (lv' := [(3, .int 6), (0, .ref (a 0)), (1, .int 4), (2, .int 36)]) b dX12_after_75 rfl (by decide) rfl ?_
  refine z_iload_n b dX12_after_76 rfl rfl ?_
  refine z_bipush (v := 10) b dX12_after_77 (by decide) ?_
  refine z_bipush (v := 38) b dX12_after_79 (by decide) ?_
  refine z_calli b (z_runS (As := [.int 36, .int 10, .int 38]) (st := []) b (c_X12_isIn_169 (si (sl S 2 1649317774848) 24 (-1)) ) cf_X12_isIn wm_X12_1 ws_X12_isIn dX12_after_81 rfl (Nat.le_of_ble_eq_true rfl) ⟨by decide, by decide, by decide, by decide⟩) (fun r20626 u20627 h20625 => ?_)
  obtain ⟨rfl, rfl⟩ := h20625
  refine z_if_eq_f (tgt := 102) b dX12_after_84 (by decide) (by decide) ?_
  refine z_iload_n b dX12_after_87 rfl rfl ?_
  refine z_bipush (v := 9) b dX12_after_88 (by decide) ?_
  refine z_icmp_eq_f (tgt := 102) b dX12_after_90 (by decide) (by decide) ?_
  refine z_iload_n b dX12_after_93 rfl rfl ?_
  refine z_iconst (v := 3) b dX12_after_94 (by decide) ?_
  refine z_idiv (v := 2) b dX12_after_95 (by decide) (by decide) ?_
  refine z_iload_n b dX12_after_96 rfl rfl ?_
  refine z_iconst (v := 3) b dX12_after_97 (by decide) ?_
  refine z_irem (v := 0) b dX12_after_98 (by decide) (by decide) ?_
  refine z_icmp_ne_t (tgt := 104) b dX12_after_99 (by decide) (by decide) ?_
  refine z_iload_n b dX12_after_104 rfl rfl ?_
  refine z_bipush (v := 20) b dX12_after_105 (by decide) ?_
  refine z_icmp_ge_t (tgt := 119) b dX12_after_107 (by decide) (by decide) ?_
  refine z_iload_n b dX12_after_119 rfl rfl ?_
  refine z_bipush (v := 30) b dX12_after_120 (by decide) ?_
  refine z_icmp_ge_t (tgt := 137) b dX12_after_122 (by decide) (by decide) ?_
  refine z_aload_n b dX12_after_137 rfl rfl ?_
  refine z_get (q0 := 0) (k9 := 4) (v := .ref (a 5)) b (mw_0 cy a (si (sl S 2 1649317774848) 24 (-1))) rfl in_X12 (by decide) wf_X12_27 rfl dX12_after_138 ?_
  refine z_iload_n b dX12_after_141 rfl rfl ?_
  refine y_zald (q0 := 5) (j := 6) (v := (ar (si (sl S 2 1649317774848) 24 (-1)) 4 6)) b (mw_5 cy a (si (sl S 2 1649317774848) 24 (-1))) (by decide) rfl dX12_after_142 ?_
  refine z_eqi h_a_4_6 ?_
  refine z_if_eq_t (tgt := 150) b dX12_after_143 (by decide) (by decide) ?_
  refine z_iconst (v := 0) b dX12_after_150 (by decide) ?_
  exact z_iret (u := (si (sl S 2 1649317774848) 24 (-1))) b rfl dX12_after_151 ⟨rfl, rfl⟩ rfl (by decide) (by decide)

set_option maxHeartbeats 4000000 in
set_option maxRecDepth 100000 in
theorem c_X11_after_258 {l : Launch} {D : va_G} {cy : Nat → ClassId} {T0 tB tE : Nat} {a : Nat → Nat} {rw : Nat → Option Nat} (S : GS)  (h_i_14 : fi S 14 = (-1)) (h_i_35 : fi S 35 = 0) (h_a_4_37 : ar S 4 37 = 0) (hrw : ∀ i, i < 6 → rw i = some (a (36 + 2 * i))) : Ct l D cy T0 tB tE yX11_after cX11_after 3 (some .int) 3 86 0 0 (cw cy tE a rw S) [.ref (a 0), .int 4, .int 37] (QI D (U := GS) (fun r u => 0 = r ∧ (sa S 8 (va_cpy (ar S 4) (ar S 8) 0 0 51)) = u) (cw cy tE a rw)) := by
  refine Ct.ofZ RX11 "after" [(0, .ref (a 0)), (1, .int 4), (2, .int 37)] rfl rfl rfl rfl (Nat.le_of_ble_eq_true rfl) ?_
  intro p e R s m args below meth c A b
  refine z_iload_n b dX11_after_0 rfl rfl ?_
  refine z_calli b (z_runS (As := [.int 4]) (st := []) b (c_X11_isRow_7 S ) cf_X11_isRow wm_X11_169 ws_X11_isRow dX11_after_1 rfl (Nat.le_of_ble_eq_true rfl) ⟨by decide, by decide, by decide, by decide⟩) (fun r20629 u20630 h20628 => ?_)
  obtain ⟨rfl, rfl⟩ := h20628
  refine z_if_eq_f (tgt := 14) b dX11_after_4 (by decide) (by decide) ?_
  refine z_iload_n b dX11_after_7 rfl rfl ?_
  refine z_calli b (z_runS (As := [.int 37]) (st := []) b (c_X9_has_40 S ) cf_X9_has wm_X11_191 ws_X9_has dX11_after_8 rfl (Nat.le_of_ble_eq_true rfl) ⟨by decide, by decide, by decide, by decide⟩) (fun r20632 u20633 h20631 => ?_)
  obtain ⟨rfl, rfl⟩ := h20631
  refine z_if_ne_t (tgt := 16) b dX11_after_11 (by decide) (by decide) ?_
  refine z_aload_n b dX11_after_16 rfl rfl ?_
  refine z_get (q0 := 0) (k9 := 5) (v := .ref (a 16)) b (cw_0 cy tE a rw S) rfl in_X11 (by decide) wf_X11_43 rfl dX11_after_17 ?_
  refine z_aload_n b dX11_after_20 rfl rfl ?_
  refine z_get (q0 := 0) (k9 := 7) (v := .ref (a 35)) b (cw_0 cy tE a rw S) rfl in_X11 (by decide) wf_X11_58 rfl dX11_after_21 ?_
  refine z_iload_n b dX11_after_24 rfl rfl ?_
  refine y_aald (q0 := 35) (t0 := 4) (j := 4) (v := .ref (a 44)) b (cw_35 cy tE a rw S) rfl (by decide) (by rw [hrw 4 (by decide)]; rfl) dX11_after_25 ?_
  refine z_aload_n b dX11_after_26 rfl rfl ?_
  refine z_get (q0 := 0) (k9 := 4) (v := .ref (a 14)) b (cw_0 cy tE a rw S) rfl in_X11 (by decide) wf_X11_34 rfl dX11_after_27 ?_
  refine z_iconst (v := 3) b dX11_after_30 (by decide) ?_
  refine z_iconst (v := 0) b dX11_after_31 (by decide) ?_
  refine z_calli b (z_runV (q0 := 16) (As := [.ref (a 44), .ref (a 14), .int 3, .int 0]) (st := []) b (c_X2_follow_11 S h_i_14 h_i_35) cf_X2_follow (cw_16 cy tE a rw S) rfl wm_X11_184 wi_X2_follow ws_X2_follow dX11_after_32 rfl (Nat.le_of_ble_eq_true rfl) ⟨by decide, by decide, by decide, by decide⟩) (fun r20635 u20636 h20634 => ?_)
  obtain ⟨rfl, rfl⟩ := h20634
  refine z_pop b dX11_after_35 rfl ?_
  refine z_aload_n b dX11_after_36 rfl rfl ?_
  refine z_get (q0 := 0) (k9 := 5) (v := .ref (a 16)) b (cw_0 cy tE a rw (sa S 8 (va_cpy (ar S 4) (ar S 8) 0 0 51))) rfl in_X11 (by decide) wf_X11_43 rfl dX11_after_37 ?_
  refine z_get (q0 := 16) (k9 := 3) (v := .ref (a 23)) b (cw_16 cy tE a rw (sa S 8 (va_cpy (ar S 4) (ar S 8) 0 0 51))) rfl in_X2 (by decide) wf_X11_194 rfl dX11_after_40 ?_
  refine z_iload_n b dX11_after_43 rfl rfl ?_
  refine z_calli b (z_runV (q0 := 23) (As := [.int 37]) (st := []) b (c_X9_get_30 (sa S 8 (va_cpy (ar S 4) (ar S 8) 0 0 51)) h_a_4_37) cf_X9_get (cw_23 cy tE a rw (sa S 8 (va_cpy (ar S 4) (ar S 8) 0 0 51))) rfl wm_X11_197 wi_X9_get ws_X9_get dX11_after_44 rfl (Nat.le_of_ble_eq_true rfl) ⟨by decide, by decide, by decide, by decide⟩) (fun r20638 u20639 h20637 => ?_)
  obtain ⟨rfl, rfl⟩ := h20637
  exact z_iret (u := (sa S 8 (va_cpy (ar S 4) (ar S 8) 0 0 51))) b rfl dX11_after_47 ⟨rfl, rfl⟩ rfl (by decide) (by decide)

set_option maxHeartbeats 4000000 in
set_option maxRecDepth 100000 in
theorem c_X12_after_258 {l : Launch} {D : va_G} {cy : Nat → ClassId} {T0 tB tE : Nat} {a : Nat → Nat} (S : GS)  (h_l_0 : fl S 0 = 1649317774848) (h_a_38_4 : ar S 38 4 = 0) (h_a_4_7 : ar S 4 7 = 0) (h_a_1_7 : ar S 1 7 = 0) (h_a_4_6 : ar S 4 6 = 0) (h_a_1_6 : ar S 1 6 = 0) (h_a_3_6 : ar S 3 6 = 0) (h_a_3_2 : ar S 3 2 = 0) (h_a_2_2 : ar S 2 2 = 3) (h_a_0_2 : ar S 0 2 = 0) (h_a_4_3 : ar S 4 3 = 0) (h_a_1_3 : ar S 1 3 = 0) (h_a_4_5 : ar S 4 5 = 0) (h_a_1_5 : ar S 1 5 = 0) (h_a_3_5 : ar S 3 5 = 0) (h_a_3_7 : ar S 3 7 = 0) (h_a_2_1 : ar S 2 1 = 3) (h_a_0_1 : ar S 0 1 = 0) (h_a_4_2 : ar S 4 2 = 0) (h_a_1_2 : ar S 1 2 = 0) (h_a_4_1 : ar S 4 1 = 0) (h_a_1_1 : ar S 1 1 = 0) (h_a_3_1 : ar S 3 1 = 0) (h_a_3_3 : ar S 3 3 = 0) (h_a_2_0 : ar S 2 0 = 3) (h_a_0_0 : ar S 0 0 = 0) (h_i_0 : fi S 0 = 0) : Ct l D cy T0 tB tE yX12_after cX12_after 4 (some .int) 2 47 0 0 (mw cy a S) [.ref (a 0), .int 4, .int 37] (QI D (U := GS) (fun r u => 0 = r ∧ (si (sl S 2 1649317774848) 24 (-1)) = u) (mw cy a)) := by
  refine Ct.ofZ RX12 "after" [(0, .ref (a 0)), (1, .int 4), (2, .int 37)] rfl rfl rfl rfl (Nat.le_of_ble_eq_true rfl) ?_
  intro p e R s m args below meth c A b
  refine z_iload_n b dX12_after_0 rfl rfl ?_
  refine z_calli b (z_runS (As := [.int 4]) (st := []) b (c_X12_isRow_7 S ) cf_X12_isRow wm_X12_452 ws_X12_isRow dX12_after_1 rfl (Nat.le_of_ble_eq_true rfl) ⟨by decide, by decide, by decide, by decide⟩) (fun r20641 u20642 h20640 => ?_)
  obtain ⟨rfl, rfl⟩ := h20640
  refine z_if_ne_t (tgt := 9) b dX12_after_4 (by decide) (by decide) ?_
  refine z_aload_n b dX12_after_9 rfl rfl ?_
  refine z_iload_n b dX12_after_10 rfl rfl ?_
  refine z_iconst (v := 3) b dX12_after_11 (by decide) ?_
  refine z_iconst (v := 0) b dX12_after_12 (by decide) ?_
  refine z_calli b (z_runV (q0 := 0) (As := [.int 4, .int 3, .int 0]) (st := []) b (c_X12_goes_11 S h_l_0 h_a_38_4) cf_X12_goes (mw_0 cy a S) rfl wm_X12_464 wi_X12_goes ws_X12_goes dX12_after_13 rfl (Nat.le_of_ble_eq_true rfl) ⟨by decide, by decide, by decide, by decide⟩) (fun r20644 u20645 h20643 => ?_)
  obtain ⟨rfl, rfl⟩ := h20643
  refine z_pop b dX12_after_16 rfl ?_
  refine z_aload_n b dX12_after_17 rfl rfl ?_
  refine z_aload_n b dX12_after_18 rfl rfl ?_
  refine z_get (q0 := 0) (k9 := 68) (v := .long 1649317774848) b (mw_0 cy a (si (sl S 2 1649317774848) 24 (-1))) rfl in_X12 (by decide) wf_X12_458 rfl dX12_after_19 ?_
  refine z_callv b (z_runV (q0 := 0) (As := [.long 1649317774848]) (st := []) b (c_X12_takes (si (sl S 2 1649317774848) 24 (-1)) h_a_4_7 h_a_1_7 h_a_4_6 h_a_1_6 h_a_3_6 h_a_3_2 h_a_2_2 h_a_0_2 h_a_4_3 h_a_1_3 h_a_4_5 h_a_1_5 h_a_3_5 h_a_3_7 h_a_2_1 h_a_0_1 h_a_4_2 h_a_1_2 h_a_4_1 h_a_1_1 h_a_3_1 h_a_3_3 h_a_2_0 h_a_0_0 h_i_0) cf_X12_takes (mw_0 cy a (si (sl S 2 1649317774848) 24 (-1))) rfl wm_X12_174 wi_X12_takes ws_X12_takes dX12_after_22 rfl (Nat.le_of_ble_eq_true rfl) ⟨by decide, by decide, by decide, by decide⟩) (fun u20648 h20646 => ?_)
  obtain rfl := h20646
  refine z_iload_n b dX12_after_25 rfl rfl ?_
  refine z_calli b (z_runS (As := [.int 37]) (st := []) b (c_X12_isOne_42 (si (sl S 2 1649317774848) 24 (-1)) ) cf_X12_isOne wm_X12_170 ws_X12_isOne dX12_after_26 rfl (Nat.le_of_ble_eq_true rfl) ⟨by decide, by decide, by decide, by decide⟩) (fun r20650 u20651 h20649 => ?_)
  obtain ⟨rfl, rfl⟩ := h20649
  refine z_if_eq_t (tgt := 39) b dX12_after_29 (by decide) (by decide) ?_
  refine z_iload_n b dX12_after_39 rfl rfl ?_
  refine z_bipush (v := 50) b dX12_after_40 (by decide) ?_
  refine z_icmp_ne_t (tgt := 50) b dX12_after_42 (by decide) (by decide) ?_
  refine z_iload_n b dX12_after_50 rfl rfl ?_
  refine z_bipush (v := 40) b dX12_after_51 (by decide) ?_
  refine z_bipush (v := 42) b dX12_after_53 (by decide) ?_
  refine z_calli b (z_runS (As := [.int 37, .int 40, .int 42]) (st := []) b (c_X12_isIn_171 (si (sl S 2 1649317774848) 24 (-1)) ) cf_X12_isIn wm_X12_1 ws_X12_isIn dX12_after_55 rfl (Nat.le_of_ble_eq_true rfl) ⟨by decide, by decide, by decide, by decide⟩) (fun r20653 u20654 h20652 => ?_)
  obtain ⟨rfl, rfl⟩ := h20652
  refine z_if_eq_t (tgt := 71) b dX12_after_58 (by decide) (by decide) ?_
  refine z_iload_n b dX12_after_71 rfl rfl ?_
  refine z_bipush (v := 10) b dX12_after_72 (by decide) ?_
  refine z_irem (v := 7) b dX12_after_74 (by decide) (by decide) ?_
  refine z_istore_n (lv' := [(3, .int 7), (0, .ref (a 0)), (1, .int 4), (2, .int 37)]) b dX12_after_75 rfl (by decide) rfl ?_
  refine z_iload_n b dX12_after_76 rfl rfl ?_
  refine z_bipush (v := 10) b dX12_after_77 (by decide) ?_
  refine z_bipush (v := 38) b dX12_after_79 (by decide) ?_
  refine z_calli b (z_runS (As := [.int 37, .int 10, .int 38]) (st := []) b (c_X12_isIn_172 (si (sl S 2 1649317774848) 24 (-1)) ) cf_X12_isIn wm_X12_1 ws_X12_isIn dX12_after_81 rfl (Nat.le_of_ble_eq_true rfl) ⟨by decide, by decide, by decide, by decide⟩) (fun r20656 u20657 h20655 => ?_)
  obtain ⟨rfl, rfl⟩ := h20655
  refine z_if_eq_f (tgt := 102) b dX12_after_84 (by decide) (by decide) ?_
  refine z_iload_n b dX12_after_87 rfl rfl ?_
  refine z_bipush (v := 9) b dX12_after_88 (by decide) ?_
  refine z_icmp_eq_f (tgt := 102) b dX12_after_90 (by decide) (by decide) ?_
  refine z_iload_n b dX12_after_93 rfl rfl ?_
  refine z_iconst (v := 3) b dX12_after_94 (by decide) ?_
  refine z_idiv (v := 2) b dX12_after_95 (by decide) (by decide) ?_
  refine z_iload_n b dX12_after_96 rfl rfl ?_
  refine z_iconst (v := 3) b dX12_after_97 (by decide) ?_
  refine z_irem (v := 1) b dX12_after_98 (by decide) (by decide) ?_
  refine z_icmp_ne_t (tgt := 104) b dX12_after_99 (by decide) (by decide) ?_
  refine z_iload_n b dX12_after_104 rfl rfl ?_
  refine z_bipush (v := 20) b dX12_after_105 (by decide) ?_
  refine z_icmp_ge_t (tgt := 119) b dX12_after_107 (by decide) (by decide) ?_
  refine z_iload_n b dX12_after_119 rfl rfl ?_
  refine z_bipush (v := 30) b dX12_after_120 (by decide) ?_
  refine z_icmp_ge_t (tgt := 137) b dX12_after_122 (by decide) (by decide) ?_
  refine z_aload_n b dX12_after_137 rfl rfl ?_
  refine z_get (q0 := 0) (k9 := 4) (v := .ref (a 5)) b (mw_0 cy a (si (sl S 2 1649317774848) 24 (-1))) rfl in_X12 (by decide) wf_X12_27 rfl dX12_after_138 ?_
  refine z_iload_n b dX12_after_141 rfl rfl ?_
  refine y_zald (q0 := 5) (j := 7) (v := (ar (si (sl S 2 1649317774848) 24 (-1)) 4 7)) b (mw_5 cy a (si (sl S 2 1649317774848) 24 (-1))) (by decide) rfl dX12_after_142 ?_
  refine z_eqi h_a_4_7 ?_
  refine z_if_eq_t (tgt := 150) b dX12_after_143 (by decide) (by decide) ?_
  refine z_iconst (v := 0) b dX12_after_150 (by decide) ?_
  exact z_iret (u := (si (sl S 2 1649317774848) 24 (-1))) b rfl dX12_after_151 ⟨rfl, rfl⟩ rfl (by decide) (by decide)

set_option maxHeartbeats 4000000 in
set_option maxRecDepth 100000 in
theorem c_X11_after_259 {l : Launch} {D : va_G} {cy : Nat → ClassId} {T0 tB tE : Nat} {a : Nat → Nat} {rw : Nat → Option Nat} (S : GS)   : Ct l D cy T0 tB tE yX11_after cX11_after 3 (some .int) 3 62 0 0 (cw cy tE a rw S) [.ref (a 0), .int 4, .int 38] (QI D (U := GS) (fun r u => (-1) = r ∧ S = u) (cw cy tE a rw)) := by
  refine Ct.ofZ RX11 "after" [(0, .ref (a 0)), (1, .int 4), (2, .int 38)] rfl rfl rfl rfl (Nat.le_of_ble_eq_true rfl) ?_
  intro p e R s m args below meth c A b
  refine z_iload_n b dX11_after_0 rfl rfl ?_
  refine z_calli b (z_runS (As := [.int 4]) (st := []) b (c_X11_isRow_7 S ) cf_X11_isRow wm_X11_169 ws_X11_isRow dX11_after_1 rfl (Nat.le_of_ble_eq_true rfl) ⟨by decide, by decide, by decide, by decide⟩) (fun r20659 u20660 h20658 => ?_)
  obtain ⟨rfl, rfl⟩ := h20658
  refine z_if_eq_f (tgt := 14) b dX11_after_4 (by decide) (by decide) ?_
  refine z_iload_n b dX11_after_7 rfl rfl ?_
  refine z_calli b (z_runS (As := [.int 38]) (st := []) b (c_X9_has_41 S ) cf_X9_has wm_X11_191 ws_X9_has dX11_after_8 rfl (Nat.le_of_ble_eq_true rfl) ⟨by decide, by decide, by decide, by decide⟩) (fun r20662 u20663 h20661 => ?_)
  obtain ⟨rfl, rfl⟩ := h20661
  refine z_if_ne_f (tgt := 16) b dX11_after_11 (by decide) (by decide) ?_
  refine z_iconst (v := (-1)) b dX11_after_14 (by decide) ?_
  exact z_iret (u := S) b rfl dX11_after_15 ⟨rfl, rfl⟩ rfl (by decide) (by decide)

set_option maxHeartbeats 4000000 in
set_option maxRecDepth 100000 in
theorem c_X12_after_259 {l : Launch} {D : va_G} {cy : Nat → ClassId} {T0 tB tE : Nat} {a : Nat → Nat} (S : GS)  (h_l_0 : fl S 0 = 1649317774848) (h_a_38_4 : ar S 38 4 = 0) (h_a_4_7 : ar S 4 7 = 0) (h_a_1_7 : ar S 1 7 = 0) (h_a_4_6 : ar S 4 6 = 0) (h_a_1_6 : ar S 1 6 = 0) (h_a_3_6 : ar S 3 6 = 0) (h_a_3_2 : ar S 3 2 = 0) (h_a_2_2 : ar S 2 2 = 3) (h_a_0_2 : ar S 0 2 = 0) (h_a_4_3 : ar S 4 3 = 0) (h_a_1_3 : ar S 1 3 = 0) (h_a_4_5 : ar S 4 5 = 0) (h_a_1_5 : ar S 1 5 = 0) (h_a_3_5 : ar S 3 5 = 0) (h_a_3_7 : ar S 3 7 = 0) (h_a_2_1 : ar S 2 1 = 3) (h_a_0_1 : ar S 0 1 = 0) (h_a_4_2 : ar S 4 2 = 0) (h_a_1_2 : ar S 1 2 = 0) (h_a_4_1 : ar S 4 1 = 0) (h_a_1_1 : ar S 1 1 = 0) (h_a_3_1 : ar S 3 1 = 0) (h_a_3_3 : ar S 3 3 = 0) (h_a_2_0 : ar S 2 0 = 3) (h_a_0_0 : ar S 0 0 = 0) (h_i_0 : fi S 0 = 0) : Ct l D cy T0 tB tE yX12_after cX12_after 4 (some .int) 2 47 0 0 (mw cy a S) [.ref (a 0), .int 4, .int 38] (QI D (U := GS) (fun r u => (-1) = r ∧ (si (sl S 2 1649317774848) 24 (-1)) = u) (mw cy a)) := by
  refine Ct.ofZ RX12 "after" [(0, .ref (a 0)), (1, .int 4), (2, .int 38)] rfl rfl rfl rfl (Nat.le_of_ble_eq_true rfl) ?_
  intro p e R s m args below meth c A b
  refine z_iload_n b dX12_after_0 rfl rfl ?_
  refine z_calli b (z_runS (As := [.int 4]) (st := []) b (c_X12_isRow_7 S ) cf_X12_isRow wm_X12_452 ws_X12_isRow dX12_after_1 rfl (Nat.le_of_ble_eq_true rfl) ⟨by decide, by decide, by decide, by decide⟩) (fun r20665 u20666 h20664 => ?_)
  obtain ⟨rfl, rfl⟩ := h20664
  refine z_if_ne_t (tgt := 9) b dX12_after_4 (by decide) (by decide) ?_
  refine z_aload_n b dX12_after_9 rfl rfl ?_
  refine z_iload_n b dX12_after_10 rfl rfl ?_
  refine z_iconst (v := 3) b dX12_after_11 (by decide) ?_
  refine z_iconst (v := 0) b dX12_after_12 (by decide) ?_
  refine z_calli b (z_runV (q0 := 0) (As := [.int 4, .int 3, .int 0]) (st := []) b (c_X12_goes_11 S h_l_0 h_a_38_4) cf_X12_goes (mw_0 cy a S) rfl wm_X12_464 wi_X12_goes ws_X12_goes dX12_after_13 rfl (Nat.le_of_ble_eq_true rfl) ⟨by decide, by decide, by decide, by decide⟩) (fun r20668 u20669 h20667 => ?_)
  obtain ⟨rfl, rfl⟩ := h20667
  refine z_pop b dX12_after_16 rfl ?_
  refine z_aload_n b dX12_after_17 rfl rfl ?_
  refine z_aload_n b dX12_after_18 rfl rfl ?_
  refine z_get (q0 := 0) (k9 := 68) (v := .long 1649317774848) b (mw_0 cy a (si (sl S 2 1649317774848) 24 (-1))) rfl in_X12 (by decide) wf_X12_458 rfl dX12_after_19 ?_
  refine z_callv b (z_runV (q0 := 0) (As := [.long 1649317774848]) (st := []) b (c_X12_takes (si (sl S 2 1649317774848) 24 (-1)) h_a_4_7 h_a_1_7 h_a_4_6 h_a_1_6 h_a_3_6 h_a_3_2 h_a_2_2 h_a_0_2 h_a_4_3 h_a_1_3 h_a_4_5 h_a_1_5 h_a_3_5 h_a_3_7 h_a_2_1 h_a_0_1 h_a_4_2 h_a_1_2 h_a_4_1 h_a_1_1 h_a_3_1 h_a_3_3 h_a_2_0 h_a_0_0 h_i_0) cf_X12_takes (mw_0 cy a (si (sl S 2 1649317774848) 24 (-1))) rfl wm_X12_174 wi_X12_takes ws_X12_takes dX12_after_22 rfl (Nat.le_of_ble_eq_true rfl) ⟨by decide, by decide, by decide, by decide⟩) (fun u20672 h20670 => ?_)
  obtain rfl := h20670
  refine z_iload_n b dX12_after_25 rfl rfl ?_
  refine z_calli b (z_runS (As := [.int 38]) (st := []) b (c_X12_isOne_43 (si (sl S 2 1649317774848) 24 (-1)) ) cf_X12_isOne wm_X12_170 ws_X12_isOne dX12_after_26 rfl (Nat.le_of_ble_eq_true rfl) ⟨by decide, by decide, by decide, by decide⟩) (fun r20674 u20675 h20673 => ?_)
  obtain ⟨rfl, rfl⟩ := h20673
  refine z_if_eq_t (tgt := 39) b dX12_after_29 (by decide) (by decide) ?_
  refine z_iload_n b dX12_after_39 rfl rfl ?_
  refine z_bipush (v := 50) b dX12_after_40 (by decide) ?_
  refine z_icmp_ne_t (tgt := 50) b dX12_after_42 (by decide) (by decide) ?_
  refine z_iload_n b dX12_after_50 rfl rfl ?_
  refine z_bipush (v := 40) b dX12_after_51 (by decide) ?_
  refine z_bipush (v := 42) b dX12_after_53 (by decide) ?_
  refine z_calli b (z_runS (As := [.int 38, .int 40, .int 42]) (st := []) b (c_X12_isIn_174 (si (sl S 2 1649317774848) 24 (-1)) ) cf_X12_isIn wm_X12_1 ws_X12_isIn dX12_after_55 rfl (Nat.le_of_ble_eq_true rfl) ⟨by decide, by decide, by decide, by decide⟩) (fun r20677 u20678 h20676 => ?_)
  obtain ⟨rfl, rfl⟩ := h20676
  refine z_if_eq_t (tgt := 71) b dX12_after_58 (by decide) (by decide) ?_
  refine z_iload_n b dX12_after_71 rfl rfl ?_
  refine z_bipush (v := 10) b dX12_after_72 (by decide) ?_
  refine z_irem (v := 8) b dX12_after_74 (by decide) (by decide) ?_
  refine z_istore_n (lv' := [(3, .int 8), (0, .ref (a 0)), (1, .int 4), (2, .int 38)]) b dX12_after_75 rfl (by decide) rfl ?_
  refine z_iload_n b dX12_after_76 rfl rfl ?_
  refine z_bipush (v := 10) b dX12_after_77 (by decide) ?_
  refine z_bipush (v := 38) b dX12_after_79 (by decide) ?_
  refine z_calli b (z_runS (As := [.int 38, .int 10, .int 38]) (st := []) b (c_X12_isIn_175 (si (sl S 2 1649317774848) 24 (-1)) ) cf_X12_isIn wm_X12_1 ws_X12_isIn dX12_after_81 rfl (Nat.le_of_ble_eq_true rfl) ⟨by decide, by decide, by decide, by decide⟩) (fun r20680 u20681 h20679 => ?_)
  obtain ⟨rfl, rfl⟩ := h20679
  refine z_if_eq_f (tgt := 102) b dX12_after_84 (by decide) (by decide) ?_
  refine z_iload_n b dX12_after_87 rfl rfl ?_
  refine z_bipush (v := 9) b dX12_after_88 (by decide) ?_
  refine z_icmp_eq_f (tgt := 102) b dX12_after_90 (by decide) (by decide) ?_
  refine z_iload_n b dX12_after_93 rfl rfl ?_
  refine z_iconst (v := 3) b dX12_after_94 (by decide) ?_
  refine z_idiv (v := 2) b dX12_after_95 (by decide) (by decide) ?_
  refine z_iload_n b dX12_after_96 rfl rfl ?_
  refine z_iconst (v := 3) b dX12_after_97 (by decide) ?_
  refine z_irem (v := 2) b dX12_after_98 (by decide) (by decide) ?_
  refine z_icmp_ne_f (tgt := 104) b dX12_after_99 (by decide) (by decide) ?_
  refine z_iconst (v := (-1)) b dX12_after_102 (by decide) ?_
  exact z_iret (u := (si (sl S 2 1649317774848) 24 (-1))) b rfl dX12_after_103 ⟨rfl, rfl⟩ rfl (by decide) (by decide)

set_option maxHeartbeats 4000000 in
set_option maxRecDepth 100000 in
theorem c_X11_after_260 {l : Launch} {D : va_G} {cy : Nat → ClassId} {T0 tB tE : Nat} {a : Nat → Nat} {rw : Nat → Option Nat} (S : GS)   : Ct l D cy T0 tB tE yX11_after cX11_after 3 (some .int) 3 62 0 0 (cw cy tE a rw S) [.ref (a 0), .int 4, .int 39] (QI D (U := GS) (fun r u => (-1) = r ∧ S = u) (cw cy tE a rw)) := by
  refine Ct.ofZ RX11 "after" [(0, .ref (a 0)), (1, .int 4), (2, .int 39)] rfl rfl rfl rfl (Nat.le_of_ble_eq_true rfl) ?_
  intro p e R s m args below meth c A b
  refine z_iload_n b dX11_after_0 rfl rfl ?_
  refine z_calli b (z_runS (As := [.int 4]) (st := []) b (c_X11_isRow_7 S ) cf_X11_isRow wm_X11_169 ws_X11_isRow dX11_after_1 rfl (Nat.le_of_ble_eq_true rfl) ⟨by decide, by decide, by decide, by decide⟩) (fun r20683 u20684 h20682 => ?_)
  obtain ⟨rfl, rfl⟩ := h20682
  refine z_if_eq_f (tgt := 14) b dX11_after_4 (by decide) (by decide) ?_
  refine z_iload_n b dX11_after_7 rfl rfl ?_
  refine z_calli b (z_runS (As := [.int 39]) (st := []) b (c_X9_has_42 S ) cf_X9_has wm_X11_191 ws_X9_has dX11_after_8 rfl (Nat.le_of_ble_eq_true rfl) ⟨by decide, by decide, by decide, by decide⟩) (fun r20686 u20687 h20685 => ?_)
  obtain ⟨rfl, rfl⟩ := h20685
  refine z_if_ne_f (tgt := 16) b dX11_after_11 (by decide) (by decide) ?_
  refine z_iconst (v := (-1)) b dX11_after_14 (by decide) ?_
  exact z_iret (u := S) b rfl dX11_after_15 ⟨rfl, rfl⟩ rfl (by decide) (by decide)

set_option maxHeartbeats 4000000 in
set_option maxRecDepth 100000 in
theorem c_X12_after_260 {l : Launch} {D : va_G} {cy : Nat → ClassId} {T0 tB tE : Nat} {a : Nat → Nat} (S : GS)  (h_l_0 : fl S 0 = 1649317774848) (h_a_38_4 : ar S 38 4 = 0) (h_a_4_7 : ar S 4 7 = 0) (h_a_1_7 : ar S 1 7 = 0) (h_a_4_6 : ar S 4 6 = 0) (h_a_1_6 : ar S 1 6 = 0) (h_a_3_6 : ar S 3 6 = 0) (h_a_3_2 : ar S 3 2 = 0) (h_a_2_2 : ar S 2 2 = 3) (h_a_0_2 : ar S 0 2 = 0) (h_a_4_3 : ar S 4 3 = 0) (h_a_1_3 : ar S 1 3 = 0) (h_a_4_5 : ar S 4 5 = 0) (h_a_1_5 : ar S 1 5 = 0) (h_a_3_5 : ar S 3 5 = 0) (h_a_3_7 : ar S 3 7 = 0) (h_a_2_1 : ar S 2 1 = 3) (h_a_0_1 : ar S 0 1 = 0) (h_a_4_2 : ar S 4 2 = 0) (h_a_1_2 : ar S 1 2 = 0) (h_a_4_1 : ar S 4 1 = 0) (h_a_1_1 : ar S 1 1 = 0) (h_a_3_1 : ar S 3 1 = 0) (h_a_3_3 : ar S 3 3 = 0) (h_a_2_0 : ar S 2 0 = 3) (h_a_0_0 : ar S 0 0 = 0) (h_i_0 : fi S 0 = 0) : Ct l D cy T0 tB tE yX12_after cX12_after 4 (some .int) 2 47 0 0 (mw cy a S) [.ref (a 0), .int 4, .int 39] (QI D (U := GS) (fun r u => (-1) = r ∧ (si (sl S 2 1649317774848) 24 (-1)) = u) (mw cy a)) := by
  refine Ct.ofZ RX12 "after" [(0, .ref (a 0)), (1, .int 4), (2, .int 39)] rfl rfl rfl rfl (Nat.le_of_ble_eq_true rfl) ?_
  intro p e R s m args below meth c A b
  refine z_iload_n b dX12_after_0 rfl rfl ?_
  refine z_calli b (z_runS (As := [.int 4]) (st := []) b (c_X12_isRow_7 S ) cf_X12_isRow wm_X12_452 ws_X12_isRow dX12_after_1 rfl (Nat.le_of_ble_eq_true rfl) ⟨by decide, by decide, by decide, by decide⟩) (fun r20689 u20690 h20688 => ?_)
  obtain ⟨rfl, rfl⟩ := h20688
  refine z_if_ne_t (tgt := 9) b dX12_after_4 (by decide) (by decide) ?_
  refine z_aload_n b dX12_after_9 rfl rfl ?_
  refine z_iload_n b dX12_after_10 rfl rfl ?_
  refine z_iconst (v := 3) b dX12_after_11 (by decide) ?_
  refine z_iconst (v := 0) b dX12_after_12 (by decide) ?_
  refine z_calli b (z_runV (q0 := 0) (As := [.int 4, .int 3, .int 0]) (st := []) b (c_X12_goes_11 S h_l_0 h_a_38_4) cf_X12_goes (mw_0 cy a S) rfl wm_X12_464 wi_X12_goes ws_X12_goes dX12_after_13 rfl (Nat.le_of_ble_eq_true rfl) ⟨by decide, by decide, by decide, by decide⟩) (fun r20692 u20693 h20691 => ?_)
  obtain ⟨rfl, rfl⟩ := h20691
  refine z_pop b dX12_after_16 rfl ?_
  refine z_aload_n b dX12_after_17 rfl rfl ?_
  refine z_aload_n b dX12_after_18 rfl rfl ?_
  refine z_get (q0 := 0) (k9 := 68) (v := .long 1649317774848) b (mw_0 cy a (si (sl S 2 1649317774848) 24 (-1))) rfl in_X12 (by decide) wf_X12_458 rfl dX12_after_19 ?_
  refine z_callv b (z_runV (q0 := 0) (As := [.long 1649317774848]) (st := []) b (c_X12_takes (si (sl S 2 1649317774848) 24 (-1)) h_a_4_7 h_a_1_7 h_a_4_6 h_a_1_6 h_a_3_6 h_a_3_2 h_a_2_2 h_a_0_2 h_a_4_3 h_a_1_3 h_a_4_5 h_a_1_5 h_a_3_5 h_a_3_7 h_a_2_1 h_a_0_1 h_a_4_2 h_a_1_2 h_a_4_1 h_a_1_1 h_a_3_1 h_a_3_3 h_a_2_0 h_a_0_0 h_i_0) cf_X12_takes (mw_0 cy a (si (sl S 2 1649317774848) 24 (-1))) rfl wm_X12_174 wi_X12_takes ws_X12_takes dX12_after_22 rfl (Nat.le_of_ble_eq_true rfl) ⟨by decide, by decide, by decide, by decide⟩) (fun u20696 h20694 => ?_)
  obtain rfl := h20694
  refine z_iload_n b dX12_after_25 rfl rfl ?_
  refine z_calli b (z_runS (As := [.int 39]) (st := []) b (c_X12_isOne_44 (si (sl S 2 1649317774848) 24 (-1)) ) cf_X12_isOne wm_X12_170 ws_X12_isOne dX12_after_26 rfl (Nat.le_of_ble_eq_true rfl) ⟨by decide, by decide, by decide, by decide⟩) (fun r20698 u20699 h20697 => ?_)
  obtain ⟨rfl, rfl⟩ := h20697
  refine z_if_eq_t (tgt := 39) b dX12_after_29 (by decide) (by decide) ?_
  refine z_iload_n b dX12_after_39 rfl rfl ?_
  refine z_bipush (v := 50) b dX12_after_40 (by decide) ?_
  refine z_icmp_ne_t (tgt := 50) b dX12_after_42 (by decide) (by decide) ?_
  refine z_iload_n b dX12_after_50 rfl rfl ?_
  refine z_bipush (v := 40) b dX12_after_51 (by decide) ?_
  refine z_bipush (v := 42) b dX12_after_53 (by decide) ?_
  refine z_calli b (z_runS (As := [.int 39, .int 40, .int 42]) (st := []) b (c_X12_isIn_177 (si (sl S 2 1649317774848) 24 (-1)) ) cf_X12_isIn wm_X12_1 ws_X12_isIn dX12_after_55 rfl (Nat.le_of_ble_eq_true rfl) ⟨by decide, by decide, by decide, by decide⟩) (fun r20701 u20702 h20700 => ?_)
  obtain ⟨rfl, rfl⟩ := h20700
  refine z_if_eq_t (tgt := 71) b dX12_after_58 (by decide) (by decide) ?_
  refine z_iload_n b dX12_after_71 rfl rfl ?_
  refine z_bipush (v := 10) b dX12_after_72 (by decide) ?_
  refine z_irem (v := 9) b dX12_after_74 (by decide) (by decide) ?_
  refine z_istore_n (lv' := [(3, .int 9), (0, .ref (a 0)), (1, .int 4), (2, .int 39)]) b dX12_after_75 rfl (by decide) rfl ?_
  refine z_iload_n b dX12_after_76 rfl rfl ?_
  refine z_bipush (v := 10) b dX12_after_77 (by decide) ?_
  refine z_bipush (v := 38) b dX12_after_79 (by decide) ?_
  refine z_calli b (z_runS (As := [.int 39, .int 10, .int 38]) (st := []) b (c_X12_isIn_178 (si (sl S 2 1649317774848) 24 (-1)) ) cf_X12_isIn wm_X12_1 ws_X12_isIn dX12_after_81 rfl (Nat.le_of_ble_eq_true rfl) ⟨by decide, by decide, by decide, by decide⟩) (fun r20704 u20705 h20703 => ?_)
  obtain ⟨rfl, rfl⟩ := h20703
  refine z_if_eq_t (tgt := 102) b dX12_after_84 (by decide) (by decide) ?_
  refine z_iconst (v := (-1)) b dX12_after_102 (by decide) ?_
  exact z_iret (u := (si (sl S 2 1649317774848) 24 (-1))) b rfl dX12_after_103 ⟨rfl, rfl⟩ rfl (by decide) (by decide)

set_option maxHeartbeats 4000000 in
set_option maxRecDepth 100000 in
theorem c_X11_after_261 {l : Launch} {D : va_G} {cy : Nat → ClassId} {T0 tB tE : Nat} {a : Nat → Nat} {rw : Nat → Option Nat} (S : GS)  (h_i_14 : fi S 14 = (-1)) (h_i_35 : fi S 35 = 0) (h_a_4_40 : ar S 4 40 = 3) (hrw : ∀ i, i < 6 → rw i = some (a (36 + 2 * i))) : Ct l D cy T0 tB tE yX11_after cX11_after 3 (some .int) 3 86 0 0 (cw cy tE a rw S) [.ref (a 0), .int 4, .int 40] (QI D (U := GS) (fun r u => 3 = r ∧ (sa S 8 (va_cpy (ar S 4) (ar S 8) 0 0 51)) = u) (cw cy tE a rw)) := by
  refine Ct.ofZ RX11 "after" [(0, .ref (a 0)), (1, .int 4), (2, .int 40)] rfl rfl rfl rfl (Nat.le_of_ble_eq_true rfl) ?_
  intro p e R s m args below meth c A b
  refine z_iload_n b dX11_after_0 rfl rfl ?_
  refine z_calli b (z_runS (As := [.int 4]) (st := []) b (c_X11_isRow_7 S ) cf_X11_isRow wm_X11_169 ws_X11_isRow dX11_after_1 rfl (Nat.le_of_ble_eq_true rfl) ⟨by decide, by decide, by decide, by decide⟩) (fun r20707 u20708 h20706 => ?_)
  obtain ⟨rfl, rfl⟩ := h20706
  refine z_if_eq_f (tgt := 14) b dX11_after_4 (by decide) (by decide) ?_
  refine z_iload_n b dX11_after_7 rfl rfl ?_
  refine z_calli b (z_runS (As := [.int 40]) (st := []) b (c_X9_has_43 S ) cf_X9_has wm_X11_191 ws_X9_has dX11_after_8 rfl (Nat.le_of_ble_eq_true rfl) ⟨by decide, by decide, by decide, by decide⟩) (fun r20710 u20711 h20709 => ?_)
  obtain ⟨rfl, rfl⟩ := h20709
  refine z_if_ne_t (tgt := 16) b dX11_after_11 (by decide) (by decide) ?_
  refine z_aload_n b dX11_after_16 rfl rfl ?_
  refine z_get (q0 := 0) (k9 := 5) (v := .ref (a 16)) b (cw_0 cy tE a rw S) rfl in_X11 (by decide) wf_X11_43 rfl dX11_after_17 ?_
  refine z_aload_n b dX11_after_20 rfl rfl ?_
  refine z_get (q0 := 0) (k9 := 7) (v := .ref (a 35)) b (cw_0 cy tE a rw S) rfl in_X11 (by decide) wf_X11_58 rfl dX11_after_21 ?_
  refine z_iload_n b dX11_after_24 rfl rfl ?_
  refine y_aald (q0 := 35) (t0 := 4) (j := 4) (v := .ref (a 44)) b (cw_35 cy tE a rw S) rfl (by decide) (by rw [hrw 4 (by decide)]; rfl) dX11_after_25 ?_
  refine z_aload_n b dX11_after_26 rfl rfl ?_
  refine z_get (q0 := 0) (k9 := 4) (v := .ref (a 14)) b (cw_0 cy tE a rw S) rfl in_X11 (by decide) wf_X11_34 rfl dX11_after_27 ?_
  refine z_iconst (v := 3) b dX11_after_30 (by decide) ?_
  refine z_iconst (v := 0) b dX11_after_31 (by decide) ?_
  refine z_calli b (z_runV (q0 := 16) (As := [.ref (a 44), .ref (a 14), .int 3, .int 0]) (st := []) b (c_X2_follow_11 S h_i_14 h_i_35) cf_X2_follow (cw_16 cy tE a rw S) rfl wm_X11_184 wi_X2_follow ws_X2_follow dX11_after_32 rfl (Nat.le_of_ble_eq_true rfl) ⟨by decide, by decide, by decide, by decide⟩) (fun r20713 u20714 h20712 => ?_)
  obtain ⟨rfl, rfl⟩ := h20712
  refine z_pop b dX11_after_35 rfl ?_
  refine z_aload_n b dX11_after_36 rfl rfl ?_
  refine z_get (q0 := 0) (k9 := 5) (v := .ref (a 16)) b (cw_0 cy tE a rw (sa S 8 (va_cpy (ar S 4) (ar S 8) 0 0 51))) rfl in_X11 (by decide) wf_X11_43 rfl dX11_after_37 ?_
  refine z_get (q0 := 16) (k9 := 3) (v := .ref (a 23)) b (cw_16 cy tE a rw (sa S 8 (va_cpy (ar S 4) (ar S 8) 0 0 51))) rfl in_X2 (by decide) wf_X11_194 rfl dX11_after_40 ?_
  refine z_iload_n b dX11_after_43 rfl rfl ?_
  refine z_calli b (z_runV (q0 := 23) (As := [.int 40]) (st := []) b (c_X9_get_31 (sa S 8 (va_cpy (ar S 4) (ar S 8) 0 0 51)) h_a_4_40) cf_X9_get (cw_23 cy tE a rw (sa S 8 (va_cpy (ar S 4) (ar S 8) 0 0 51))) rfl wm_X11_197 wi_X9_get ws_X9_get dX11_after_44 rfl (Nat.le_of_ble_eq_true rfl) ⟨by decide, by decide, by decide, by decide⟩) (fun r20716 u20717 h20715 => ?_)
  obtain ⟨rfl, rfl⟩ := h20715
  exact z_iret (u := (sa S 8 (va_cpy (ar S 4) (ar S 8) 0 0 51))) b rfl dX11_after_47 ⟨rfl, rfl⟩ rfl (by decide) (by decide)

set_option maxHeartbeats 4000000 in
set_option maxRecDepth 100000 in
theorem c_X12_after_261 {l : Launch} {D : va_G} {cy : Nat → ClassId} {T0 tB tE : Nat} {a : Nat → Nat} (S : GS)  (h_l_0 : fl S 0 = 1649317774848) (h_a_38_4 : ar S 38 4 = 0) (h_a_4_7 : ar S 4 7 = 0) (h_a_1_7 : ar S 1 7 = 0) (h_a_4_6 : ar S 4 6 = 0) (h_a_1_6 : ar S 1 6 = 0) (h_a_3_6 : ar S 3 6 = 0) (h_a_3_2 : ar S 3 2 = 0) (h_a_2_2 : ar S 2 2 = 3) (h_a_0_2 : ar S 0 2 = 0) (h_a_4_3 : ar S 4 3 = 0) (h_a_1_3 : ar S 1 3 = 0) (h_a_4_5 : ar S 4 5 = 0) (h_a_1_5 : ar S 1 5 = 0) (h_a_3_5 : ar S 3 5 = 0) (h_a_3_7 : ar S 3 7 = 0) (h_a_2_1 : ar S 2 1 = 3) (h_a_0_1 : ar S 0 1 = 0) (h_a_4_2 : ar S 4 2 = 0) (h_a_1_2 : ar S 1 2 = 0) (h_a_4_1 : ar S 4 1 = 0) (h_a_1_1 : ar S 1 1 = 0) (h_a_3_1 : ar S 3 1 = 0) (h_a_3_3 : ar S 3 3 = 0) (h_a_2_0 : ar S 2 0 = 3) (h_a_0_0 : ar S 0 0 = 0) (h_i_0 : fi S 0 = 0) : Ct l D cy T0 tB tE yX12_after cX12_after 4 (some .int) 2 47 0 0 (mw cy a S) [.ref (a 0), .int 4, .int 40] (QI D (U := GS) (fun r u => 3 = r ∧ (si (sl S 2 1649317774848) 24 (-1)) = u) (mw cy a)) := by
  refine Ct.ofZ RX12 "after" [(0, .ref (a 0)), (1, .int 4), (2, .int 40)] rfl rfl rfl rfl (Nat.le_of_ble_eq_true rfl) ?_
  intro p e R s m args below meth c A b
  refine z_iload_n b dX12_after_0 rfl rfl ?_
  refine z_calli b (z_runS (As := [.int 4]) (st := []) b (c_X12_isRow_7 S ) cf_X12_isRow wm_X12_452 ws_X12_isRow dX12_after_1 rfl (Nat.le_of_ble_eq_true rfl) ⟨by decide, by decide, by decide, by decide⟩) (fun r20719 u20720 h20718 => ?_)
  obtain ⟨rfl, rfl⟩ := h20718
  refine z_if_ne_t (tgt := 9) b dX12_after_4 (by decide) (by decide) ?_
  refine z_aload_n b dX12_after_9 rfl rfl ?_
  refine z_iload_n b dX12_after_10 rfl rfl ?_
  refine z_iconst (v := 3) b dX12_after_11 (by decide) ?_
  refine z_iconst (v := 0) b dX12_after_12 (by decide) ?_
  refine z_calli b (z_runV (q0 := 0) (As := [.int 4, .int 3, .int 0]) (st := []) b (c_X12_goes_11 S h_l_0 h_a_38_4) cf_X12_goes (mw_0 cy a S) rfl wm_X12_464 wi_X12_goes ws_X12_goes dX12_after_13 rfl (Nat.le_of_ble_eq_true rfl) ⟨by decide, by decide, by decide, by decide⟩) (fun r20722 u20723 h20721 => ?_)
  obtain ⟨rfl, rfl⟩ := h20721
  refine z_pop b dX12_after_16 rfl ?_
  refine z_aload_n b dX12_after_17 rfl rfl ?_
  refine z_aload_n b dX12_after_18 rfl rfl ?_
  refine z_get (q0 := 0) (k9 := 68) (v := .long 1649317774848) b (mw_0 cy a (si (sl S 2 1649317774848) 24 (-1))) rfl in_X12 (by decide) wf_X12_458 rfl dX12_after_19 ?_
  refine z_callv b (z_runV (q0 := 0) (As := [.long 1649317774848]) (st := []) b (c_X12_takes (si (sl S 2 1649317774848) 24 (-1)) h_a_4_7 h_a_1_7 h_a_4_6 h_a_1_6 h_a_3_6 h_a_3_2 h_a_2_2 h_a_0_2 h_a_4_3 h_a_1_3 h_a_4_5 h_a_1_5 h_a_3_5 h_a_3_7 h_a_2_1 h_a_0_1 h_a_4_2 h_a_1_2 h_a_4_1 h_a_1_1 h_a_3_1 h_a_3_3 h_a_2_0 h_a_0_0 h_i_0) cf_X12_takes (mw_0 cy a (si (sl S 2 1649317774848) 24 (-1))) rfl wm_X12_174 wi_X12_takes ws_X12_takes dX12_after_22 rfl (Nat.le_of_ble_eq_true rfl) ⟨by decide, by decide, by decide, by decide⟩) (fun u20726 h20724 => ?_)
  obtain rfl := h20724
  refine z_iload_n b dX12_after_25 rfl rfl ?_
  refine z_calli b (z_runS (As := [.int 40]) (st := []) b (c_X12_isOne_45 (si (sl S 2 1649317774848) 24 (-1)) ) cf_X12_isOne wm_X12_170 ws_X12_isOne dX12_after_26 rfl (Nat.le_of_ble_eq_true rfl) ⟨by decide, by decide, by decide, by decide⟩) (fun r20728 u20729 h20727 => ?_)
  obtain ⟨rfl, rfl⟩ := h20727
  refine z_if_eq_t (tgt := 39) b dX12_after_29 (by decide) (by decide) ?_
  refine z_iload_n b dX12_after_39 rfl rfl ?_
  refine z_bipush (v := 50) b dX12_after_40 (by decide) ?_
  refine z_icmp_ne_t (tgt := 50) b dX12_after_42 (by decide) (by decide) ?_
  refine z_iload_n b dX12_after_50 rfl rfl ?_
  refine z_bipush (v := 40) b dX12_after_51 (by decide) ?_
  refine z_bipush (v := 42) b dX12_after_53 (by decide) ?_
  refine z_calli b (z_runS (As := [.int 40, .int 40, .int 42]) (st := []) b (c_X12_isIn_180 (si (sl S 2 1649317774848) 24 (-1)) ) cf_X12_isIn wm_X12_1 ws_X12_isIn dX12_after_55 rfl (Nat.le_of_ble_eq_true rfl) ⟨by decide, by decide, by decide, by decide⟩) (fun r20731 u20732 h20730 => ?_)
  obtain ⟨rfl, rfl⟩ := h20730
  refine z_if_eq_f (tgt := 71) b dX12_after_58 (by decide) (by decide) ?_
  refine z_aload_n b dX12_after_61 rfl rfl ?_
  refine z_get (q0 := 0) (k9 := 2) (v := .ref (a 3)) b (mw_0 cy a (si (sl S 2 1649317774848) 24 (-1))) rfl in_X12 (by decide) wf_X12_20 rfl dX12_after_62 ?_
  refine z_iload_n b dX12_after_65 rfl rfl ?_
  refine z_bipush (v := 40) b dX12_after_66 (by decide) ?_
  refine z_isub (v := 0) b dX12_after_68 (by decide) ?_
  refine y_iald (q0 := 3) (j := 0) (v := (ar (si (sl S 2 1649317774848) 24 (-1)) 2 0)) b (mw_3 cy a (si (sl S 2 1649317774848) 24 (-1))) (by decide) rfl dX12_after_69 ?_
  refine z_eqi h_a_2_0 ?_
  exact z_iret (u := (si (sl S 2 1649317774848) 24 (-1))) b rfl dX12_after_70 ⟨rfl, rfl⟩ rfl (by decide) (by decide)

set_option maxHeartbeats 4000000 in
set_option maxRecDepth 100000 in
theorem c_X11_after_262 {l : Launch} {D : va_G} {cy : Nat → ClassId} {T0 tB tE : Nat} {a : Nat → Nat} {rw : Nat → Option Nat} (S : GS)  (h_i_14 : fi S 14 = (-1)) (h_i_35 : fi S 35 = 0) (h_a_4_41 : ar S 4 41 = 3) (hrw : ∀ i, i < 6 → rw i = some (a (36 + 2 * i))) : Ct l D cy T0 tB tE yX11_after cX11_after 3 (some .int) 3 86 0 0 (cw cy tE a rw S) [.ref (a 0), .int 4, .int 41] (QI D (U := GS) (fun r u => 3 = r ∧ (sa S 8 (va_cpy (ar S 4) (ar S 8) 0 0 51)) = u) (cw cy tE a rw)) := by
  refine Ct.ofZ RX11 "after" [(0, .ref (a 0)), (1, .int 4), (2, .int 41)] rfl rfl rfl rfl (Nat.le_of_ble_eq_true rfl) ?_
  intro p e R s m args below meth c A b
  refine z_iload_n b dX11_after_0 rfl rfl ?_
  refine z_calli b (z_runS (As := [.int 4]) (st := []) b (c_X11_isRow_7 S ) cf_X11_isRow wm_X11_169 ws_X11_isRow dX11_after_1 rfl (Nat.le_of_ble_eq_true rfl) ⟨by decide, by decide, by decide, by decide⟩) (fun r20734 u20735 h20733 => ?_)
  obtain ⟨rfl, rfl⟩ := h20733
  refine z_if_eq_f (tgt := 14) b dX11_after_4 (by decide) (by decide) ?_
  refine z_iload_n b dX11_after_7 rfl rfl ?_
  refine z_calli b (z_runS (As := [.int 41]) (st := []) b (c_X9_has_44 S ) cf_X9_has wm_X11_191 ws_X9_has dX11_after_8 rfl (Nat.le_of_ble_eq_true rfl) ⟨by decide, by decide, by decide, by decide⟩) (fun r20737 u20738 h20736 => ?_)
  obtain ⟨rfl, rfl⟩ := h20736
  refine z_if_ne_t (tgt := 16) b dX11_after_11 (by decide) (by decide) ?_
  refine z_aload_n b dX11_after_16 rfl rfl ?_
  refine z_get (q0 := 0) (k9 := 5) (v := .ref (a 16)) b (cw_0 cy tE a rw S) rfl in_X11 (by decide) wf_X11_43 rfl dX11_after_17 ?_
  refine z_aload_n b dX11_after_20 rfl rfl ?_
  refine z_get (q0 := 0) (k9 := 7) (v := .ref (a 35)) b (cw_0 cy tE a rw S) rfl in_X11 (by decide) wf_X11_58 rfl dX11_after_21 ?_
  refine z_iload_n b dX11_after_24 rfl rfl ?_
  refine y_aald (q0 := 35) (t0 := 4) (j := 4) (v := .ref (a 44)) b (cw_35 cy tE a rw S) rfl (by decide) (by rw [hrw 4 (by decide)]; rfl) dX11_after_25 ?_
  refine z_aload_n b dX11_after_26 rfl rfl ?_
  refine z_get (q0 := 0) (k9 := 4) (v := .ref (a 14)) b (cw_0 cy tE a rw S) rfl in_X11 (by decide) wf_X11_34 rfl dX11_after_27 ?_
  refine z_iconst (v := 3) b dX11_after_30 (by decide) ?_
  refine z_iconst (v := 0) b dX11_after_31 (by decide) ?_
  refine z_calli b (z_runV (q0 := 16) (As := [.ref (a 44), .ref (a 14), .int 3, .int 0]) (st := []) b (c_X2_follow_11 S h_i_14 h_i_35) cf_X2_follow (cw_16 cy tE a rw S) rfl wm_X11_184 wi_X2_follow ws_X2_follow dX11_after_32 rfl (Nat.le_of_ble_eq_true rfl) ⟨by decide, by decide, by decide, by decide⟩) (fun r20740 u20741 h20739 => ?_)
  obtain ⟨rfl, rfl⟩ := h20739
  refine z_pop b dX11_after_35 rfl ?_
  refine z_aload_n b dX11_after_36 rfl rfl ?_
  refine z_get (q0 := 0) (k9 := 5) (v := .ref (a 16)) b (cw_0 cy tE a rw (sa S 8 (va_cpy (ar S 4) (ar S 8) 0 0 51))) rfl in_X11 (by decide) wf_X11_43 rfl dX11_after_37 ?_
  refine z_get (q0 := 16) (k9 := 3) (v := .ref (a 23)) b (cw_16 cy tE a rw (sa S 8 (va_cpy (ar S 4) (ar S 8) 0 0 51))) rfl in_X2 (by decide) wf_X11_194 rfl dX11_after_40 ?_
  refine z_iload_n b dX11_after_43 rfl rfl ?_
  refine z_calli b (z_runV (q0 := 23) (As := [.int 41]) (st := []) b (c_X9_get_32 (sa S 8 (va_cpy (ar S 4) (ar S 8) 0 0 51)) h_a_4_41) cf_X9_get (cw_23 cy tE a rw (sa S 8 (va_cpy (ar S 4) (ar S 8) 0 0 51))) rfl wm_X11_197 wi_X9_get ws_X9_get dX11_after_44 rfl (Nat.le_of_ble_eq_true rfl) ⟨by decide, by decide, by decide, by decide⟩) (fun r20743 u20744 h20742 => ?_)
  obtain ⟨rfl, rfl⟩ := h20742
  exact z_iret (u := (sa S 8 (va_cpy (ar S 4) (ar S 8) 0 0 51))) b rfl dX11_after_47 ⟨rfl, rfl⟩ rfl (by decide) (by decide)

set_option maxHeartbeats 4000000 in
set_option maxRecDepth 100000 in
theorem c_X12_after_262 {l : Launch} {D : va_G} {cy : Nat → ClassId} {T0 tB tE : Nat} {a : Nat → Nat} (S : GS)  (h_l_0 : fl S 0 = 1649317774848) (h_a_38_4 : ar S 38 4 = 0) (h_a_4_7 : ar S 4 7 = 0) (h_a_1_7 : ar S 1 7 = 0) (h_a_4_6 : ar S 4 6 = 0) (h_a_1_6 : ar S 1 6 = 0) (h_a_3_6 : ar S 3 6 = 0) (h_a_3_2 : ar S 3 2 = 0) (h_a_2_2 : ar S 2 2 = 3) (h_a_0_2 : ar S 0 2 = 0) (h_a_4_3 : ar S 4 3 = 0) (h_a_1_3 : ar S 1 3 = 0) (h_a_4_5 : ar S 4 5 = 0) (h_a_1_5 : ar S 1 5 = 0) (h_a_3_5 : ar S 3 5 = 0) (h_a_3_7 : ar S 3 7 = 0) (h_a_2_1 : ar S 2 1 = 3) (h_a_0_1 : ar S 0 1 = 0) (h_a_4_2 : ar S 4 2 = 0) (h_a_1_2 : ar S 1 2 = 0) (h_a_4_1 : ar S 4 1 = 0) (h_a_1_1 : ar S 1 1 = 0) (h_a_3_1 : ar S 3 1 = 0) (h_a_3_3 : ar S 3 3 = 0) (h_a_2_0 : ar S 2 0 = 3) (h_a_0_0 : ar S 0 0 = 0) (h_i_0 : fi S 0 = 0) : Ct l D cy T0 tB tE yX12_after cX12_after 4 (some .int) 2 47 0 0 (mw cy a S) [.ref (a 0), .int 4, .int 41] (QI D (U := GS) (fun r u => 3 = r ∧ (si (sl S 2 1649317774848) 24 (-1)) = u) (mw cy a)) := by
  refine Ct.ofZ RX12 "after" [(0, .ref (a 0)), (1, .int 4), (2, .int 41)] rfl rfl rfl rfl (Nat.le_of_ble_eq_true rfl) ?_
  intro p e R s m args below meth c A b
  refine z_iload_n b dX12_after_0 rfl rfl ?_
  refine z_calli b (z_runS (As := [.int 4]) (st := []) b (c_X12_isRow_7 S ) cf_X12_isRow wm_X12_452 ws_X12_isRow dX12_after_1 rfl (Nat.le_of_ble_eq_true rfl) ⟨by decide, by decide, by decide, by decide⟩) (fun r20746 u20747 h20745 => ?_)
  obtain ⟨rfl, rfl⟩ := h20745
  refine z_if_ne_t (tgt := 9) b dX12_after_4 (by decide) (by decide) ?_
  refine z_aload_n b dX12_after_9 rfl rfl ?_
  refine z_iload_n b dX12_after_10 rfl rfl ?_
  refine z_iconst (v := 3) b dX12_after_11 (by decide) ?_
  refine z_iconst (v := 0) b dX12_after_12 (by decide) ?_
  refine z_calli b (z_runV (q0 := 0) (As := [.int 4, .int 3, .int 0]) (st := []) b (c_X12_goes_11 S h_l_0 h_a_38_4) cf_X12_goes (mw_0 cy a S) rfl wm_X12_464 wi_X12_goes ws_X12_goes dX12_after_13 rfl (Nat.le_of_ble_eq_true rfl) ⟨by decide, by decide, by decide, by decide⟩) (fun r20749 u20750 h20748 => ?_)
  obtain ⟨rfl, rfl⟩ := h20748
  refine z_pop b dX12_after_16 rfl ?_
  refine z_aload_n b dX12_after_17 rfl rfl ?_
  refine z_aload_n b dX12_after_18 rfl rfl ?_
  refine z_get (q0 := 0) (k9 := 68) (v := .long 1649317774848) b (mw_0 cy a (si (sl S 2 1649317774848) 24 (-1))) rfl in_X12 (by decide) wf_X12_458 rfl dX12_after_19 ?_
  refine z_callv b (z_runV (q0 := 0) (As := [.long 1649317774848]) (st := []) b (c_X12_takes (si (sl S 2 1649317774848) 24 (-1)) h_a_4_7 h_a_1_7 h_a_4_6 h_a_1_6 h_a_3_6 h_a_3_2 h_a_2_2 h_a_0_2 h_a_4_3 h_a_1_3 h_a_4_5 h_a_1_5 h_a_3_5 h_a_3_7 h_a_2_1 h_a_0_1 h_a_4_2 h_a_1_2 h_a_4_1 h_a_1_1 h_a_3_1 h_a_3_3 h_a_2_0 h_a_0_0 h_i_0) cf_X12_takes (mw_0 cy a (si (sl S 2 1649317774848) 24 (-1))) rfl wm_X12_174 wi_X12_takes ws_X12_takes dX12_after_22 rfl (Nat.le_of_ble_eq_true rfl) ⟨by decide, by decide, by decide, by decide⟩) (fun u20753 h20751 => ?_)
  obtain rfl := h20751
  refine z_iload_n b dX12_after_25 rfl rfl ?_
  refine z_calli b (z_runS (As := [.int 41]) (st := []) b (c_X12_isOne_46 (si (sl S 2 1649317774848) 24 (-1)) ) cf_X12_isOne wm_X12_170 ws_X12_isOne dX12_after_26 rfl (Nat.le_of_ble_eq_true rfl) ⟨by decide, by decide, by decide, by decide⟩) (fun r20755 u20756 h20754 => ?_)
  obtain ⟨rfl, rfl⟩ := h20754
  refine z_if_eq_t (tgt := 39) b dX12_after_29 (by decide) (by decide) ?_
  refine z_iload_n b dX12_after_39 rfl rfl ?_
  refine z_bipush (v := 50) b dX12_after_40 (by decide) ?_
  refine z_icmp_ne_t (tgt := 50) b dX12_after_42 (by decide) (by decide) ?_
  refine z_iload_n b dX12_after_50 rfl rfl ?_
  refine z_bipush (v := 40) b dX12_after_51 (by decide) ?_
  refine z_bipush (v := 42) b dX12_after_53 (by decide) ?_
  refine z_calli b (z_runS (As := [.int 41, .int 40, .int 42]) (st := []) b (c_X12_isIn_182 (si (sl S 2 1649317774848) 24 (-1)) ) cf_X12_isIn wm_X12_1 ws_X12_isIn dX12_after_55 rfl (Nat.le_of_ble_eq_true rfl) ⟨by decide, by decide, by decide, by decide⟩) (fun r20758 u20759 h20757 => ?_)
  obtain ⟨rfl, rfl⟩ := h20757
  refine z_if_eq_f (tgt := 71) b dX12_after_58 (by decide) (by decide) ?_
  refine z_aload_n b dX12_after_61 rfl rfl ?_
  refine z_get (q0 := 0) (k9 := 2) (v := .ref (a 3)) b (mw_0 cy a (si (sl S 2 1649317774848) 24 (-1))) rfl in_X12 (by decide) wf_X12_20 rfl dX12_after_62 ?_
  refine z_iload_n b dX12_after_65 rfl rfl ?_
  refine z_bipush (v := 40) b dX12_after_66 (by decide) ?_
  refine z_isub (v := 1) b dX12_after_68 (by decide) ?_
  refine y_iald (q0 := 3) (j := 1) (v := (ar (si (sl S 2 1649317774848) 24 (-1)) 2 1)) b (mw_3 cy a (si (sl S 2 1649317774848) 24 (-1))) (by decide) rfl dX12_after_69 ?_
  refine z_eqi h_a_2_1 ?_
  exact z_iret (u := (si (sl S 2 1649317774848) 24 (-1))) b rfl dX12_after_70 ⟨rfl, rfl⟩ rfl (by decide) (by decide)

set_option maxHeartbeats 4000000 in
set_option maxRecDepth 100000 in
theorem c_X11_after_263 {l : Launch} {D : va_G} {cy : Nat → ClassId} {T0 tB tE : Nat} {a : Nat → Nat} {rw : Nat → Option Nat} (S : GS)  (h_i_14 : fi S 14 = (-1)) (h_i_35 : fi S 35 = 0) (h_a_4_42 : ar S 4 42 = 3) (hrw : ∀ i, i < 6 → rw i = some (a (36 + 2 * i))) : Ct l D cy T0 tB tE yX11_after cX11_after 3 (some .int) 3 86 0 0 (cw cy tE a rw S) [.ref (a 0), .int 4, .int 42] (QI D (U := GS) (fun r u => 3 = r ∧ (sa S 8 (va_cpy (ar S 4) (ar S 8) 0 0 51)) = u) (cw cy tE a rw)) := by
  refine Ct.ofZ RX11 "after" [(0, .ref (a 0)), (1, .int 4), (2, .int 42)] rfl rfl rfl rfl (Nat.le_of_ble_eq_true rfl) ?_
  intro p e R s m args below meth c A b
  refine z_iload_n b dX11_after_0 rfl rfl ?_
  refine z_calli b (z_runS (As := [.int 4]) (st := []) b (c_X11_isRow_7 S ) cf_X11_isRow wm_X11_169 ws_X11_isRow dX11_after_1 rfl (Nat.le_of_ble_eq_true rfl) ⟨by decide, by decide, by decide, by decide⟩) (fun r20761 u20762 h20760 => ?_)
  obtain ⟨rfl, rfl⟩ := h20760
  refine z_if_eq_f (tgt := 14) b dX11_after_4 (by decide) (by decide) ?_
  refine z_iload_n b dX11_after_7 rfl rfl ?_
  refine z_calli b (z_runS (As := [.int 42]) (st := []) b (c_X9_has_45 S ) cf_X9_has wm_X11_191 ws_X9_has dX11_after_8 rfl (Nat.le_of_ble_eq_true rfl) ⟨by decide, by decide, by decide, by decide⟩) (fun r20764 u20765 h20763 => ?_)
  obtain ⟨rfl, rfl⟩ := h20763
  refine z_if_ne_t (tgt := 16) b dX11_after_11 (by decide) (by decide) ?_
  refine z_aload_n b dX11_after_16 rfl rfl ?_
  refine z_get (q0 := 0) (k9 := 5) (v := .ref (a 16)) b (cw_0 cy tE a rw S) rfl in_X11 (by decide) wf_X11_43 rfl dX11_after_17 ?_
  refine z_aload_n b dX11_after_20 rfl rfl ?_
  refine z_get (q0 := 0) (k9 := 7) (v := .ref (a 35)) b (cw_0 cy tE a rw S) rfl in_X11 (by decide) wf_X11_58 rfl dX11_after_21 ?_
  refine z_iload_n b dX11_after_24 rfl rfl ?_
  refine y_aald (q0 := 35) (t0 := 4) (j := 4) (v := .ref (a 44)) b (cw_35 cy tE a rw S) rfl (by decide) (by rw [hrw 4 (by decide)]; rfl) dX11_after_25 ?_
  refine z_aload_n b dX11_after_26 rfl rfl ?_
  refine z_get (q0 := 0) (k9 := 4) (v := .ref (a 14)) b (cw_0 cy tE a rw S) rfl in_X11 (by decide) wf_X11_34 rfl dX11_after_27 ?_
  refine z_iconst (v := 3) b dX11_after_30 (by decide) ?_
  refine z_iconst (v := 0) b dX11_after_31 (by decide) ?_
  refine z_calli b (z_runV (q0 := 16) (As := [.ref (a 44), .ref (a 14), .int 3, .int 0]) (st := []) b (c_X2_follow_11 S h_i_14 h_i_35) cf_X2_follow (cw_16 cy tE a rw S) rfl wm_X11_184 wi_X2_follow ws_X2_follow dX11_after_32 rfl (Nat.le_of_ble_eq_true rfl) ⟨by decide, by decide, by decide, by decide⟩) (fun r20767 u20768 h20766 => ?_)
  obtain ⟨rfl, rfl⟩ := h20766
  refine z_pop b dX11_after_35 rfl ?_
  refine z_aload_n b dX11_after_36 rfl rfl ?_
  refine z_get (q0 := 0) (k9 := 5) (v := .ref (a 16)) b (cw_0 cy tE a rw (sa S 8 (va_cpy (ar S 4) (ar S 8) 0 0 51))) rfl in_X11 (by decide) wf_X11_43 rfl dX11_after_37 ?_
  refine z_get (q0 := 16) (k9 := 3) (v := .ref (a 23)) b (cw_16 cy tE a rw (sa S 8 (va_cpy (ar S 4) (ar S 8) 0 0 51))) rfl in_X2 (by decide) wf_X11_194 rfl dX11_after_40 ?_
  refine z_iload_n b dX11_after_43 rfl rfl ?_
  refine z_calli b (z_runV (q0 := 23) (As := [.int 42]) (st := []) b (c_X9_get_33 (sa S 8 (va_cpy (ar S 4) (ar S 8) 0 0 51)) h_a_4_42) cf_X9_get (cw_23 cy tE a rw (sa S 8 (va_cpy (ar S 4) (ar S 8) 0 0 51))) rfl wm_X11_197 wi_X9_get ws_X9_get dX11_after_44 rfl (Nat.le_of_ble_eq_true rfl) ⟨by decide, by decide, by decide, by decide⟩) (fun r20770 u20771 h20769 => ?_)
  obtain ⟨rfl, rfl⟩ := h20769
  exact z_iret (u := (sa S 8 (va_cpy (ar S 4) (ar S 8) 0 0 51))) b rfl dX11_after_47 ⟨rfl, rfl⟩ rfl (by decide) (by decide)

set_option maxHeartbeats 4000000 in
set_option maxRecDepth 100000 in
theorem c_X12_after_263 {l : Launch} {D : va_G} {cy : Nat → ClassId} {T0 tB tE : Nat} {a : Nat → Nat} (S : GS)  (h_l_0 : fl S 0 = 1649317774848) (h_a_38_4 : ar S 38 4 = 0) (h_a_4_7 : ar S 4 7 = 0) (h_a_1_7 : ar S 1 7 = 0) (h_a_4_6 : ar S 4 6 = 0) (h_a_1_6 : ar S 1 6 = 0) (h_a_3_6 : ar S 3 6 = 0) (h_a_3_2 : ar S 3 2 = 0) (h_a_2_2 : ar S 2 2 = 3) (h_a_0_2 : ar S 0 2 = 0) (h_a_4_3 : ar S 4 3 = 0) (h_a_1_3 : ar S 1 3 = 0) (h_a_4_5 : ar S 4 5 = 0) (h_a_1_5 : ar S 1 5 = 0) (h_a_3_5 : ar S 3 5 = 0) (h_a_3_7 : ar S 3 7 = 0) (h_a_2_1 : ar S 2 1 = 3) (h_a_0_1 : ar S 0 1 = 0) (h_a_4_2 : ar S 4 2 = 0) (h_a_1_2 : ar S 1 2 = 0) (h_a_4_1 : ar S 4 1 = 0) (h_a_1_1 : ar S 1 1 = 0) (h_a_3_1 : ar S 3 1 = 0) (h_a_3_3 : ar S 3 3 = 0) (h_a_2_0 : ar S 2 0 = 3) (h_a_0_0 : ar S 0 0 = 0) (h_i_0 : fi S 0 = 0) : Ct l D cy T0 tB tE yX12_after cX12_after 4 (some .int) 2 47 0 0 (mw cy a S) [.ref (a 0), .int 4, .int 42] (QI D (U := GS) (fun r u => 3 = r ∧ (si (sl S 2 1649317774848) 24 (-1)) = u) (mw cy a)) := by
  refine Ct.ofZ RX12 "after" [(0, .ref (a 0)), (1, .int 4), (2, .int 42)] rfl rfl rfl rfl (Nat.le_of_ble_eq_true rfl) ?_
  intro p e R s m args below meth c A b
  refine z_iload_n b dX12_after_0 rfl rfl ?_
  refine z_calli b (z_runS (As := [.int 4]) (st := []) b (c_X12_isRow_7 S ) cf_X12_isRow wm_X12_452 ws_X12_isRow dX12_after_1 rfl (Nat.le_of_ble_eq_true rfl) ⟨by decide, by decide, by decide, by decide⟩) (fun r20773 u20774 h20772 => ?_)
  obtain ⟨rfl, rfl⟩ := h20772
  refine z_if_ne_t (tgt := 9) b dX12_after_4 (by decide) (by decide) ?_
  refine z_aload_n b dX12_after_9 rfl rfl ?_
  refine z_iload_n b dX12_after_10 rfl rfl ?_
  refine z_iconst (v := 3) b dX12_after_11 (by decide) ?_
  refine z_iconst (v := 0) b dX12_after_12 (by decide) ?_
  refine z_calli b (z_runV (q0 := 0) (As := [.int 4, .int 3, .int 0]) (st := []) b (c_X12_goes_11 S h_l_0 h_a_38_4) cf_X12_goes (mw_0 cy a S) rfl wm_X12_464 wi_X12_goes ws_X12_goes dX12_after_13 rfl (Nat.le_of_ble_eq_true rfl) ⟨by decide, by decide, by decide, by decide⟩) (fun r20776 u20777 h20775 => ?_)
  obtain ⟨rfl, rfl⟩ := h20775
  refine z_pop b dX12_after_16 rfl ?_
  refine z_aload_n b dX12_after_17 rfl rfl ?_
  refine z_aload_n b dX12_after_18 rfl rfl ?_
  refine z_get (q0 := 0) (k9 := 68) (v := .long 1649317774848) b (mw_0 cy a (si (sl S 2 1649317774848) 24 (-1))) rfl in_X12 (by decide) wf_X12_458 rfl dX12_after_19 ?_
  refine z_callv b (z_runV (q0 := 0) (As := [.long 1649317774848]) (st := []) b (c_X12_takes (si (sl S 2 1649317774848) 24 (-1)) h_a_4_7 h_a_1_7 h_a_4_6 h_a_1_6 h_a_3_6 h_a_3_2 h_a_2_2 h_a_0_2 h_a_4_3 h_a_1_3 h_a_4_5 h_a_1_5 h_a_3_5 h_a_3_7 h_a_2_1 h_a_0_1 h_a_4_2 h_a_1_2 h_a_4_1 h_a_1_1 h_a_3_1 h_a_3_3 h_a_2_0 h_a_0_0 h_i_0) cf_X12_takes (mw_0 cy a (si (sl S 2 1649317774848) 24 (-1))) rfl wm_X12_174 wi_X12_takes ws_X12_takes dX12_after_22 rfl (Nat.le_of_ble_eq_true rfl) ⟨by decide, by decide, by decide, by decide⟩) (fun u20780 h20778 => ?_)
  obtain rfl := h20778
  refine z_iload_n b dX12_after_25 rfl rfl ?_
  refine z_calli b (z_runS (As := [.int 42]) (st := []) b (c_X12_isOne_47 (si (sl S 2 1649317774848) 24 (-1)) ) cf_X12_isOne wm_X12_170 ws_X12_isOne dX12_after_26 rfl (Nat.le_of_ble_eq_true rfl) ⟨by decide, by decide, by decide, by decide⟩) (fun r20782 u20783 h20781 => ?_)
  obtain ⟨rfl, rfl⟩ := h20781
  refine z_if_eq_t (tgt := 39) b dX12_after_29 (by decide) (by decide) ?_
  refine z_iload_n b dX12_after_39 rfl rfl ?_
  refine z_bipush (v := 50) b dX12_after_40 (by decide) ?_
  refine z_icmp_ne_t (tgt := 50) b dX12_after_42 (by decide) (by decide) ?_
  refine z_iload_n b dX12_after_50 rfl rfl ?_
  refine z_bipush (v := 40) b dX12_after_51 (by decide) ?_
  refine z_bipush (v := 42) b dX12_after_53 (by decide) ?_
  refine z_calli b (z_runS (As := [.int 42, .int 40, .int 42]) (st := []) b (c_X12_isIn_184 (si (sl S 2 1649317774848) 24 (-1)) ) cf_X12_isIn wm_X12_1 ws_X12_isIn dX12_after_55 rfl (Nat.le_of_ble_eq_true rfl) ⟨by decide, by decide, by decide, by decide⟩) (fun r20785 u20786 h20784 => ?_)
  obtain ⟨rfl, rfl⟩ := h20784
  refine z_if_eq_f (tgt := 71) b dX12_after_58 (by decide) (by decide) ?_
  refine z_aload_n b dX12_after_61 rfl rfl ?_
  refine z_get (q0 := 0) (k9 := 2) (v := .ref (a 3)) b (mw_0 cy a (si (sl S 2 1649317774848) 24 (-1))) rfl in_X12 (by decide) wf_X12_20 rfl dX12_after_62 ?_
  refine z_iload_n b dX12_after_65 rfl rfl ?_
  refine z_bipush (v := 40) b dX12_after_66 (by decide) ?_
  refine z_isub (v := 2) b dX12_after_68 (by decide) ?_
  refine y_iald (q0 := 3) (j := 2) (v := (ar (si (sl S 2 1649317774848) 24 (-1)) 2 2)) b (mw_3 cy a (si (sl S 2 1649317774848) 24 (-1))) (by decide) rfl dX12_after_69 ?_
  refine z_eqi h_a_2_2 ?_
  exact z_iret (u := (si (sl S 2 1649317774848) 24 (-1))) b rfl dX12_after_70 ⟨rfl, rfl⟩ rfl (by decide) (by decide)

set_option maxHeartbeats 4000000 in
set_option maxRecDepth 100000 in
theorem c_X11_after_264 {l : Launch} {D : va_G} {cy : Nat → ClassId} {T0 tB tE : Nat} {a : Nat → Nat} {rw : Nat → Option Nat} (S : GS)   : Ct l D cy T0 tB tE yX11_after cX11_after 3 (some .int) 2 41 0 0 (cw cy tE a rw S) [.ref (a 0), .int 4, .int 43] (QI D (U := GS) (fun r u => (-1) = r ∧ S = u) (cw cy tE a rw)) := by
  refine Ct.ofZ RX11 "after" [(0, .ref (a 0)), (1, .int 4), (2, .int 43)] rfl rfl rfl rfl (Nat.le_of_ble_eq_true rfl) ?_
  intro p e R s m args below meth c A b
  refine z_iload_n b dX11_after_0 rfl rfl ?_
  refine z_calli b (z_runS (As := [.int 4]) (st := []) b (c_X11_isRow_7 S ) cf_X11_isRow wm_X11_169 ws_X11_isRow dX11_after_1 rfl (Nat.le_of_ble_eq_true rfl) ⟨by decide, by decide, by decide, by decide⟩) (fun r20788 u20789 h20787 => ?_)
  obtain ⟨rfl, rfl⟩ := h20787
  refine z_if_eq_f (tgt := 14) b dX11_after_4 (by decide) (by decide) ?_
  refine z_iload_n b dX11_after_7 rfl rfl ?_
  refine z_calli b (z_runS (As := [.int 43]) (st := []) b (c_X9_has_46 S ) cf_X9_has wm_X11_191 ws_X9_has dX11_after_8 rfl (Nat.le_of_ble_eq_true rfl) ⟨by decide, by decide, by decide, by decide⟩) (fun r20791 u20792 h20790 => ?_)
  obtain ⟨rfl, rfl⟩ := h20790
  refine z_if_ne_f (tgt := 16) b dX11_after_11 (by decide) (by decide) ?_
  refine z_iconst (v := (-1)) b dX11_after_14 (by decide) ?_
  exact z_iret (u := S) b rfl dX11_after_15 ⟨rfl, rfl⟩ rfl (by decide) (by decide)

set_option maxHeartbeats 4000000 in
set_option maxRecDepth 100000 in
theorem c_X12_after_264 {l : Launch} {D : va_G} {cy : Nat → ClassId} {T0 tB tE : Nat} {a : Nat → Nat} (S : GS)  (h_l_0 : fl S 0 = 1649317774848) (h_a_38_4 : ar S 38 4 = 0) (h_a_4_7 : ar S 4 7 = 0) (h_a_1_7 : ar S 1 7 = 0) (h_a_4_6 : ar S 4 6 = 0) (h_a_1_6 : ar S 1 6 = 0) (h_a_3_6 : ar S 3 6 = 0) (h_a_3_2 : ar S 3 2 = 0) (h_a_2_2 : ar S 2 2 = 3) (h_a_0_2 : ar S 0 2 = 0) (h_a_4_3 : ar S 4 3 = 0) (h_a_1_3 : ar S 1 3 = 0) (h_a_4_5 : ar S 4 5 = 0) (h_a_1_5 : ar S 1 5 = 0) (h_a_3_5 : ar S 3 5 = 0) (h_a_3_7 : ar S 3 7 = 0) (h_a_2_1 : ar S 2 1 = 3) (h_a_0_1 : ar S 0 1 = 0) (h_a_4_2 : ar S 4 2 = 0) (h_a_1_2 : ar S 1 2 = 0) (h_a_4_1 : ar S 4 1 = 0) (h_a_1_1 : ar S 1 1 = 0) (h_a_3_1 : ar S 3 1 = 0) (h_a_3_3 : ar S 3 3 = 0) (h_a_2_0 : ar S 2 0 = 3) (h_a_0_0 : ar S 0 0 = 0) (h_i_0 : fi S 0 = 0) : Ct l D cy T0 tB tE yX12_after cX12_after 4 (some .int) 2 47 0 0 (mw cy a S) [.ref (a 0), .int 4, .int 43] (QI D (U := GS) (fun r u => (-1) = r ∧ (si (sl S 2 1649317774848) 24 (-1)) = u) (mw cy a)) := by
  refine Ct.ofZ RX12 "after" [(0, .ref (a 0)), (1, .int 4), (2, .int 43)] rfl rfl rfl rfl (Nat.le_of_ble_eq_true rfl) ?_
  intro p e R s m args below meth c A b
  refine z_iload_n b dX12_after_0 rfl rfl ?_
  refine z_calli b (z_runS (As := [.int 4]) (st := []) b (c_X12_isRow_7 S ) cf_X12_isRow wm_X12_452 ws_X12_isRow dX12_after_1 rfl (Nat.le_of_ble_eq_true rfl) ⟨by decide, by decide, by decide, by decide⟩) (fun r20794 u20795 h20793 => ?_)
  obtain ⟨rfl, rfl⟩ := h20793
  refine z_if_ne_t (tgt := 9) b dX12_after_4 (by decide) (by decide) ?_
  refine z_aload_n b dX12_after_9 rfl rfl ?_
  refine z_iload_n b dX12_after_10 rfl rfl ?_
  refine z_iconst (v := 3) b dX12_after_11 (by decide) ?_
  refine z_iconst (v := 0) b dX12_after_12 (by decide) ?_
  refine z_calli b (z_runV (q0 := 0) (As := [.int 4, .int 3, .int 0]) (st := []) b (c_X12_goes_11 S h_l_0 h_a_38_4) cf_X12_goes (mw_0 cy a S) rfl wm_X12_464 wi_X12_goes ws_X12_goes dX12_after_13 rfl (Nat.le_of_ble_eq_true rfl) ⟨by decide, by decide, by decide, by decide⟩) (fun r20797 u20798 h20796 => ?_)
  obtain ⟨rfl, rfl⟩ := h20796
  refine z_pop b dX12_after_16 rfl ?_
  refine z_aload_n b dX12_after_17 rfl rfl ?_
  refine z_aload_n b dX12_after_18 rfl rfl ?_
  refine z_get (q0 := 0) (k9 := 68) (v := .long 1649317774848) b (mw_0 cy a (si (sl S 2 1649317774848) 24 (-1))) rfl in_X12 (by decide) wf_X12_458 rfl dX12_after_19 ?_
  refine z_callv b (z_runV (q0 := 0) (As := [.long 1649317774848]) (st := []) b (c_X12_takes (si (sl S 2 1649317774848) 24 (-1)) h_a_4_7 h_a_1_7 h_a_4_6 h_a_1_6 h_a_3_6 h_a_3_2 h_a_2_2 h_a_0_2 h_a_4_3 h_a_1_3 h_a_4_5 h_a_1_5 h_a_3_5 h_a_3_7 h_a_2_1 h_a_0_1 h_a_4_2 h_a_1_2 h_a_4_1 h_a_1_1 h_a_3_1 h_a_3_3 h_a_2_0 h_a_0_0 h_i_0) cf_X12_takes (mw_0 cy a (si (sl S 2 1649317774848) 24 (-1))) rfl wm_X12_174 wi_X12_takes ws_X12_takes dX12_after_22 rfl (Nat.le_of_ble_eq_true rfl) ⟨by decide, by decide, by decide, by decide⟩) (fun u20801 h20799 => ?_)
  obtain rfl := h20799
  refine z_iload_n b dX12_after_25 rfl rfl ?_
  refine z_calli b (z_runS (As := [.int 43]) (st := []) b (c_X12_isOne_48 (si (sl S 2 1649317774848) 24 (-1)) ) cf_X12_isOne wm_X12_170 ws_X12_isOne dX12_after_26 rfl (Nat.le_of_ble_eq_true rfl) ⟨by decide, by decide, by decide, by decide⟩) (fun r20803 u20804 h20802 => ?_)
  obtain ⟨rfl, rfl⟩ := h20802
  refine z_if_eq_t (tgt := 39) b dX12_after_29 (by decide) (by decide) ?_
  refine z_iload_n b dX12_after_39 rfl rfl ?_
  refine z_bipush (v := 50) b dX12_after_40 (by decide) ?_
  refine z_icmp_ne_t (tgt := 50) b dX12_after_42 (by decide) (by decide) ?_
  refine z_iload_n b dX12_after_50 rfl rfl ?_
  refine z_bipush (v := 40) b dX12_after_51 (by decide) ?_
  refine z_bipush (v := 42) b dX12_after_53 (by decide) ?_
  refine z_calli b (z_runS (As := [.int 43, .int 40, .int 42]) (st := []) b (c_X12_isIn_186 (si (sl S 2 1649317774848) 24 (-1)) ) cf_X12_isIn wm_X12_1 ws_X12_isIn dX12_after_55 rfl (Nat.le_of_ble_eq_true rfl) ⟨by decide, by decide, by decide, by decide⟩) (fun r20806 u20807 h20805 => ?_)
  obtain ⟨rfl, rfl⟩ := h20805
  refine z_if_eq_t (tgt := 71) b dX12_after_58 (by decide) (by decide) ?_
  refine z_iload_n b dX12_after_71 rfl rfl ?_
  refine z_bipush (v := 10) b dX12_after_72 (by decide) ?_
  refine z_irem (v := 3) b dX12_after_74 (by decide) (by decide) ?_
  refine z_istore_n (lv' := [(3, .int 3), (0, .ref (a 0)), (1, .int 4), (2, .int 43)]) b dX12_after_75 rfl (by decide) rfl ?_
  refine z_iload_n b dX12_after_76 rfl rfl ?_
  refine z_bipush (v := 10) b dX12_after_77 (by decide) ?_
  refine z_bipush (v := 38) b dX12_after_79 (by decide) ?_
  refine z_calli b (z_runS (As := [.int 43, .int 10, .int 38]) (st := []) b (c_X12_isIn_187 (si (sl S 2 1649317774848) 24 (-1)) ) cf_X12_isIn wm_X12_1 ws_X12_isIn dX12_after_81 rfl (Nat.le_of_ble_eq_true rfl) ⟨by decide, by decide, by decide, by decide⟩) (fun r20809 u20810 h20808 => ?_)
  obtain ⟨rfl, rfl⟩ := h20808
  refine z_if_eq_t (tgt := 102) b dX12_after_84 (by decide) (by decide) ?_
  refine z_iconst (v := (-1)) b dX12_after_102 (by decide) ?_
  exact z_iret (u := (si (sl S 2 1649317774848) 24 (-1))) b rfl dX12_after_103 ⟨rfl, rfl⟩ rfl (by decide) (by decide)

set_option maxHeartbeats 4000000 in
set_option maxRecDepth 100000 in
theorem c_X11_after_265 {l : Launch} {D : va_G} {cy : Nat → ClassId} {T0 tB tE : Nat} {a : Nat → Nat} {rw : Nat → Option Nat} (S : GS)   : Ct l D cy T0 tB tE yX11_after cX11_after 3 (some .int) 2 41 0 0 (cw cy tE a rw S) [.ref (a 0), .int 4, .int 44] (QI D (U := GS) (fun r u => (-1) = r ∧ S = u) (cw cy tE a rw)) := by
  refine Ct.ofZ RX11 "after" [(0, .ref (a 0)), (1, .int 4), (2, .int 44)] rfl rfl rfl rfl (Nat.le_of_ble_eq_true rfl) ?_
  intro p e R s m args below meth c A b
  refine z_iload_n b dX11_after_0 rfl rfl ?_
  refine z_calli b (z_runS (As := [.int 4]) (st := []) b (c_X11_isRow_7 S ) cf_X11_isRow wm_X11_169 ws_X11_isRow dX11_after_1 rfl (Nat.le_of_ble_eq_true rfl) ⟨by decide, by decide, by decide, by decide⟩) (fun r20812 u20813 h20811 => ?_)
  obtain ⟨rfl, rfl⟩ := h20811
  refine z_if_eq_f (tgt := 14) b dX11_after_4 (by decide) (by decide) ?_
  refine z_iload_n b dX11_after_7 rfl rfl ?_
  refine z_calli b (z_runS (As := [.int 44]) (st := []) b (c_X9_has_47 S ) cf_X9_has wm_X11_191 ws_X9_has dX11_after_8 rfl (Nat.le_of_ble_eq_true rfl) ⟨by decide, by decide, by decide, by decide⟩) (fun r20815 u20816 h20814 => ?_)
  obtain ⟨rfl, rfl⟩ := h20814
  refine z_if_ne_f (tgt := 16) b dX11_after_11 (by decide) (by decide) ?_
  refine z_iconst (v := (-1)) b dX11_after_14 (by decide) ?_
  exact z_iret (u := S) b rfl dX11_after_15 ⟨rfl, rfl⟩ rfl (by decide) (by decide)

set_option maxHeartbeats 4000000 in
set_option maxRecDepth 100000 in
theorem c_X12_after_265 {l : Launch} {D : va_G} {cy : Nat → ClassId} {T0 tB tE : Nat} {a : Nat → Nat} (S : GS)  (h_l_0 : fl S 0 = 1649317774848) (h_a_38_4 : ar S 38 4 = 0) (h_a_4_7 : ar S 4 7 = 0) (h_a_1_7 : ar S 1 7 = 0) (h_a_4_6 : ar S 4 6 = 0) (h_a_1_6 : ar S 1 6 = 0) (h_a_3_6 : ar S 3 6 = 0) (h_a_3_2 : ar S 3 2 = 0) (h_a_2_2 : ar S 2 2 = 3) (h_a_0_2 : ar S 0 2 = 0) (h_a_4_3 : ar S 4 3 = 0) (h_a_1_3 : ar S 1 3 = 0) (h_a_4_5 : ar S 4 5 = 0) (h_a_1_5 : ar S 1 5 = 0) (h_a_3_5 : ar S 3 5 = 0) (h_a_3_7 : ar S 3 7 = 0) (h_a_2_1 : ar S 2 1 = 3) (h_a_0_1 : ar S 0 1 = 0) (h_a_4_2 : ar S 4 2 = 0) (h_a_1_2 : ar S 1 2 = 0) (h_a_4_1 : ar S 4 1 = 0) (h_a_1_1 : ar S 1 1 = 0) (h_a_3_1 : ar S 3 1 = 0) (h_a_3_3 : ar S 3 3 = 0) (h_a_2_0 : ar S 2 0 = 3) (h_a_0_0 : ar S 0 0 = 0) (h_i_0 : fi S 0 = 0) : Ct l D cy T0 tB tE yX12_after cX12_after 4 (some .int) 2 47 0 0 (mw cy a S) [.ref (a 0), .int 4, .int 44] (QI D (U := GS) (fun r u => (-1) = r ∧ (si (sl S 2 1649317774848) 24 (-1)) = u) (mw cy a)) := by
  refine Ct.ofZ RX12 "after" [(0, .ref (a 0)), (1, .int 4), (2, .int 44)] rfl rfl rfl rfl (Nat.le_of_ble_eq_true rfl) ?_
  intro p e R s m args below meth c A b
  refine z_iload_n b dX12_after_0 rfl rfl ?_
  refine z_calli b (z_runS (As := [.int 4]) (st := []) b (c_X12_isRow_7 S ) cf_X12_isRow wm_X12_452 ws_X12_isRow dX12_after_1 rfl (Nat.le_of_ble_eq_true rfl) ⟨by decide, by decide, by decide, by decide⟩) (fun r20818 u20819 h20817 => ?_)
  obtain ⟨rfl, rfl⟩ := h20817
  refine z_if_ne_t (tgt := 9) b dX12_after_4 (by decide) (by decide) ?_
  refine z_aload_n b dX12_after_9 rfl rfl ?_
  refine z_iload_n b dX12_after_10 rfl rfl ?_
  refine z_iconst (v := 3) b dX12_after_11 (by decide) ?_
  refine z_iconst (v := 0) b dX12_after_12 (by decide) ?_
  refine z_calli b (z_runV (q0 := 0) (As := [.int 4, .int 3, .int 0]) (st := []) b (c_X12_goes_11 S h_l_0 h_a_38_4) cf_X12_goes (mw_0 cy a S) rfl wm_X12_464 wi_X12_goes ws_X12_goes dX12_after_13 rfl (Nat.le_of_ble_eq_true rfl) ⟨by decide, by decide, by decide, by decide⟩) (fun r20821 u20822 h20820 => ?_)
  obtain ⟨rfl, rfl⟩ := h20820
  refine z_pop b dX12_after_16 rfl ?_
  refine z_aload_n b dX12_after_17 rfl rfl ?_
  refine z_aload_n b dX12_after_18 rfl rfl ?_
  refine z_get (q0 := 0) (k9 := 68) (v := .long 1649317774848) b (mw_0 cy a (si (sl S 2 1649317774848) 24 (-1))) rfl in_X12 (by decide) wf_X12_458 rfl dX12_after_19 ?_
  refine z_callv b (z_runV (q0 := 0) (As := [.long 1649317774848]) (st := []) b (c_X12_takes (si (sl S 2 1649317774848) 24 (-1)) h_a_4_7 h_a_1_7 h_a_4_6 h_a_1_6 h_a_3_6 h_a_3_2 h_a_2_2 h_a_0_2 h_a_4_3 h_a_1_3 h_a_4_5 h_a_1_5 h_a_3_5 h_a_3_7 h_a_2_1 h_a_0_1 h_a_4_2 h_a_1_2 h_a_4_1 h_a_1_1 h_a_3_1 h_a_3_3 h_a_2_0 h_a_0_0 h_i_0) cf_X12_takes (mw_0 cy a (si (sl S 2 1649317774848) 24 (-1))) rfl wm_X12_174 wi_X12_takes ws_X12_takes dX12_after_22 rfl (Nat.le_of_ble_eq_true rfl) ⟨by decide, by decide, by decide, by decide⟩) (fun u20825 h20823 => ?_)
  obtain rfl := h20823
  refine z_iload_n b dX12_after_25 rfl rfl ?_
  refine z_calli b (z_runS (As := [.int 44]) (st := []) b (c_X12_isOne_49 (si (sl S 2 1649317774848) 24 (-1)) ) cf_X12_isOne wm_X12_170 ws_X12_isOne dX12_after_26 rfl (Nat.le_of_ble_eq_true rfl) ⟨by decide, by decide, by decide, by decide⟩) (fun r20827 u20828 h20826 => ?_)
  obtain ⟨rfl, rfl⟩ := h20826
  refine z_if_eq_t (tgt := 39) b dX12_after_29 (by decide) (by decide) ?_
  refine z_iload_n b dX12_after_39 rfl rfl ?_
  refine z_bipush (v := 50) b dX12_after_40 (by decide) ?_
  refine z_icmp_ne_t (tgt := 50) b dX12_after_42 (by decide) (by decide) ?_
  refine z_iload_n b dX12_after_50 rfl rfl ?_
  refine z_bipush (v := 40) b dX12_after_51 (by decide) ?_
  refine z_bipush (v := 42) b dX12_after_53 (by decide) ?_
  refine z_calli b (z_runS (As := [.int 44, .int 40, .int 42]) (st := []) b (c_X12_isIn_189 (si (sl S 2 1649317774848) 24 (-1)) ) cf_X12_isIn wm_X12_1 ws_X12_isIn dX12_after_55 rfl (Nat.le_of_ble_eq_true rfl) ⟨by decide, by decide, by decide, by decide⟩) (fun r20830 u20831 h20829 => ?_)
  obtain ⟨rfl, rfl⟩ := h20829
  refine z_if_eq_t (tgt := 71) b dX12_after_58 (by decide) (by decide) ?_
  refine z_iload_n b dX12_after_71 rfl rfl ?_
  refine z_bipush (v := 10) b dX12_after_72 (by decide) ?_
  refine z_irem (v := 4) b dX12_after_74 (by decide) (by decide) ?_
  refine z_istore_n (lv' := [(3, .int 4), (0, .ref (a 0)), (1, .int 4), (2, .int 44)]) b dX12_after_75 rfl (by decide) rfl ?_
  refine z_iload_n b dX12_after_76 rfl rfl ?_
  refine z_bipush (v := 10) b dX12_after_77 (by decide) ?_
  refine z_bipush (v := 38) b dX12_after_79 (by decide) ?_
  refine z_calli b (z_runS (As := [.int 44, .int 10, .int 38]) (st := []) b (c_X12_isIn_190 (si (sl S 2 1649317774848) 24 (-1)) ) cf_X12_isIn wm_X12_1 ws_X12_isIn dX12_after_81 rfl (Nat.le_of_ble_eq_true rfl) ⟨by decide, by decide, by decide, by decide⟩) (fun r20833 u20834 h20832 => ?_)
  obtain ⟨rfl, rfl⟩ := h20832
  refine z_if_eq_t (tgt := 102) b dX12_after_84 (by decide) (by decide) ?_
  refine z_iconst (v := (-1)) b dX12_after_102 (by decide) ?_
  exact z_iret (u := (si (sl S 2 1649317774848) 24 (-1))) b rfl dX12_after_103 ⟨rfl, rfl⟩ rfl (by decide) (by decide)

set_option maxHeartbeats 4000000 in
set_option maxRecDepth 100000 in
theorem c_X11_after_266 {l : Launch} {D : va_G} {cy : Nat → ClassId} {T0 tB tE : Nat} {a : Nat → Nat} {rw : Nat → Option Nat} (S : GS)   : Ct l D cy T0 tB tE yX11_after cX11_after 3 (some .int) 2 41 0 0 (cw cy tE a rw S) [.ref (a 0), .int 4, .int 45] (QI D (U := GS) (fun r u => (-1) = r ∧ S = u) (cw cy tE a rw)) := by
  refine Ct.ofZ RX11 "after" [(0, .ref (a 0)), (1, .int 4), (2, .int 45)] rfl rfl rfl rfl (Nat.le_of_ble_eq_true rfl) ?_
  intro p e R s m args below meth c A b
  refine z_iload_n b dX11_after_0 rfl rfl ?_
  refine z_calli b (z_runS (As := [.int 4]) (st := []) b (c_X11_isRow_7 S ) cf_X11_isRow wm_X11_169 ws_X11_isRow dX11_after_1 rfl (Nat.le_of_ble_eq_true rfl) ⟨by decide, by decide, by decide, by decide⟩) (fun r20836 u20837 h20835 => ?_)
  obtain ⟨rfl, rfl⟩ := h20835
  refine z_if_eq_f (tgt := 14) b dX11_after_4 (by decide) (by decide) ?_
  refine z_iload_n b dX11_after_7 rfl rfl ?_
  refine z_calli b (z_runS (As := [.int 45]) (st := []) b (c_X9_has_48 S ) cf_X9_has wm_X11_191 ws_X9_has dX11_after_8 rfl (Nat.le_of_ble_eq_true rfl) ⟨by decide, by decide, by decide, by decide⟩) (fun r20839 u20840 h20838 => ?_)
  obtain ⟨rfl, rfl⟩ := h20838
  refine z_if_ne_f (tgt := 16) b dX11_after_11 (by decide) (by decide) ?_
  refine z_iconst (v := (-1)) b dX11_after_14 (by decide) ?_
  exact z_iret (u := S) b rfl dX11_after_15 ⟨rfl, rfl⟩ rfl (by decide) (by decide)

set_option maxHeartbeats 4000000 in
set_option maxRecDepth 100000 in
theorem c_X12_after_266 {l : Launch} {D : va_G} {cy : Nat → ClassId} {T0 tB tE : Nat} {a : Nat → Nat} (S : GS)  (h_l_0 : fl S 0 = 1649317774848) (h_a_38_4 : ar S 38 4 = 0) (h_a_4_7 : ar S 4 7 = 0) (h_a_1_7 : ar S 1 7 = 0) (h_a_4_6 : ar S 4 6 = 0) (h_a_1_6 : ar S 1 6 = 0) (h_a_3_6 : ar S 3 6 = 0) (h_a_3_2 : ar S 3 2 = 0) (h_a_2_2 : ar S 2 2 = 3) (h_a_0_2 : ar S 0 2 = 0) (h_a_4_3 : ar S 4 3 = 0) (h_a_1_3 : ar S 1 3 = 0) (h_a_4_5 : ar S 4 5 = 0) (h_a_1_5 : ar S 1 5 = 0) (h_a_3_5 : ar S 3 5 = 0) (h_a_3_7 : ar S 3 7 = 0) (h_a_2_1 : ar S 2 1 = 3) (h_a_0_1 : ar S 0 1 = 0) (h_a_4_2 : ar S 4 2 = 0) (h_a_1_2 : ar S 1 2 = 0) (h_a_4_1 : ar S 4 1 = 0) (h_a_1_1 : ar S 1 1 = 0) (h_a_3_1 : ar S 3 1 = 0) (h_a_3_3 : ar S 3 3 = 0) (h_a_2_0 : ar S 2 0 = 3) (h_a_0_0 : ar S 0 0 = 0) (h_i_0 : fi S 0 = 0) : Ct l D cy T0 tB tE yX12_after cX12_after 4 (some .int) 2 47 0 0 (mw cy a S) [.ref (a 0), .int 4, .int 45] (QI D (U := GS) (fun r u => (-1) = r ∧ (si (sl S 2 1649317774848) 24 (-1)) = u) (mw cy a)) := by
  refine Ct.ofZ RX12 "after" [(0, .ref (a 0)), (1, .int 4), (2, .int 45)] rfl rfl rfl rfl (Nat.le_of_ble_eq_true rfl) ?_
  intro p e R s m args below meth c A b
  refine z_iload_n b dX12_after_0 rfl rfl ?_
  refine z_calli b (z_runS (As := [.int 4]) (st := []) b (c_X12_isRow_7 S ) cf_X12_isRow wm_X12_452 ws_X12_isRow dX12_after_1 rfl (Nat.le_of_ble_eq_true rfl) ⟨by decide, by decide, by decide, by decide⟩) (fun r20842 u20843 h20841 => ?_)
  obtain ⟨rfl, rfl⟩ := h20841
  refine z_if_ne_t (tgt := 9) b dX12_after_4 (by decide) (by decide) ?_
  refine z_aload_n b dX12_after_9 rfl rfl ?_
  refine z_iload_n b dX12_after_10 rfl rfl ?_
  refine z_iconst (v := 3) b dX12_after_11 (by decide) ?_
  refine z_iconst (v := 0) b dX12_after_12 (by decide) ?_
  refine z_calli b (z_runV (q0 := 0) (As := [.int 4, .int 3, .int 0]) (st := []) b (c_X12_goes_11 S h_l_0 h_a_38_4) cf_X12_goes (mw_0 cy a S) rfl wm_X12_464 wi_X12_goes ws_X12_goes dX12_after_13 rfl (Nat.le_of_ble_eq_true rfl) ⟨by decide, by decide, by decide, by decide⟩) (fun r20845 u20846 h20844 => ?_)
  obtain ⟨rfl, rfl⟩ := h20844
  refine z_pop b dX12_after_16 rfl ?_
  refine z_aload_n b dX12_after_17 rfl rfl ?_
  refine z_aload_n b dX12_after_18 rfl rfl ?_
  refine z_get (q0 := 0) (k9 := 68) (v := .long 1649317774848) b (mw_0 cy a (si (sl S 2 1649317774848) 24 (-1))) rfl in_X12 (by decide) wf_X12_458 rfl dX12_after_19 ?_
  refine z_callv b (z_runV (q0 := 0) (As := [.long 1649317774848]) (st := []) b (c_X12_takes (si (sl S 2 1649317774848) 24 (-1)) h_a_4_7 h_a_1_7 h_a_4_6 h_a_1_6 h_a_3_6 h_a_3_2 h_a_2_2 h_a_0_2 h_a_4_3 h_a_1_3 h_a_4_5 h_a_1_5 h_a_3_5 h_a_3_7 h_a_2_1 h_a_0_1 h_a_4_2 h_a_1_2 h_a_4_1 h_a_1_1 h_a_3_1 h_a_3_3 h_a_2_0 h_a_0_0 h_i_0) cf_X12_takes (mw_0 cy a (si (sl S 2 1649317774848) 24 (-1))) rfl wm_X12_174 wi_X12_takes ws_X12_takes dX12_after_22 rfl (Nat.le_of_ble_eq_true rfl) ⟨by decide, by decide, by decide, by decide⟩) (fun u20849 h20847 => ?_)
  obtain rfl := h20847
  refine z_iload_n b dX12_after_25 rfl rfl ?_
  refine z_calli b (z_runS (As := [.int 45]) (st := []) b (c_X12_isOne_50 (si (sl S 2 1649317774848) 24 (-1)) ) cf_X12_isOne wm_X12_170 ws_X12_isOne dX12_after_26 rfl (Nat.le_of_ble_eq_true rfl) ⟨by decide, by decide, by decide, by decide⟩) (fun r20851 u20852 h20850 => ?_)
  obtain ⟨rfl, rfl⟩ := h20850
  refine z_if_eq_t (tgt := 39) b dX12_after_29 (by decide) (by decide) ?_
  refine z_iload_n b dX12_after_39 rfl rfl ?_
  refine z_bipush (v := 50) b dX12_after_40 (by decide) ?_
  refine z_icmp_ne_t (tgt := 50) b dX12_after_42 (by decide) (by decide) ?_
  refine z_iload_n b dX12_after_50 rfl rfl ?_
  refine z_bipush (v := 40) b dX12_after_51 (by decide) ?_
  refine z_bipush (v := 42) b dX12_after_53 (by decide) ?_
  refine z_calli b (z_runS (As := [.int 45, .int 40, .int 42]) (st := []) b (c_X12_isIn_192 (si (sl S 2 1649317774848) 24 (-1)) ) cf_X12_isIn wm_X12_1 ws_X12_isIn dX12_after_55 rfl (Nat.le_of_ble_eq_true rfl) ⟨by decide, by decide, by decide, by decide⟩) (fun r20854 u20855 h20853 => ?_)
  obtain ⟨rfl, rfl⟩ := h20853
  refine z_if_eq_t (tgt := 71) b dX12_after_58 (by decide) (by decide) ?_
  refine z_iload_n b dX12_after_71 rfl rfl ?_
  refine z_bipush (v := 10) b dX12_after_72 (by decide) ?_
  refine z_irem (v := 5) b dX12_after_74 (by decide) (by decide) ?_
  refine z_istore_n (lv' := [(3, .int 5), (0, .ref (a 0)), (1, .int 4), (2, .int 45)]) b dX12_after_75 rfl (by decide) rfl ?_
  refine z_iload_n b dX12_after_76 rfl rfl ?_
  refine z_bipush (v := 10) b dX12_after_77 (by decide) ?_
  refine z_bipush (v := 38) b dX12_after_79 (by decide) ?_
  refine z_calli b (z_runS (As := [.int 45, .int 10, .int 38]) (st := []) b (c_X12_isIn_193 (si (sl S 2 1649317774848) 24 (-1)) ) cf_X12_isIn wm_X12_1 ws_X12_isIn dX12_after_81 rfl (Nat.le_of_ble_eq_true rfl) ⟨by decide, by decide, by decide, by decide⟩) (fun r20857 u20858 h20856 => ?_)
  obtain ⟨rfl, rfl⟩ := h20856
  refine z_if_eq_t (tgt := 102) b dX12_after_84 (by decide) (by decide) ?_
  refine z_iconst (v := (-1)) b dX12_after_102 (by decide) ?_
  exact z_iret (u := (si (sl S 2 1649317774848) 24 (-1))) b rfl dX12_after_103 ⟨rfl, rfl⟩ rfl (by decide) (by decide)

set_option maxHeartbeats 4000000 in
set_option maxRecDepth 100000 in
theorem c_X11_after_267 {l : Launch} {D : va_G} {cy : Nat → ClassId} {T0 tB tE : Nat} {a : Nat → Nat} {rw : Nat → Option Nat} (S : GS)   : Ct l D cy T0 tB tE yX11_after cX11_after 3 (some .int) 2 41 0 0 (cw cy tE a rw S) [.ref (a 0), .int 4, .int 46] (QI D (U := GS) (fun r u => (-1) = r ∧ S = u) (cw cy tE a rw)) := by
  refine Ct.ofZ RX11 "after" [(0, .ref (a 0)), (1, .int 4), (2, .int 46)] rfl rfl rfl rfl (Nat.le_of_ble_eq_true rfl) ?_
  intro p e R s m args below meth c A b
  refine z_iload_n b dX11_after_0 rfl rfl ?_
  refine z_calli b (z_runS (As := [.int 4]) (st := []) b (c_X11_isRow_7 S ) cf_X11_isRow wm_X11_169 ws_X11_isRow dX11_after_1 rfl (Nat.le_of_ble_eq_true rfl) ⟨by decide, by decide, by decide, by decide⟩) (fun r20860 u20861 h20859 => ?_)
  obtain ⟨rfl, rfl⟩ := h20859
  refine z_if_eq_f (tgt := 14) b dX11_after_4 (by decide) (by decide) ?_
  refine z_iload_n b dX11_after_7 rfl rfl ?_
  refine z_calli b (z_runS (As := [.int 46]) (st := []) b (c_X9_has_49 S ) cf_X9_has wm_X11_191 ws_X9_has dX11_after_8 rfl (Nat.le_of_ble_eq_true rfl) ⟨by decide, by decide, by decide, by decide⟩) (fun r20863 u20864 h20862 => ?_)
  obtain ⟨rfl, rfl⟩ := h20862
  refine z_if_ne_f (tgt := 16) b dX11_after_11 (by decide) (by decide) ?_
  refine z_iconst (v := (-1)) b dX11_after_14 (by decide) ?_
  exact z_iret (u := S) b rfl dX11_after_15 ⟨rfl, rfl⟩ rfl (by decide) (by decide)

set_option maxHeartbeats 4000000 in
set_option maxRecDepth 100000 in
theorem c_X12_after_267 {l : Launch} {D : va_G} {cy : Nat → ClassId} {T0 tB tE : Nat} {a : Nat → Nat} (S : GS)  (h_l_0 : fl S 0 = 1649317774848) (h_a_38_4 : ar S 38 4 = 0) (h_a_4_7 : ar S 4 7 = 0) (h_a_1_7 : ar S 1 7 = 0) (h_a_4_6 : ar S 4 6 = 0) (h_a_1_6 : ar S 1 6 = 0) (h_a_3_6 : ar S 3 6 = 0) (h_a_3_2 : ar S 3 2 = 0) (h_a_2_2 : ar S 2 2 = 3) (h_a_0_2 : ar S 0 2 = 0) (h_a_4_3 : ar S 4 3 = 0) (h_a_1_3 : ar S 1 3 = 0) (h_a_4_5 : ar S 4 5 = 0) (h_a_1_5 : ar S 1 5 = 0) (h_a_3_5 : ar S 3 5 = 0) (h_a_3_7 : ar S 3 7 = 0) (h_a_2_1 : ar S 2 1 = 3) (h_a_0_1 : ar S 0 1 = 0) (h_a_4_2 : ar S 4 2 = 0) (h_a_1_2 : ar S 1 2 = 0) (h_a_4_1 : ar S 4 1 = 0) (h_a_1_1 : ar S 1 1 = 0) (h_a_3_1 : ar S 3 1 = 0) (h_a_3_3 : ar S 3 3 = 0) (h_a_2_0 : ar S 2 0 = 3) (h_a_0_0 : ar S 0 0 = 0) (h_i_0 : fi S 0 = 0) : Ct l D cy T0 tB tE yX12_after cX12_after 4 (some .int) 2 47 0 0 (mw cy a S) [.ref (a 0), .int 4, .int 46] (QI D (U := GS) (fun r u => (-1) = r ∧ (si (sl S 2 1649317774848) 24 (-1)) = u) (mw cy a)) := by
  refine Ct.ofZ RX12 "after" [(0, .ref (a 0)), (1, .int 4), (2, .int 46)] rfl rfl rfl rfl (Nat.le_of_ble_eq_true rfl) ?_
  intro p e R s m args below meth c A b
  refine z_iload_n b dX12_after_0 rfl rfl ?_
  refine z_calli b (z_runS (As := [.int 4]) (st := []) b (c_X12_isRow_7 S ) cf_X12_isRow wm_X12_452 ws_X12_isRow dX12_after_1 rfl (Nat.le_of_ble_eq_true rfl) ⟨by decide, by decide, by decide, by decide⟩) (fun r20866 u20867 h20865 => ?_)
  obtain ⟨rfl, rfl⟩ := h20865
  refine z_if_ne_t (tgt := 9) b dX12_after_4 (by decide) (by decide) ?_
  refine z_aload_n b dX12_after_9 rfl rfl ?_
  refine z_iload_n b dX12_after_10 rfl rfl ?_
  refine z_iconst (v := 3) b dX12_after_11 (by decide) ?_
  refine z_iconst (v := 0) b dX12_after_12 (by decide) ?_
  refine z_calli b (z_runV (q0 := 0) (As := [.int 4, .int 3, .int 0]) (st := []) b (c_X12_goes_11 S h_l_0 h_a_38_4) cf_X12_goes (mw_0 cy a S) rfl wm_X12_464 wi_X12_goes ws_X12_goes dX12_after_13 rfl (Nat.le_of_ble_eq_true rfl) ⟨by decide, by decide, by decide, by decide⟩) (fun r20869 u20870 h20868 => ?_)
  obtain ⟨rfl, rfl⟩ := h20868
  refine z_pop b dX12_after_16 rfl ?_
  refine z_aload_n b dX12_after_17 rfl rfl ?_
  refine z_aload_n b dX12_after_18 rfl rfl ?_
  refine z_get (q0 := 0) (k9 := 68) (v := .long 1649317774848) b (mw_0 cy a (si (sl S 2 1649317774848) 24 (-1))) rfl in_X12 (by decide) wf_X12_458 rfl dX12_after_19 ?_
  refine z_callv b (z_runV (q0 := 0) (As := [.long 1649317774848]) (st := []) b (c_X12_takes (si (sl S 2 1649317774848) 24 (-1)) h_a_4_7 h_a_1_7 h_a_4_6 h_a_1_6 h_a_3_6 h_a_3_2 h_a_2_2 h_a_0_2 h_a_4_3 h_a_1_3 h_a_4_5 h_a_1_5 h_a_3_5 h_a_3_7 h_a_2_1 h_a_0_1 h_a_4_2 h_a_1_2 h_a_4_1 h_a_1_1 h_a_3_1 h_a_3_3 h_a_2_0 h_a_0_0 h_i_0) cf_X12_takes (mw_0 cy a (si (sl S 2 1649317774848) 24 (-1))) rfl wm_X12_174 wi_X12_takes ws_X12_takes dX12_after_22 rfl (Nat.le_of_ble_eq_true rfl) ⟨by decide, by decide, by decide, by decide⟩) (fun u20873 h20871 => ?_)
  obtain rfl := h20871
  refine z_iload_n b dX12_after_25 rfl rfl ?_
  refine z_calli b (z_runS (As := [.int 46]) (st := []) b (c_X12_isOne_51 (si (sl S 2 1649317774848) 24 (-1)) ) cf_X12_isOne wm_X12_170 ws_X12_isOne dX12_after_26 rfl (Nat.le_of_ble_eq_true rfl) ⟨by decide, by decide, by decide, by decide⟩) (fun r20875 u20876 h20874 => ?_)
  obtain ⟨rfl, rfl⟩ := h20874
  refine z_if_eq_t (tgt := 39) b dX12_after_29 (by decide) (by decide) ?_
  refine z_iload_n b dX12_after_39 rfl rfl ?_
  refine z_bipush (v := 50) b dX12_after_40 (by decide) ?_
  refine z_icmp_ne_t (tgt := 50) b dX12_after_42 (by decide) (by decide) ?_
  refine z_iload_n b dX12_after_50 rfl rfl ?_
  refine z_bipush (v := 40) b dX12_after_51 (by decide) ?_
  refine z_bipush (v := 42) b dX12_after_53 (by decide) ?_
  refine z_calli b (z_runS (As := [.int 46, .int 40, .int 42]) (st := []) b (c_X12_isIn_195 (si (sl S 2 1649317774848) 24 (-1)) ) cf_X12_isIn wm_X12_1 ws_X12_isIn dX12_after_55 rfl (Nat.le_of_ble_eq_true rfl) ⟨by decide, by decide, by decide, by decide⟩) (fun r20878 u20879 h20877 => ?_)
  obtain ⟨rfl, rfl⟩ := h20877
  refine z_if_eq_t (tgt := 71) b dX12_after_58 (by decide) (by decide) ?_
  refine z_iload_n b dX12_after_71 rfl rfl ?_
  refine z_bipush (v := 10) b dX12_after_72 (by decide) ?_
  refine z_irem (v := 6) b dX12_after_74 (by decide) (by decide) ?_
  refine z_istore_n (lv' := [(3, .int 6), (0, .ref (a 0)), (1, .int 4), (2, .int 46)]) b dX12_after_75 rfl (by decide) rfl ?_
  refine z_iload_n b dX12_after_76 rfl rfl ?_
  refine z_bipush (v := 10) b dX12_after_77 (by decide) ?_
  refine z_bipush (v := 38) b dX12_after_79 (by decide) ?_
  refine z_calli b (z_runS (As := [.int 46, .int 10, .int 38]) (st := []) b (c_X12_isIn_196 (si (sl S 2 1649317774848) 24 (-1)) ) cf_X12_isIn wm_X12_1 ws_X12_isIn dX12_after_81 rfl (Nat.le_of_ble_eq_true rfl) ⟨by decide, by decide, by decide, by decide⟩) (fun r20881 u20882 h20880 => ?_)
  obtain ⟨rfl, rfl⟩ := h20880
  refine z_if_eq_t (tgt := 102) b dX12_after_84 (by decide) (by decide) ?_
  refine z_iconst (v := (-1)) b dX12_after_102 (by decide) ?_
  exact z_iret (u := (si (sl S 2 1649317774848) 24 (-1))) b rfl dX12_after_103 ⟨rfl, rfl⟩ rfl (by decide) (by decide)

set_option maxHeartbeats 4000000 in
set_option maxRecDepth 100000 in
theorem c_X11_after_268 {l : Launch} {D : va_G} {cy : Nat → ClassId} {T0 tB tE : Nat} {a : Nat → Nat} {rw : Nat → Option Nat} (S : GS)   : Ct l D cy T0 tB tE yX11_after cX11_after 3 (some .int) 2 41 0 0 (cw cy tE a rw S) [.ref (a 0), .int 4, .int 47] (QI D (U := GS) (fun r u => (-1) = r ∧ S = u) (cw cy tE a rw)) := by
  refine Ct.ofZ RX11 "after" [(0, .ref (a 0)), (1, .int 4), (2, .int 47)] rfl rfl rfl rfl (Nat.le_of_ble_eq_true rfl) ?_
  intro p e R s m args below meth c A b
  refine z_iload_n b dX11_after_0 rfl rfl ?_
  refine z_calli b (z_runS (As := [.int 4]) (st := []) b (c_X11_isRow_7 S ) cf_X11_isRow wm_X11_169 ws_X11_isRow dX11_after_1 rfl (Nat.le_of_ble_eq_true rfl) ⟨by decide, by decide, by decide, by decide⟩) (fun r20884 u20885 h20883 => ?_)
  obtain ⟨rfl, rfl⟩ := h20883
  refine z_if_eq_f (tgt := 14) b dX11_after_4 (by decide) (by decide) ?_
  refine z_iload_n b dX11_after_7 rfl rfl ?_
  refine z_calli b (z_runS (As := [.int 47]) (st := []) b (c_X9_has_50 S ) cf_X9_has wm_X11_191 ws_X9_has dX11_after_8 rfl (Nat.le_of_ble_eq_true rfl) ⟨by decide, by decide, by decide, by decide⟩) (fun r20887 u20888 h20886 => ?_)
  obtain ⟨rfl, rfl⟩ := h20886
  refine z_if_ne_f (tgt := 16) b dX11_after_11 (by decide) (by decide) ?_
  refine z_iconst (v := (-1)) b dX11_after_14 (by decide) ?_
  exact z_iret (u := S) b rfl dX11_after_15 ⟨rfl, rfl⟩ rfl (by decide) (by decide)

set_option maxHeartbeats 4000000 in
set_option maxRecDepth 100000 in
theorem c_X12_after_268 {l : Launch} {D : va_G} {cy : Nat → ClassId} {T0 tB tE : Nat} {a : Nat → Nat} (S : GS)  (h_l_0 : fl S 0 = 1649317774848) (h_a_38_4 : ar S 38 4 = 0) (h_a_4_7 : ar S 4 7 = 0) (h_a_1_7 : ar S 1 7 = 0) (h_a_4_6 : ar S 4 6 = 0) (h_a_1_6 : ar S 1 6 = 0) (h_a_3_6 : ar S 3 6 = 0) (h_a_3_2 : ar S 3 2 = 0) (h_a_2_2 : ar S 2 2 = 3) (h_a_0_2 : ar S 0 2 = 0) (h_a_4_3 : ar S 4 3 = 0) (h_a_1_3 : ar S 1 3 = 0) (h_a_4_5 : ar S 4 5 = 0) (h_a_1_5 : ar S 1 5 = 0) (h_a_3_5 : ar S 3 5 = 0) (h_a_3_7 : ar S 3 7 = 0) (h_a_2_1 : ar S 2 1 = 3) (h_a_0_1 : ar S 0 1 = 0) (h_a_4_2 : ar S 4 2 = 0) (h_a_1_2 : ar S 1 2 = 0) (h_a_4_1 : ar S 4 1 = 0) (h_a_1_1 : ar S 1 1 = 0) (h_a_3_1 : ar S 3 1 = 0) (h_a_3_3 : ar S 3 3 = 0) (h_a_2_0 : ar S 2 0 = 3) (h_a_0_0 : ar S 0 0 = 0) (h_i_0 : fi S 0 = 0) : Ct l D cy T0 tB tE yX12_after cX12_after 4 (some .int) 2 47 0 0 (mw cy a S) [.ref (a 0), .int 4, .int 47] (QI D (U := GS) (fun r u => (-1) = r ∧ (si (sl S 2 1649317774848) 24 (-1)) = u) (mw cy a)) := by
  refine Ct.ofZ RX12 "after" [(0, .ref (a 0)), (1, .int 4), (2, .int 47)] rfl rfl rfl rfl (Nat.le_of_ble_eq_true rfl) ?_
  intro p e R s m args below meth c A b
  refine z_iload_n b dX12_after_0 rfl rfl ?_
  refine z_calli b (z_runS (As := [.int 4]) (st := []) b (c_X12_isRow_7 S ) cf_X12_isRow wm_X12_452 ws_X12_isRow dX12_after_1 rfl (Nat.le_of_ble_eq_true rfl) ⟨by decide, by decide, by decide, by decide⟩) (fun r20890 u20891 h20889 => ?_)
  obtain ⟨rfl, rfl⟩ := h20889
  refine z_if_ne_t (tgt := 9) b dX12_after_4 (by decide) (by decide) ?_
  refine z_aload_n b dX12_after_9 rfl rfl ?_
  refine z_iload_n b dX12_after_10 rfl rfl ?_
  refine z_iconst (v := 3) b dX12_after_11 (by decide) ?_
  refine z_iconst (v := 0) b dX12_after_12 (by decide) ?_
  refine z_calli b (z_runV (q0 := 0) (As := [.int 4, .int 3, .int 0]) (st := []) b (c_X12_goes_11 S h_l_0 h_a_38_4) cf_X12_goes (mw_0 cy a S) rfl wm_X12_464 wi_X12_goes ws_X12_goes dX12_after_13 rfl (Nat.le_of_ble_eq_true rfl) ⟨by decide, by decide, by decide, by decide⟩) (fun r20893 u20894 h20892 => ?_)
  obtain ⟨rfl, rfl⟩ := h20892
  refine z_pop b dX12_after_16 rfl ?_
  refine z_aload_n b dX12_after_17 rfl rfl ?_
  refine z_aload_n b dX12_after_18 rfl rfl ?_
  refine z_get (q0 := 0) (k9 := 68) (v := .long 1649317774848) b (mw_0 cy a (si (sl S 2 1649317774848) 24 (-1))) rfl in_X12 (by decide) wf_X12_458 rfl dX12_after_19 ?_
  refine z_callv b (z_runV (q0 := 0) (As := [.long 1649317774848]) (st := []) b (c_X12_takes (si (sl S 2 1649317774848) 24 (-1)) h_a_4_7 h_a_1_7 h_a_4_6 h_a_1_6 h_a_3_6 h_a_3_2 h_a_2_2 h_a_0_2 h_a_4_3 h_a_1_3 h_a_4_5 h_a_1_5 h_a_3_5 h_a_3_7 h_a_2_1 h_a_0_1 h_a_4_2 h_a_1_2 h_a_4_1 h_a_1_1 h_a_3_1 h_a_3_3 h_a_2_0 h_a_0_0 h_i_0) cf_X12_takes (mw_0 cy a (si (sl S 2 1649317774848) 24 (-1))) rfl wm_X12_174 wi_X12_takes ws_X12_takes dX12_after_22 rfl (Nat.le_of_ble_eq_true rfl) ⟨by decide, by decide, by decide, by decide⟩) (fun u20897 h20895 => ?_)
  obtain rfl := h20895
  refine z_iload_n b dX12_after_25 rfl rfl ?_
  refine z_calli b (z_runS (As := [.int 47]) (st := []) b (c_X12_isOne_52 (si (sl S 2 1649317774848) 24 (-1)) ) cf_X12_isOne wm_X12_170 ws_X12_isOne dX12_after_26 rfl (Nat.le_of_ble_eq_true rfl) ⟨by decide, by decide, by decide, by decide⟩) (fun r20899 u20900 h20898 => ?_)
  obtain ⟨rfl, rfl⟩ := h20898
  refine z_if_eq_t (tgt := 39) b dX12_after_29 (by decide) (by decide) ?_
  refine z_iload_n b dX12_after_39 rfl rfl ?_
  refine z_bipush (v := 50) b dX12_after_40 (by decide) ?_
  refine z_icmp_ne_t (tgt := 50) b dX12_after_42 (by decide) (by decide) ?_
  refine z_iload_n b dX12_after_50 rfl rfl ?_
  refine z_bipush (v := 40) b dX12_after_51 (by decide) ?_
  refine z_bipush (v := 42) b dX12_after_53 (by decide) ?_
  refine z_calli b (z_runS (As := [.int 47, .int 40, .int 42]) (st := []) b (c_X12_isIn_198 (si (sl S 2 1649317774848) 24 (-1)) ) cf_X12_isIn wm_X12_1 ws_X12_isIn dX12_after_55 rfl (Nat.le_of_ble_eq_true rfl) ⟨by decide, by decide, by decide, by decide⟩) (fun r20902 u20903 h20901 => ?_)
  obtain ⟨rfl, rfl⟩ := h20901
  refine z_if_eq_t (tgt := 71) b dX12_after_58 (by decide) (by decide) ?_
  refine z_iload_n b dX12_after_71 rfl rfl ?_
  refine z_bipush (v := 10) b dX12_after_72 (by decide) ?_
  refine z_irem (v := 7) b dX12_after_74 (by decide) (by decide) ?_
  refine z_istore_n (lv' := [(3, .int 7), (0, .ref (a 0)), (1, .int 4), (2, .int 47)]) b dX12_after_75 rfl (by decide) rfl ?_
  refine z_iload_n b dX12_after_76 rfl rfl ?_
  refine z_bipush (v := 10) b dX12_after_77 (by decide) ?_
  refine z_bipush (v := 38) b dX12_after_79 (by decide) ?_
  refine z_calli b (z_runS (As := [.int 47, .int 10, .int 38]) (st := []) b (c_X12_isIn_199 (si (sl S 2 1649317774848) 24 (-1)) ) cf_X12_isIn wm_X12_1 ws_X12_isIn dX12_after_81 rfl (Nat.le_of_ble_eq_true rfl) ⟨by decide, by decide, by decide, by decide⟩) (fun r20905 u20906 h20904 => ?_)
  obtain ⟨rfl, rfl⟩ := h20904
  refine z_if_eq_t (tgt := 102) b dX12_after_84 (by decide) (by decide) ?_
  refine z_iconst (v := (-1)) b dX12_after_102 (by decide) ?_
  exact z_iret (u := (si (sl S 2 1649317774848) 24 (-1))) b rfl dX12_after_103 ⟨rfl, rfl⟩ rfl (by decide) (by decide)

set_option maxHeartbeats 4000000 in
set_option maxRecDepth 100000 in
theorem c_X11_after_269 {l : Launch} {D : va_G} {cy : Nat → ClassId} {T0 tB tE : Nat} {a : Nat → Nat} {rw : Nat → Option Nat} (S : GS)   : Ct l D cy T0 tB tE yX11_after cX11_after 3 (some .int) 2 41 0 0 (cw cy tE a rw S) [.ref (a 0), .int 4, .int 48] (QI D (U := GS) (fun r u => (-1) = r ∧ S = u) (cw cy tE a rw)) := by
  refine Ct.ofZ RX11 "after" [(0, .ref (a 0)), (1, .int 4), (2, .int 48)] rfl rfl rfl rfl (Nat.le_of_ble_eq_true rfl) ?_
  intro p e R s m args below meth c A b
  refine z_iload_n b dX11_after_0 rfl rfl ?_
  refine z_calli b (z_runS (As := [.int 4]) (st := []) b (c_X11_isRow_7 S ) cf_X11_isRow wm_X11_169 ws_X11_isRow dX11_after_1 rfl (Nat.le_of_ble_eq_true rfl) ⟨by decide, by decide, by decide, by decide⟩) (fun r20908 u20909 h20907 => ?_)
  obtain ⟨rfl, rfl⟩ := h20907
  refine z_if_eq_f (tgt := 14) b dX11_after_4 (by decide) (by decide) ?_
  refine z_iload_n b dX11_after_7 rfl rfl ?_
  refine z_calli b (z_runS (As := [.int 48]) (st := []) b (c_X9_has_51 S ) cf_X9_has wm_X11_191 ws_X9_has dX11_after_8 rfl (Nat.le_of_ble_eq_true rfl) ⟨by decide, by decide, by decide, by decide⟩) (fun r20911 u20912 h20910 => ?_)
  obtain ⟨rfl, rfl⟩ := h20910
  refine z_if_ne_f (tgt := 16) b dX11_after_11 (by decide) (by decide) ?_
  refine z_iconst (v := (-1)) b dX11_after_14 (by decide) ?_
  exact z_iret (u := S) b rfl dX11_after_15 ⟨rfl, rfl⟩ rfl (by decide) (by decide)

set_option maxHeartbeats 4000000 in
set_option maxRecDepth 100000 in
theorem c_X12_after_269 {l : Launch} {D : va_G} {cy : Nat → ClassId} {T0 tB tE : Nat} {a : Nat → Nat} (S : GS)  (h_l_0 : fl S 0 = 1649317774848) (h_a_38_4 : ar S 38 4 = 0) (h_a_4_7 : ar S 4 7 = 0) (h_a_1_7 : ar S 1 7 = 0) (h_a_4_6 : ar S 4 6 = 0) (h_a_1_6 : ar S 1 6 = 0) (h_a_3_6 : ar S 3 6 = 0) (h_a_3_2 : ar S 3 2 = 0) (h_a_2_2 : ar S 2 2 = 3) (h_a_0_2 : ar S 0 2 = 0) (h_a_4_3 : ar S 4 3 = 0) (h_a_1_3 : ar S 1 3 = 0) (h_a_4_5 : ar S 4 5 = 0) (h_a_1_5 : ar S 1 5 = 0) (h_a_3_5 : ar S 3 5 = 0) (h_a_3_7 : ar S 3 7 = 0) (h_a_2_1 : ar S 2 1 = 3) (h_a_0_1 : ar S 0 1 = 0) (h_a_4_2 : ar S 4 2 = 0) (h_a_1_2 : ar S 1 2 = 0) (h_a_4_1 : ar S 4 1 = 0) (h_a_1_1 : ar S 1 1 = 0) (h_a_3_1 : ar S 3 1 = 0) (h_a_3_3 : ar S 3 3 = 0) (h_a_2_0 : ar S 2 0 = 3) (h_a_0_0 : ar S 0 0 = 0) (h_i_0 : fi S 0 = 0) : Ct l D cy T0 tB tE yX12_after cX12_after 4 (some .int) 2 47 0 0 (mw cy a S) [.ref (a 0), .int 4, .int 48] (QI D (U := GS) (fun r u => (-1) = r ∧ (si (sl S 2 1649317774848) 24 (-1)) = u) (mw cy a)) := by
  refine Ct.ofZ RX12 "after" [(0, .ref (a 0)), (1, .int 4), (2, .int 48)] rfl rfl rfl rfl (Nat.le_of_ble_eq_true rfl) ?_
  intro p e R s m args below meth c A b
  refine z_iload_n b dX12_after_0 rfl rfl ?_
  refine z_calli b (z_runS (As := [.int 4]) (st := []) b (c_X12_isRow_7 S ) cf_X12_isRow wm_X12_452 ws_X12_isRow dX12_after_1 rfl (Nat.le_of_ble_eq_true rfl) ⟨by decide, by decide, by decide, by decide⟩) (fun r20914 u20915 h20913 => ?_)
  obtain ⟨rfl, rfl⟩ := h20913
  refine z_if_ne_t (tgt := 9) b dX12_after_4 (by decide) (by decide) ?_
  refine z_aload_n b dX12_after_9 rfl rfl ?_
  refine z_iload_n b dX12_after_10 rfl rfl ?_
  refine z_iconst (v := 3) b dX12_after_11 (by decide) ?_
  refine z_iconst (v := 0) b dX12_after_12 (by decide) ?_
  refine z_calli b (z_runV (q0 := 0) (As := [.int 4, .int 3, .int 0]) (st := []) b (c_X12_goes_11 S h_l_0 h_a_38_4) cf_X12_goes (mw_0 cy a S) rfl wm_X12_464 wi_X12_goes ws_X12_goes dX12_after_13 rfl (Nat.le_of_ble_eq_true rfl) ⟨by decide, by decide, by decide, by decide⟩) (fun r20917 u20918 h20916 => ?_)
  obtain ⟨rfl, rfl⟩ := h20916
  refine z_pop b dX12_after_16 rfl ?_
  refine z_aload_n b dX12_after_17 rfl rfl ?_
  refine z_aload_n b dX12_after_18 rfl rfl ?_
  refine z_get (q0 := 0) (k9 := 68) (v := .long 1649317774848) b (mw_0 cy a (si (sl S 2 1649317774848) 24 (-1))) rfl in_X12 (by decide) wf_X12_458 rfl dX12_after_19 ?_
  refine z_callv b (z_runV (q0 := 0) (As := [.long 1649317774848]) (st := []) b (c_X12_takes (si (sl S 2 1649317774848) 24 (-1)) h_a_4_7 h_a_1_7 h_a_4_6 h_a_1_6 h_a_3_6 h_a_3_2 h_a_2_2 h_a_0_2 h_a_4_3 h_a_1_3 h_a_4_5 h_a_1_5 h_a_3_5 h_a_3_7 h_a_2_1 h_a_0_1 h_a_4_2 h_a_1_2 h_a_4_1 h_a_1_1 h_a_3_1 h_a_3_3 h_a_2_0 h_a_0_0 h_i_0) cf_X12_takes (mw_0 cy a (si (sl S 2 1649317774848) 24 (-1))) rfl wm_X12_174 wi_X12_takes ws_X12_takes dX12_after_22 rfl (Nat.le_of_ble_eq_true rfl) ⟨by decide, by decide, by decide, by decide⟩) (fun u20921 h20919 => ?_)
  obtain rfl := h20919
  refine z_iload_n b dX12_after_25 rfl rfl ?_
  refine z_calli b (z_runS (As := [.int 48]) (st := []) b (c_X12_isOne_53 (si (sl S 2 1649317774848) 24 (-1)) ) cf_X12_isOne wm_X12_170 ws_X12_isOne dX12_after_26 rfl (Nat.le_of_ble_eq_true rfl) ⟨by decide, by decide, by decide, by decide⟩) (fun r20923 u20924 h20922 => ?_)
  obtain ⟨rfl, rfl⟩ := h20922
  refine z_if_eq_t (tgt := 39) b dX12_after_29 (by decide) (by decide) ?_
  refine z_iload_n b dX12_after_39 rfl rfl ?_
  refine z_bipush (v := 50) b dX12_after_40 (by decide) ?_
  refine z_icmp_ne_t (tgt := 50) b dX12_after_42 (by decide) (by decide) ?_
  refine z_iload_n b dX12_after_50 rfl rfl ?_
  refine z_bipush (v := 40) b dX12_after_51 (by decide) ?_
  refine z_bipush (v := 42) b dX12_after_53 (by decide) ?_
  refine z_calli b (z_runS (As := [.int 48, .int 40, .int 42]) (st := []) b (c_X12_isIn_201 (si (sl S 2 1649317774848) 24 (-1)) ) cf_X12_isIn wm_X12_1 ws_X12_isIn dX12_after_55 rfl (Nat.le_of_ble_eq_true rfl) ⟨by decide, by decide, by decide, by decide⟩) (fun r20926 u20927 h20925 => ?_)
  obtain ⟨rfl, rfl⟩ := h20925
  refine z_if_eq_t (tgt := 71) b dX12_after_58 (by decide) (by decide) ?_
  refine z_iload_n b dX12_after_71 rfl rfl ?_
  refine z_bipush (v := 10) b dX12_after_72 (by decide) ?_
  refine z_irem (v := 8) b dX12_after_74 (by decide) (by decide) ?_
  refine z_istore_n (lv' := [(3, .int 8), (0, .ref (a 0)), (1, .int 4), (2, .int 48)]) b dX12_after_75 rfl (by decide) rfl ?_
  refine z_iload_n b dX12_after_76 rfl rfl ?_
  refine z_bipush (v := 10) b dX12_after_77 (by decide) ?_
  refine z_bipush (v := 38) b dX12_after_79 (by decide) ?_
  refine z_calli b (z_runS (As := [.int 48, .int 10, .int 38]) (st := []) b (c_X12_isIn_202 (si (sl S 2 1649317774848) 24 (-1)) ) cf_X12_isIn wm_X12_1 ws_X12_isIn dX12_after_81 rfl (Nat.le_of_ble_eq_true rfl) ⟨by decide, by decide, by decide, by decide⟩) (fun r20929 u20930 h20928 => ?_)
  obtain ⟨rfl, rfl⟩ := h20928
  refine z_if_eq_t (tgt := 102) b dX12_after_84 (by decide) (by decide) ?_
  refine z_iconst (v := (-1)) b dX12_after_102 (by decide) ?_
  exact z_iret (u := (si (sl S 2 1649317774848) 24 (-1))) b rfl dX12_after_103 ⟨rfl, rfl⟩ rfl (by decide) (by decide)

set_option maxHeartbeats 4000000 in
set_option maxRecDepth 100000 in
theorem c_X11_after_270 {l : Launch} {D : va_G} {cy : Nat → ClassId} {T0 tB tE : Nat} {a : Nat → Nat} {rw : Nat → Option Nat} (S : GS)   : Ct l D cy T0 tB tE yX11_after cX11_after 3 (some .int) 2 41 0 0 (cw cy tE a rw S) [.ref (a 0), .int 4, .int 49] (QI D (U := GS) (fun r u => (-1) = r ∧ S = u) (cw cy tE a rw)) := by
  refine Ct.ofZ RX11 "after" [(0, .ref (a 0)), (1, .int 4), (2, .int 49)] rfl rfl rfl rfl (Nat.le_of_ble_eq_true rfl) ?_
  intro p e R s m args below meth c A b
  refine z_iload_n b dX11_after_0 rfl rfl ?_
  refine z_calli b (z_runS (As := [.int 4]) (st := []) b (c_X11_isRow_7 S ) cf_X11_isRow wm_X11_169 ws_X11_isRow dX11_after_1 rfl (Nat.le_of_ble_eq_true rfl) ⟨by decide, by decide, by decide, by decide⟩) (fun r20932 u20933 h20931 => ?_)
  obtain ⟨rfl, rfl⟩ := h20931
  refine z_if_eq_f (tgt := 14) b dX11_after_4 (by decide) (by decide) ?_
  refine z_iload_n b dX11_after_7 rfl rfl ?_
  refine z_calli b (z_runS (As := [.int 49]) (st := []) b (c_X9_has_52 S ) cf_X9_has wm_X11_191 ws_X9_has dX11_after_8 rfl (Nat.le_of_ble_eq_true rfl) ⟨by decide, by decide, by decide, by decide⟩) (fun r20935 u20936 h20934 => ?_)
  obtain ⟨rfl, rfl⟩ := h20934
  refine z_if_ne_f (tgt := 16) b dX11_after_11 (by decide) (by decide) ?_
  refine z_iconst (v := (-1)) b dX11_after_14 (by decide) ?_
  exact z_iret (u := S) b rfl dX11_after_15 ⟨rfl, rfl⟩ rfl (by decide) (by decide)

set_option maxHeartbeats 4000000 in
set_option maxRecDepth 100000 in
theorem c_X12_after_270 {l : Launch} {D : va_G} {cy : Nat → ClassId} {T0 tB tE : Nat} {a : Nat → Nat} (S : GS)  (h_l_0 : fl S 0 = 1649317774848) (h_a_38_4 : ar S 38 4 = 0) (h_a_4_7 : ar S 4 7 = 0) (h_a_1_7 : ar S 1 7 = 0) (h_a_4_6 : ar S 4 6 = 0) (h_a_1_6 : ar S 1 6 = 0) (h_a_3_6 : ar S 3 6 = 0) (h_a_3_2 : ar S 3 2 = 0) (h_a_2_2 : ar S 2 2 = 3) (h_a_0_2 : ar S 0 2 = 0) (h_a_4_3 : ar S 4 3 = 0) (h_a_1_3 : ar S 1 3 = 0) (h_a_4_5 : ar S 4 5 = 0) (h_a_1_5 : ar S 1 5 = 0) (h_a_3_5 : ar S 3 5 = 0) (h_a_3_7 : ar S 3 7 = 0) (h_a_2_1 : ar S 2 1 = 3) (h_a_0_1 : ar S 0 1 = 0) (h_a_4_2 : ar S 4 2 = 0) (h_a_1_2 : ar S 1 2 = 0) (h_a_4_1 : ar S 4 1 = 0) (h_a_1_1 : ar S 1 1 = 0) (h_a_3_1 : ar S 3 1 = 0) (h_a_3_3 : ar S 3 3 = 0) (h_a_2_0 : ar S 2 0 = 3) (h_a_0_0 : ar S 0 0 = 0) (h_i_0 : fi S 0 = 0) : Ct l D cy T0 tB tE yX12_after cX12_after 4 (some .int) 2 47 0 0 (mw cy a S) [.ref (a 0), .int 4, .int 49] (QI D (U := GS) (fun r u => (-1) = r ∧ (si (sl S 2 1649317774848) 24 (-1)) = u) (mw cy a)) := by
  refine Ct.ofZ RX12 "after" [(0, .ref (a 0)), (1, .int 4), (2, .int 49)] rfl rfl rfl rfl (Nat.le_of_ble_eq_true rfl) ?_
  intro p e R s m args below meth c A b
  refine z_iload_n b dX12_after_0 rfl rfl ?_
  refine z_calli b (z_runS (As := [.int 4]) (st := []) b (c_X12_isRow_7 S ) cf_X12_isRow wm_X12_452 ws_X12_isRow dX12_after_1 rfl (Nat.le_of_ble_eq_true rfl) ⟨by decide, by decide, by decide, by decide⟩) (fun r20938 u20939 h20937 => ?_)
  obtain ⟨rfl, rfl⟩ := h20937
  refine z_if_ne_t (tgt := 9) b dX12_after_4 (by decide) (by decide) ?_
  refine z_aload_n b dX12_after_9 rfl rfl ?_
  refine z_iload_n b dX12_after_10 rfl rfl ?_
  refine z_iconst (v := 3) b dX12_after_11 (by decide) ?_
  refine z_iconst (v := 0) b dX12_after_12 (by decide) ?_
  refine z_calli b (z_runV (q0 := 0) (As := [.int 4, .int 3, .int 0]) (st := []) b (c_X12_goes_11 S h_l_0 h_a_38_4) cf_X12_goes (mw_0 cy a S) rfl wm_X12_464 wi_X12_goes ws_X12_goes dX12_after_13 rfl (Nat.le_of_ble_eq_true rfl) ⟨by decide, by decide, by decide, by decide⟩) (fun r20941 u20942 h20940 => ?_)
  obtain ⟨rfl, rfl⟩ := h20940
  refine z_pop b dX12_after_16 rfl ?_
  refine z_aload_n b dX12_after_17 rfl rfl ?_
  refine z_aload_n b dX12_after_18 rfl rfl ?_
  refine z_get (q0 := 0) (k9 := 68) (v := .long 1649317774848) b (mw_0 cy a (si (sl S 2 1649317774848) 24 (-1))) rfl in_X12 (by decide) wf_X12_458 rfl dX12_after_19 ?_
  refine z_callv b (z_runV (q0 := 0) (As := [.long 1649317774848]) (st := []) b (c_X12_takes (si (sl S 2 1649317774848) 24 (-1)) h_a_4_7 h_a_1_7 h_a_4_6 h_a_1_6 h_a_3_6 h_a_3_2 h_a_2_2 h_a_0_2 h_a_4_3 h_a_1_3 h_a_4_5 h_a_1_5 h_a_3_5 h_a_3_7 h_a_2_1 h_a_0_1 h_a_4_2 h_a_1_2 h_a_4_1 h_a_1_1 h_a_3_1 h_a_3_3 h_a_2_0 h_a_0_0 h_i_0) cf_X12_takes (mw_0 cy a (si (sl S 2 1649317774848) 24 (-1))) rfl wm_X12_174 wi_X12_takes ws_X12_takes dX12_after_22 rfl (Nat.le_of_ble_eq_true rfl) ⟨by decide, by decide, by decide, by decide⟩) (fun u20945 h20943 => ?_)
  obtain rfl := h20943
  refine z_iload_n b dX12_after_25 rfl rfl ?_
  refine z_calli b (z_runS (As := [.int 49]) (st := []) b (c_X12_isOne_54 (si (sl S 2 1649317774848) 24 (-1)) ) cf_X12_isOne wm_X12_170 ws_X12_isOne dX12_after_26 rfl (Nat.le_of_ble_eq_true rfl) ⟨by decide, by decide, by decide, by decide⟩) (fun r20947 u20948 h20946 => ?_)
  obtain ⟨rfl, rfl⟩ := h20946
  refine z_if_eq_t (tgt := 39) b dX12_after_29 (by decide) (by decide) ?_
  refine z_iload_n b dX12_after_39 rfl rfl ?_
  refine z_bipush (v := 50) b dX12_after_40 (by decide) ?_
  refine z_icmp_ne_t (tgt := 50) b dX12_after_42 (by decide) (by decide) ?_
  refine z_iload_n b dX12_after_50 rfl rfl ?_
  refine z_bipush (v := 40) b dX12_after_51 (by decide) ?_
  refine z_bipush (v := 42) b dX12_after_53 (by decide) ?_
  refine z_calli b (z_runS (As := [.int 49, .int 40, .int 42]) (st := []) b (c_X12_isIn_204 (si (sl S 2 1649317774848) 24 (-1)) ) cf_X12_isIn wm_X12_1 ws_X12_isIn dX12_after_55 rfl (Nat.le_of_ble_eq_true rfl) ⟨by decide, by decide, by decide, by decide⟩) (fun r20950 u20951 h20949 => ?_)
  obtain ⟨rfl, rfl⟩ := h20949
  refine z_if_eq_t (tgt := 71) b dX12_after_58 (by decide) (by decide) ?_
  refine z_iload_n b dX12_after_71 rfl rfl ?_
  refine z_bipush (v := 10) b dX12_after_72 (by decide) ?_
  refine z_irem (v := 9) b dX12_after_74 (by decide) (by decide) ?_
  refine z_istore_n (lv' := [(3, .int 9), (0, .ref (a 0)), (1, .int 4), (2, .int 49)]) b dX12_after_75 rfl (by decide) rfl ?_
  refine z_iload_n b dX12_after_76 rfl rfl ?_
  refine z_bipush (v := 10) b dX12_after_77 (by decide) ?_
  refine z_bipush (v := 38) b dX12_after_79 (by decide) ?_
  refine z_calli b (z_runS (As := [.int 49, .int 10, .int 38]) (st := []) b (c_X12_isIn_205 (si (sl S 2 1649317774848) 24 (-1)) ) cf_X12_isIn wm_X12_1 ws_X12_isIn dX12_after_81 rfl (Nat.le_of_ble_eq_true rfl) ⟨by decide, by decide, by decide, by decide⟩) (fun r20953 u20954 h20952 => ?_)
  obtain ⟨rfl, rfl⟩ := h20952
  refine z_if_eq_t (tgt := 102) b dX12_after_84 (by decide) (by decide) ?_
  refine z_iconst (v := (-1)) b dX12_after_102 (by decide) ?_
  exact z_iret (u := (si (sl S 2 1649317774848) 24 (-1))) b rfl dX12_after_103 ⟨rfl, rfl⟩ rfl (by decide) (by decide)

set_option maxHeartbeats 4000000 in
set_option maxRecDepth 100000 in
theorem c_X11_after_271 {l : Launch} {D : va_G} {cy : Nat → ClassId} {T0 tB tE : Nat} {a : Nat → Nat} {rw : Nat → Option Nat} (S : GS)  (h_i_14 : fi S 14 = (-1)) (h_i_35 : fi S 35 = 0) (h_a_4_50 : ar S 4 50 = 0) (hrw : ∀ i, i < 6 → rw i = some (a (36 + 2 * i))) : Ct l D cy T0 tB tE yX11_after cX11_after 3 (some .int) 3 86 0 0 (cw cy tE a rw S) [.ref (a 0), .int 4, .int 50] (QI D (U := GS) (fun r u => 0 = r ∧ (sa S 8 (va_cpy (ar S 4) (ar S 8) 0 0 51)) = u) (cw cy tE a rw)) := by
  refine Ct.ofZ RX11 "after" [(0, .ref (a 0)), (1, .int 4), (2, .int 50)] rfl rfl rfl rfl (Nat.le_of_ble_eq_true rfl) ?_
  intro p e R s m args below meth c A b
  refine z_iload_n b dX11_after_0 rfl rfl ?_
  refine z_calli b (z_runS (As := [.int 4]) (st := []) b (c_X11_isRow_7 S ) cf_X11_isRow wm_X11_169 ws_X11_isRow dX11_after_1 rfl (Nat.le_of_ble_eq_true rfl) ⟨by decide, by decide, by decide, by decide⟩) (fun r20956 u20957 h20955 => ?_)
  obtain ⟨rfl, rfl⟩ := h20955
  refine z_if_eq_f (tgt := 14) b dX11_after_4 (by decide) (by decide) ?_
  refine z_iload_n b dX11_after_7 rfl rfl ?_
  refine z_calli b (z_runS (As := [.int 50]) (st := []) b (c_X9_has_53 S ) cf_X9_has wm_X11_191 ws_X9_has dX11_after_8 rfl (Nat.le_of_ble_eq_true rfl) ⟨by decide, by decide, by decide, by decide⟩) (fun r20959 u20960 h20958 => ?_)
  obtain ⟨rfl, rfl⟩ := h20958
  refine z_if_ne_t (tgt := 16) b dX11_after_11 (by decide) (by decide) ?_
  refine z_aload_n b dX11_after_16 rfl rfl ?_
  refine z_get (q0 := 0) (k9 := 5) (v := .ref (a 16)) b (cw_0 cy tE a rw S) rfl in_X11 (by decide) wf_X11_43 rfl dX11_after_17 ?_
  refine z_aload_n b dX11_after_20 rfl rfl ?_
  refine z_get (q0 := 0) (k9 := 7) (v := .ref (a 35)) b (cw_0 cy tE a rw S) rfl in_X11 (by decide) wf_X11_58 rfl dX11_after_21 ?_
  refine z_iload_n b dX11_after_24 rfl rfl ?_
  refine y_aald (q0 := 35) (t0 := 4) (j := 4) (v := .ref (a 44)) b (cw_35 cy tE a rw S) rfl (by decide) (by rw [hrw 4 (by decide)]; rfl) dX11_after_25 ?_
  refine z_aload_n b dX11_after_26 rfl rfl ?_
  refine z_get (q0 := 0) (k9 := 4) (v := .ref (a 14)) b (cw_0 cy tE a rw S) rfl in_X11 (by decide) wf_X11_34 rfl dX11_after_27 ?_
  refine z_iconst (v := 3) b dX11_after_30 (by decide) ?_
  refine z_iconst (v := 0) b dX11_after_31 (by decide) ?_
  refine z_calli b (z_runV (q0 := 16) (As := [.ref (a 44), .ref (a 14), .int 3, .int 0]) (st := []) b (c_X2_follow_11 S h_i_14 h_i_35) cf_X2_follow (cw_16 cy tE a rw S) rfl wm_X11_184 wi_X2_follow ws_X2_follow dX11_after_32 rfl (Nat.le_of_ble_eq_true rfl) ⟨by decide, by decide, by decide, by decide⟩) (fun r20962 u20963 h20961 => ?_)
  obtain ⟨rfl, rfl⟩ := h20961
  refine z_pop b dX11_after_35 rfl ?_
  refine z_aload_n b dX11_after_36 rfl rfl ?_
  refine z_get (q0 := 0) (k9 := 5) (v := .ref (a 16)) b (cw_0 cy tE a rw (sa S 8 (va_cpy (ar S 4) (ar S 8) 0 0 51))) rfl in_X11 (by decide) wf_X11_43 rfl dX11_after_37 ?_
  refine z_get (q0 := 16) (k9 := 3) (v := .ref (a 23)) b (cw_16 cy tE a rw (sa S 8 (va_cpy (ar S 4) (ar S 8) 0 0 51))) rfl in_X2 (by decide) wf_X11_194 rfl dX11_after_40 ?_
  refine z_iload_n b dX11_after_43 rfl rfl ?_
  refine z_calli b (z_runV (q0 := 23) (As := [.int 50]) (st := []) b (c_X9_get_34 (sa S 8 (va_cpy (ar S 4) (ar S 8) 0 0 51)) h_a_4_50) cf_X9_get (cw_23 cy tE a rw (sa S 8 (va_cpy (ar S 4) (ar S 8) 0 0 51))) rfl wm_X11_197 wi_X9_get ws_X9_get dX11_after_44 rfl (Nat.le_of_ble_eq_true rfl) ⟨by decide, by decide, by decide, by decide⟩) (fun r20965 u20966 h20964 => ?_)
  obtain ⟨rfl, rfl⟩ := h20964
  exact z_iret (u := (sa S 8 (va_cpy (ar S 4) (ar S 8) 0 0 51))) b rfl dX11_after_47 ⟨rfl, rfl⟩ rfl (by decide) (by decide)

set_option maxHeartbeats 4000000 in
set_option maxRecDepth 100000 in
theorem c_X12_after_271 {l : Launch} {D : va_G} {cy : Nat → ClassId} {T0 tB tE : Nat} {a : Nat → Nat} (S : GS)  (h_l_0 : fl S 0 = 1649317774848) (h_a_38_4 : ar S 38 4 = 0) (h_a_4_7 : ar S 4 7 = 0) (h_a_1_7 : ar S 1 7 = 0) (h_a_4_6 : ar S 4 6 = 0) (h_a_1_6 : ar S 1 6 = 0) (h_a_3_6 : ar S 3 6 = 0) (h_a_3_2 : ar S 3 2 = 0) (h_a_2_2 : ar S 2 2 = 3) (h_a_0_2 : ar S 0 2 = 0) (h_a_4_3 : ar S 4 3 = 0) (h_a_1_3 : ar S 1 3 = 0) (h_a_4_5 : ar S 4 5 = 0) (h_a_1_5 : ar S 1 5 = 0) (h_a_3_5 : ar S 3 5 = 0) (h_a_3_7 : ar S 3 7 = 0) (h_a_2_1 : ar S 2 1 = 3) (h_a_0_1 : ar S 0 1 = 0) (h_a_4_2 : ar S 4 2 = 0) (h_a_1_2 : ar S 1 2 = 0) (h_a_4_1 : ar S 4 1 = 0) (h_a_1_1 : ar S 1 1 = 0) (h_a_3_1 : ar S 3 1 = 0) (h_a_3_3 : ar S 3 3 = 0) (h_a_2_0 : ar S 2 0 = 3) (h_a_0_0 : ar S 0 0 = 0) (h_i_0 : fi S 0 = 0) : Ct l D cy T0 tB tE yX12_after cX12_after 4 (some .int) 2 47 0 0 (mw cy a S) [.ref (a 0), .int 4, .int 50] (QI D (U := GS) (fun r u => 0 = r ∧ (si (sl S 2 1649317774848) 24 (-1)) = u) (mw cy a)) := by
  refine Ct.ofZ RX12 "after" [(0, .ref (a 0)), (1, .int 4), (2, .int 50)] rfl rfl rfl rfl (Nat.le_of_ble_eq_true rfl) ?_
  intro p e R s m args below meth c A b
  refine z_iload_n b dX12_after_0 rfl rfl ?_
  refine z_calli b (z_runS (As := [.int 4]) (st := []) b (c_X12_isRow_7 S ) cf_X12_isRow wm_X12_452 ws_X12_isRow dX12_after_1 rfl (Nat.le_of_ble_eq_true rfl) ⟨by decide, by decide, by decide, by decide⟩) (fun r20968 u20969 h20967 => ?_)
  obtain ⟨rfl, rfl⟩ := h20967
  refine z_if_ne_t (tgt := 9) b dX12_after_4 (by decide) (by decide) ?_
  refine z_aload_n b dX12_after_9 rfl rfl ?_
  refine z_iload_n b dX12_after_10 rfl rfl ?_
  refine z_iconst (v := 3) b dX12_after_11 (by decide) ?_
  refine z_iconst (v := 0) b dX12_after_12 (by decide) ?_
  refine z_calli b (z_runV (q0 := 0) (As := [.int 4, .int 3, .int 0]) (st := []) b (c_X12_goes_11 S h_l_0 h_a_38_4) cf_X12_goes (mw_0 cy a S) rfl wm_X12_464 wi_X12_goes ws_X12_goes dX12_after_13 rfl (Nat.le_of_ble_eq_true rfl) ⟨by decide, by decide, by decide, by decide⟩) (fun r20971 u20972 h20970 => ?_)
  obtain ⟨rfl, rfl⟩ := h20970
  refine z_pop b dX12_after_16 rfl ?_
  refine z_aload_n b dX12_after_17 rfl rfl ?_
  refine z_aload_n b dX12_after_18 rfl rfl ?_
  refine z_get (q0 := 0) (k9 := 68) (v := .long 1649317774848) b (mw_0 cy a (si (sl S 2 1649317774848) 24 (-1))) rfl in_X12 (by decide) wf_X12_458 rfl dX12_after_19 ?_
  refine z_callv b (z_runV (q0 := 0) (As := [.long 1649317774848]) (st := []) b (c_X12_takes (si (sl S 2 1649317774848) 24 (-1)) h_a_4_7 h_a_1_7 h_a_4_6 h_a_1_6 h_a_3_6 h_a_3_2 h_a_2_2 h_a_0_2 h_a_4_3 h_a_1_3 h_a_4_5 h_a_1_5 h_a_3_5 h_a_3_7 h_a_2_1 h_a_0_1 h_a_4_2 h_a_1_2 h_a_4_1 h_a_1_1 h_a_3_1 h_a_3_3 h_a_2_0 h_a_0_0 h_i_0) cf_X12_takes (mw_0 cy a (si (sl S 2 1649317774848) 24 (-1))) rfl wm_X12_174 wi_X12_takes ws_X12_takes dX12_after_22 rfl (Nat.le_of_ble_eq_true rfl) ⟨by decide, by decide, by decide, by decide⟩) (fun u20975 h20973 => ?_)
  obtain rfl := h20973
  refine z_iload_n b dX12_after_25 rfl rfl ?_
  refine z_calli b (z_runS (As := [.int 50]) (st := []) b (c_X12_isOne_55 (si (sl S 2 1649317774848) 24 (-1)) ) cf_X12_isOne wm_X12_170 ws_X12_isOne dX12_after_26 rfl (Nat.le_of_ble_eq_true rfl) ⟨by decide, by decide, by decide, by decide⟩) (fun r20977 u20978 h20976 => ?_)
  obtain ⟨rfl, rfl⟩ := h20976
  refine z_if_eq_t (tgt := 39) b dX12_after_29 (by decide) (by decide) ?_
  refine z_iload_n b dX12_after_39 rfl rfl ?_
  refine z_bipush (v := 50) b dX12_after_40 (by decide) ?_
  refine z_icmp_ne_f (tgt := 50) b dX12_after_42 (by decide) (by decide) ?_
  refine z_aload_n b dX12_after_45 rfl rfl ?_
  refine z_get (q0 := 0) (k9 := 5) (v := .int (fi (si (sl S 2 1649317774848) 24 (-1)) 0)) b (mw_0 cy a (si (sl S 2 1649317774848) 24 (-1))) rfl in_X12 (by decide) wf_X12_157 rfl dX12_after_46 ?_
  refine z_eqi h_i_0 ?_
  exact z_iret (u := (si (sl S 2 1649317774848) 24 (-1))) b rfl dX12_after_49 ⟨rfl, rfl⟩ rfl (by decide) (by decide)

set_option maxHeartbeats 4000000 in
set_option maxRecDepth 100000 in
theorem c_X11_after_272 {l : Launch} {D : va_G} {cy : Nat → ClassId} {T0 tB tE : Nat} {a : Nat → Nat} {rw : Nat → Option Nat} (S : GS) (p0 : Int32)  (hr_p0 : 51 ≤ p0.toInt ∧ p0.toInt ≤ 2147483647) : Ct l D cy T0 tB tE yX11_after cX11_after 3 (some .int) 2 41 0 0 (cw cy tE a rw S) [.ref (a 0), .int 4, .int p0] (QI D (U := GS) (fun r u => (-1) = r ∧ S = u) (cw cy tE a rw)) := by
  refine Ct.ofZ RX11 "after" [(0, .ref (a 0)), (1, .int 4), (2, .int p0)] rfl rfl rfl rfl (Nat.le_of_ble_eq_true rfl) ?_
  intro p e R s m args below meth c A b
  refine z_iload_n b dX11_after_0 rfl rfl ?_
  refine z_calli b (z_runS (As := [.int 4]) (st := []) b (c_X11_isRow_7 S ) cf_X11_isRow wm_X11_169 ws_X11_isRow dX11_after_1 rfl (Nat.le_of_ble_eq_true rfl) ⟨by decide, by decide, by decide, by decide⟩) (fun r20980 u20981 h20979 => ?_)
  obtain ⟨rfl, rfl⟩ := h20979
  refine z_if_eq_f (tgt := 14) b dX11_after_4 (by decide) (by decide) ?_
  refine z_iload_n b dX11_after_7 rfl rfl ?_
  refine z_calli b (z_runS (As := [.int p0]) (st := []) b (c_X9_has_54 S p0 ⟨by omega, by omega⟩) cf_X9_has wm_X11_191 ws_X9_has dX11_after_8 rfl (Nat.le_of_ble_eq_true rfl) ⟨by decide, by decide, by decide, by decide⟩) (fun r20983 u20984 h20982 => ?_)
  obtain ⟨rfl, rfl⟩ := h20982
  refine z_if_ne_f (tgt := 16) b dX11_after_11 (by decide) (by decide) ?_
  refine z_iconst (v := (-1)) b dX11_after_14 (by decide) ?_
  exact z_iret (u := S) b rfl dX11_after_15 ⟨rfl, rfl⟩ rfl (by decide) (by decide)

set_option maxHeartbeats 4000000 in
set_option maxRecDepth 100000 in
theorem c_X12_after_272 {l : Launch} {D : va_G} {cy : Nat → ClassId} {T0 tB tE : Nat} {a : Nat → Nat} (S : GS) (p0 : Int32) (h_l_0 : fl S 0 = 1649317774848) (h_a_38_4 : ar S 38 4 = 0) (h_a_4_7 : ar S 4 7 = 0) (h_a_1_7 : ar S 1 7 = 0) (h_a_4_6 : ar S 4 6 = 0) (h_a_1_6 : ar S 1 6 = 0) (h_a_3_6 : ar S 3 6 = 0) (h_a_3_2 : ar S 3 2 = 0) (h_a_2_2 : ar S 2 2 = 3) (h_a_0_2 : ar S 0 2 = 0) (h_a_4_3 : ar S 4 3 = 0) (h_a_1_3 : ar S 1 3 = 0) (h_a_4_5 : ar S 4 5 = 0) (h_a_1_5 : ar S 1 5 = 0) (h_a_3_5 : ar S 3 5 = 0) (h_a_3_7 : ar S 3 7 = 0) (h_a_2_1 : ar S 2 1 = 3) (h_a_0_1 : ar S 0 1 = 0) (h_a_4_2 : ar S 4 2 = 0) (h_a_1_2 : ar S 1 2 = 0) (h_a_4_1 : ar S 4 1 = 0) (h_a_1_1 : ar S 1 1 = 0) (h_a_3_1 : ar S 3 1 = 0) (h_a_3_3 : ar S 3 3 = 0) (h_a_2_0 : ar S 2 0 = 3) (h_a_0_0 : ar S 0 0 = 0) (h_i_0 : fi S 0 = 0) (hr_p0 : 51 ≤ p0.toInt ∧ p0.toInt ≤ 2147483647) : Ct l D cy T0 tB tE yX12_after cX12_after 4 (some .int) 2 47 0 0 (mw cy a S) [.ref (a 0), .int 4, .int p0] (QI D (U := GS) (fun r u => (-1) = r ∧ (si (sl S 2 1649317774848) 24 (-1)) = u) (mw cy a)) := by
  refine Ct.ofZ RX12 "after" [(0, .ref (a 0)), (1, .int 4), (2, .int p0)] rfl rfl rfl rfl (Nat.le_of_ble_eq_true rfl) ?_
  intro p e R s m args below meth c A b
  refine z_iload_n b dX12_after_0 rfl rfl ?_
  refine z_calli b (z_runS (As := [.int 4]) (st := []) b (c_X12_isRow_7 S ) cf_X12_isRow wm_X12_452 ws_X12_isRow dX12_after_1 rfl (Nat.le_of_ble_eq_true rfl) ⟨by decide, by decide, by decide, by decide⟩) (fun r20986 u20987 h20985 => ?_)
  obtain ⟨rfl, rfl⟩ := h20985
  refine z_if_ne_t (tgt := 9) b dX12_after_4 (by decide) (by decide) ?_
  refine z_aload_n b dX12_after_9 rfl rfl ?_
  refine z_iload_n b dX12_after_10 rfl rfl ?_
  refine z_iconst (v := 3) b dX12_after_11 (by decide) ?_
  refine z_iconst (v := 0) b dX12_after_12 (by decide) ?_
  refine z_calli b (z_runV (q0 := 0) (As := [.int 4, .int 3, .int 0]) (st := []) b (c_X12_goes_11 S h_l_0 h_a_38_4) cf_X12_goes (mw_0 cy a S) rfl wm_X12_464 wi_X12_goes ws_X12_goes dX12_after_13 rfl (Nat.le_of_ble_eq_true rfl) ⟨by decide, by decide, by decide, by decide⟩) (fun r20989 u20990 h20988 => ?_)
  obtain ⟨rfl, rfl⟩ := h20988
  refine z_pop b dX12_after_16 rfl ?_
  refine z_aload_n b dX12_after_17 rfl rfl ?_
  refine z_aload_n b dX12_after_18 rfl rfl ?_
  refine z_get (q0 := 0) (k9 := 68) (v := .long 1649317774848) b (mw_0 cy a (si (sl S 2 1649317774848) 24 (-1))) rfl in_X12 (by decide) wf_X12_458 rfl dX12_after_19 ?_
  refine z_callv b (z_runV (q0 := 0) (As := [.long 1649317774848]) (st := []) b (c_X12_takes (si (sl S 2 1649317774848) 24 (-1)) h_a_4_7 h_a_1_7 h_a_4_6 h_a_1_6 h_a_3_6 h_a_3_2 h_a_2_2 h_a_0_2 h_a_4_3 h_a_1_3 h_a_4_5 h_a_1_5 h_a_3_5 h_a_3_7 h_a_2_1 h_a_0_1 h_a_4_2 h_a_1_2 h_a_4_1 h_a_1_1 h_a_3_1 h_a_3_3 h_a_2_0 h_a_0_0 h_i_0) cf_X12_takes (mw_0 cy a (si (sl S 2 1649317774848) 24 (-1))) rfl wm_X12_174 wi_X12_takes ws_X12_takes dX12_after_22 rfl (Nat.le_of_ble_eq_true rfl) ⟨by decide, by decide, by decide, by decide⟩) (fun u20993 h20991 => ?_)
  obtain rfl := h20991
  refine z_iload_n b dX12_after_25 rfl rfl ?_
  refine z_calli b (z_runS (As := [.int p0]) (st := []) b (c_X12_isOne_56 (si (sl S 2 1649317774848) 24 (-1)) p0 ⟨by omega, by omega⟩) cf_X12_isOne wm_X12_170 ws_X12_isOne dX12_after_26 rfl (Nat.le_of_ble_eq_true rfl) ⟨by decide, by decide, by decide, by decide⟩) (fun r20995 u20996 h20994 => ?_)
  obtain ⟨rfl, rfl⟩ := h20994
  refine z_if_eq_t (tgt := 39) b dX12_after_29 (by decide) (by decide) ?_
  refine z_iload_n b dX12_after_39 rfl rfl ?_
  refine z_bipush (v := 50) b dX12_after_40 (by decide) ?_
  refine y_icmp_ne (tgt := 50) (xl := p0.toInt) (yl := 50) b rfl (by decide) dX12_after_42 (by decide) (fun c20997 => ?_) (fun c20997 => ?_)
  · refine z_iload_n b dX12_after_50 rfl rfl ?_
    refine z_bipush (v := 40) b dX12_after_51 (by decide) ?_
    refine z_bipush (v := 42) b dX12_after_53 (by decide) ?_
    refine z_calli b (z_runS (As := [.int p0, .int 40, .int 42]) (st := []) b (c_X12_isIn_208 (si (sl S 2 1649317774848) 24 (-1)) p0 ⟨by omega, by omega⟩) cf_X12_isIn wm_X12_1 ws_X12_isIn dX12_after_55 rfl (Nat.le_of_ble_eq_true rfl) ⟨by decide, by decide, by decide, by decide⟩) (fun r20999 u21000 h20998 => ?_)
    obtain ⟨rfl, rfl⟩ := h20998
    refine z_if_eq_t (tgt := 71) b dX12_after_58 (by decide) (by decide) ?_
    refine z_iload_n b dX12_after_71 rfl rfl ?_
    refine z_bipush (v := 10) b dX12_after_72 (by decide) ?_
    refine z_irem b dX12_after_74 (by decide) rfl ?_
    refine z_istore_n (lv' := [(3, .int (p0 - p0 / 10 * 10)), (0, .ref (a 0)), (1, .int 4), (2, .int p0)]) b dX12_after_75 rfl (by decide) rfl ?_
    refine z_iload_n b dX12_after_76 rfl rfl ?_
    refine z_bipush (v := 10) b dX12_after_77 (by decide) ?_
    refine z_bipush (v := 38) b dX12_after_79 (by decide) ?_
    refine z_calli b (z_runS (As := [.int p0, .int 10, .int 38]) (st := []) b (c_X12_isIn_209 (si (sl S 2 1649317774848) 24 (-1)) p0 ⟨by omega, by omega⟩) cf_X12_isIn wm_X12_1 ws_X12_isIn dX12_after_81 rfl (Nat.le_of_ble_eq_true rfl) ⟨by decide, by decide, by decide, by decide⟩) (fun r21002 u21003 h21001 => ?_)
    obtain ⟨rfl, rfl⟩ := h21001
    refine z_if_eq_t (tgt := 102) b dX12_after_84 (by decide) (by decide) ?_
    refine z_iconst (v := (-1)) b dX12_after_102 (by decide) ?_
    exact z_iret (u := (si (sl S 2 1649317774848) 24 (-1))) b rfl dX12_after_103 ⟨rfl, rfl⟩ rfl (by decide) (by decide)
  · exfalso; omega

set_option maxHeartbeats 4000000 in
set_option maxRecDepth 100000 in
theorem c_X11_after_273 {l : Launch} {D : va_G} {cy : Nat → ClassId} {T0 tB tE : Nat} {a : Nat → Nat} {rw : Nat → Option Nat} (S : GS) (p0 : Int32)  (hr_p0 : (-2147483648) ≤ p0.toInt ∧ p0.toInt ≤ (-2147483609)) : Ct l D cy T0 tB tE yX11_after cX11_after 3 (some .int) 2 41 0 0 (cw cy tE a rw S) [.ref (a 0), .int 5, .int p0] (QI D (U := GS) (fun r u => (-1) = r ∧ S = u) (cw cy tE a rw)) := by
  refine Ct.ofZ RX11 "after" [(0, .ref (a 0)), (1, .int 5), (2, .int p0)] rfl rfl rfl rfl (Nat.le_of_ble_eq_true rfl) ?_
  intro p e R s m args below meth c A b
  refine z_iload_n b dX11_after_0 rfl rfl ?_
  refine z_calli b (z_runS (As := [.int 5]) (st := []) b (c_X11_isRow_8 S ) cf_X11_isRow wm_X11_169 ws_X11_isRow dX11_after_1 rfl (Nat.le_of_ble_eq_true rfl) ⟨by decide, by decide, by decide, by decide⟩) (fun r21005 u21006 h21004 => ?_)
  obtain ⟨rfl, rfl⟩ := h21004
  refine z_if_eq_f (tgt := 14) b dX11_after_4 (by decide) (by decide) ?_
  refine z_iload_n b dX11_after_7 rfl rfl ?_
  refine z_calli b (z_runS (As := [.int p0]) (st := []) b (c_X9_has S p0 ⟨by omega, by omega⟩) cf_X9_has wm_X11_191 ws_X9_has dX11_after_8 rfl (Nat.le_of_ble_eq_true rfl) ⟨by decide, by decide, by decide, by decide⟩) (fun r21008 u21009 h21007 => ?_)
  obtain ⟨rfl, rfl⟩ := h21007
  refine z_if_ne_f (tgt := 16) b dX11_after_11 (by decide) (by decide) ?_
  refine z_iconst (v := (-1)) b dX11_after_14 (by decide) ?_
  exact z_iret (u := S) b rfl dX11_after_15 ⟨rfl, rfl⟩ rfl (by decide) (by decide)

set_option maxHeartbeats 4000000 in
set_option maxRecDepth 100000 in
theorem c_X12_goes_12 {l : Launch} {D : va_G} {cy : Nat → ClassId} {T0 tB tE : Nat} {a : Nat → Nat} (S : GS)  (h_l_0 : fl S 0 = 1649317774848) (h_a_38_5 : ar S 38 5 = 0) : Ct l D cy T0 tB tE yX12_goes cX12_goes 5 (some .int) 0 0 0 0 (mw cy a S) [.ref (a 0), .int 5, .int 3, .int 0] (QI D (U := GS) (fun r u => 0 = r ∧ si (sl S 2 1649317774848) 24 (-1) = u) (mw cy a)) := by
  refine Ct.ofZ RX12 "goes" [(0, .ref (a 0)), (1, .int 5), (2, .int 3), (3, .int 0)] rfl rfl rfl rfl (Nat.le_of_ble_eq_true rfl) ?_
  intro p e R s m args below meth c A b
  refine z_aload_n b dX12_goes_0 rfl rfl ?_
  refine z_aload_n b dX12_goes_1 rfl rfl ?_
  refine z_get (q0 := 0) (k9 := 6) (v := .long (fl S 0)) b (mw_0 cy a S) rfl in_X12 (by decide) wf_X12_153 rfl dX12_goes_2 ?_
  refine z_eql h_l_0 ?_
  refine z_put (q0 := 0) (k9 := 68) tyX12 b (mw_0 cy a S) rfl in_X12 tyX12_ok nmX12 (by decide) wf_X12_458 rfl rfl rfl rfl (Nat.le_of_ble_eq_true rfl) dX12_goes_5 (mwp_0_68 cy a S 1649317774848) ?_
  refine z_aload_n b dX12_goes_8 rfl rfl ?_
  refine z_iconst (v := (-1)) b dX12_goes_9 (by decide) ?_
  refine z_put (q0 := 0) (k9 := 69) tyX12 b (mw_0 cy a (sl S 2 1649317774848)) rfl in_X12 tyX12_ok nmX12 (by decide) wf_X12_461 rfl rfl rfl rfl (Nat.le_of_ble_eq_true rfl) dX12_goes_10 (mwp_0_69 cy a (sl S 2 1649317774848) (-1)) ?_
  refine z_iconst (v := 0) b dX12_goes_13 (by decide) ?_
  refine z_istore (lv' := [(4, .int 0), (0, .ref (a 0)), (1, .int 5), (2, .int 3), (3, .int 0)]) b dX12_goes_14 (by decide) rfl ?_
  refine z_iload b dX12_goes_16 rfl ?_
  refine z_aload_n b dX12_goes_18 rfl rfl ?_
  refine z_get (q0 := 0) (k9 := 66) (v := .ref (a 41)) b (mw_0 cy a (si (sl S 2 1649317774848) 24 (-1))) rfl in_X12 (by decide) wf_X12_140 rfl dX12_goes_19 ?_
  refine z_iload_n b dX12_goes_22 rfl rfl ?_
  refine y_iald (q0 := 41) (j := 5) (v := (ar (si (sl S 2 1649317774848) 24 (-1)) 38 5)) b (mw_41 cy a (si (sl S 2 1649317774848) 24 (-1))) (by decide) rfl dX12_goes_23 ?_
  refine z_eqi h_a_38_5 ?_
  refine z_icmp_ge_t (tgt := 78) b dX12_goes_24 (by decide) (by decide) ?_
  refine z_aload_n b dX12_goes_78 rfl rfl ?_
  refine z_get (q0 := 0) (k9 := 66) (v := .ref (a 41)) b (mw_0 cy a (si (sl S 2 1649317774848) 24 (-1))) rfl in_X12 (by decide) wf_X12_140 rfl dX12_goes_79 ?_
  refine z_iload_n b dX12_goes_82 rfl rfl ?_
  refine y_iald (q0 := 41) (j := 5) (v := (ar (si (sl S 2 1649317774848) 24 (-1)) 38 5)) b (mw_41 cy a (si (sl S 2 1649317774848) 24 (-1))) (by decide) rfl dX12_goes_83 ?_
  refine z_eqi h_a_38_5 ?_
  exact z_iret (u := (si (sl S 2 1649317774848) 24 (-1))) b rfl dX12_goes_84 ⟨rfl, rfl⟩ rfl (by decide) (by decide)

set_option maxHeartbeats 4000000 in
set_option maxRecDepth 100000 in
theorem c_X12_after_273 {l : Launch} {D : va_G} {cy : Nat → ClassId} {T0 tB tE : Nat} {a : Nat → Nat} (S : GS) (p0 : Int32) (h_l_0 : fl S 0 = 1649317774848) (h_a_38_5 : ar S 38 5 = 0) (h_a_4_7 : ar S 4 7 = 0) (h_a_1_7 : ar S 1 7 = 0) (h_a_4_6 : ar S 4 6 = 0) (h_a_1_6 : ar S 1 6 = 0) (h_a_3_6 : ar S 3 6 = 0) (h_a_3_2 : ar S 3 2 = 0) (h_a_2_2 : ar S 2 2 = 3) (h_a_0_2 : ar S 0 2 = 0) (h_a_4_3 : ar S 4 3 = 0) (h_a_1_3 : ar S 1 3 = 0) (h_a_4_5 : ar S 4 5 = 0) (h_a_1_5 : ar S 1 5 = 0) (h_a_3_5 : ar S 3 5 = 0) (h_a_3_7 : ar S 3 7 = 0) (h_a_2_1 : ar S 2 1 = 3) (h_a_0_1 : ar S 0 1 = 0) (h_a_4_2 : ar S 4 2 = 0) (h_a_1_2 : ar S 1 2 = 0) (h_a_4_1 : ar S 4 1 = 0) (h_a_1_1 : ar S 1 1 = 0) (h_a_3_1 : ar S 3 1 = 0) (h_a_3_3 : ar S 3 3 = 0) (h_a_2_0 : ar S 2 0 = 3) (h_a_0_0 : ar S 0 0 = 0) (h_i_0 : fi S 0 = 0) (hr_p0 : (-2147483648) ≤ p0.toInt ∧ p0.toInt ≤ (-2147483609)) : Ct l D cy T0 tB tE yX12_after cX12_after 4 (some .int) 2 47 0 0 (mw cy a S) [.ref (a 0), .int 5, .int p0] (QI D (U := GS) (fun r u => (-1) = r ∧ (si (sl S 2 1649317774848) 24 (-1)) = u) (mw cy a)) := by
  refine Ct.ofZ RX12 "after" [(0, .ref (a 0)), (1, .int 5), (2, .int p0)] rfl rfl rfl rfl (Nat.le_of_ble_eq_true rfl) ?_
  intro p e R s m args below meth c A b
  refine z_iload_n b dX12_after_0 rfl rfl ?_
  refine z_calli b (z_runS (As := [.int 5]) (st := []) b (c_X12_isRow_8 S ) cf_X12_isRow wm_X12_452 ws_X12_isRow dX12_after_1 rfl (Nat.le_of_ble_eq_true rfl) ⟨by decide, by decide, by decide, by decide⟩) (fun r21011 u21012 h21010 => ?_)
  obtain ⟨rfl, rfl⟩ := h21010
  refine z_if_ne_t (tgt := 9) b dX12_after_4 (by decide) (by decide) ?_
  refine z_aload_n b dX12_after_9 rfl rfl ?_
  refine z_iload_n b dX12_after_10 rfl rfl ?_
  refine z_iconst (v := 3) b dX12_after_11 (by decide) ?_
  refine z_iconst (v := 0) b dX12_after_12 (by decide) ?_
  refine z_calli b (z_runV (q0 := 0) (As := [.int 5, .int 3, .int 0]) (st := []) b (c_X12_goes_12 S h_l_0 h_a_38_5) cf_X12_goes (mw_0 cy a S) rfl wm_X12_464 wi_X12_goes ws_X12_goes dX12_after_13 rfl (Nat.le_of_ble_eq_true rfl) ⟨by decide, by decide, by decide, by decide⟩) (fun r21014 u21015 h21013 => ?_)
  obtain ⟨rfl, rfl⟩ := h21013
  refine z_pop b dX12_after_16 rfl ?_
  refine z_aload_n b dX12_after_17 rfl rfl ?_
  refine z_aload_n b dX12_after_18 rfl rfl ?_
  refine z_get (q0 := 0) (k9 := 68) (v := .long 1649317774848) b (mw_0 cy a (si (sl S 2 1649317774848) 24 (-1))) rfl in_X12 (by decide) wf_X12_458 rfl dX12_after_19 ?_
  refine z_callv b (z_runV (q0 := 0) (As := [.long 1649317774848]) (st := []) b (c_X12_takes (si (sl S 2 1649317774848) 24 (-1)) h_a_4_7 h_a_1_7 h_a_4_6 h_a_1_6 h_a_3_6 h_a_3_2 h_a_2_2 h_a_0_2 h_a_4_3 h_a_1_3 h_a_4_5 h_a_1_5 h_a_3_5 h_a_3_7 h_a_2_1 h_a_0_1 h_a_4_2 h_a_1_2 h_a_4_1 h_a_1_1 h_a_3_1 h_a_3_3 h_a_2_0 h_a_0_0 h_i_0) cf_X12_takes (mw_0 cy a (si (sl S 2 1649317774848) 24 (-1))) rfl wm_X12_174 wi_X12_takes ws_X12_takes dX12_after_22 rfl (Nat.le_of_ble_eq_true rfl) ⟨by decide, by decide, by decide, by decide⟩) (fun u21018 h21016 => ?_)
  obtain rfl := h21016
  refine z_iload_n b dX12_after_25 rfl rfl ?_
  refine z_calli b (z_runS (As := [.int p0]) (st := []) b (c_X12_isOne_6 (si (sl S 2 1649317774848) 24 (-1)) p0 ⟨by omega, by omega⟩) cf_X12_isOne wm_X12_170 ws_X12_isOne dX12_after_26 rfl (Nat.le_of_ble_eq_true rfl) ⟨by decide, by decide, by decide, by decide⟩) (fun r21020 u21021 h21019 => ?_)
  obtain ⟨rfl, rfl⟩ := h21019
  refine z_if_eq_t (tgt := 39) b dX12_after_29 (by decide) (by decide) ?_
  refine z_iload_n b dX12_after_39 rfl rfl ?_
  refine z_bipush (v := 50) b dX12_after_40 (by decide) ?_
  refine y_icmp_ne (tgt := 50) (xl := p0.toInt) (yl := 50) b rfl (by decide) dX12_after_42 (by decide) (fun c21022 => ?_) (fun c21022 => ?_)
  · refine z_iload_n b dX12_after_50 rfl rfl ?_
    refine z_bipush (v := 40) b dX12_after_51 (by decide) ?_
    refine z_bipush (v := 42) b dX12_after_53 (by decide) ?_
    refine z_calli b (z_runS (As := [.int p0, .int 40, .int 42]) (st := []) b (c_X12_isIn_63 (si (sl S 2 1649317774848) 24 (-1)) p0 ⟨by omega, by omega⟩) cf_X12_isIn wm_X12_1 ws_X12_isIn dX12_after_55 rfl (Nat.le_of_ble_eq_true rfl) ⟨by decide, by decide, by decide, by decide⟩) (fun r21024 u21025 h21023 => ?_)
    obtain ⟨rfl, rfl⟩ := h21023
    refine z_if_eq_t (tgt := 71) b dX12_after_58 (by decide) (by decide) ?_
    refine z_iload_n b dX12_after_71 rfl rfl ?_
    refine z_bipush (v := 10) b dX12_after_72 (by decide) ?_
    refine z_irem b dX12_after_74 (by decide) rfl ?_
    refine z_istore_n (lv' := [(3, .int (p0 - p0 / 10 * 10)), (0, .ref (a 0)), (1, .int 5), (2, .int p0)]) b dX12_after_75 rfl (by decide) rfl ?_
    refine z_iload_n b dX12_after_76 rfl rfl ?_
    refine z_bipush (v := 10) b dX12_after_77 (by decide) ?_
    refine z_bipush (v := 38) b dX12_after_79 (by decide) ?_
    refine z_calli b (z_runS (As := [.int p0, .int 10, .int 38]) (st := []) b (c_X12_isIn_64 (si (sl S 2 1649317774848) 24 (-1)) p0 ⟨by omega, by omega⟩) cf_X12_isIn wm_X12_1 ws_X12_isIn dX12_after_81 rfl (Nat.le_of_ble_eq_true rfl) ⟨by decide, by decide, by decide, by decide⟩) (fun r21027 u21028 h21026 => ?_)
    obtain ⟨rfl, rfl⟩ := h21026
    refine z_if_eq_t (tgt := 102) b dX12_after_84 (by decide) (by decide) ?_
    refine z_iconst (v := (-1)) b dX12_after_102 (by decide) ?_
    exact z_iret (u := (si (sl S 2 1649317774848) 24 (-1))) b rfl dX12_after_103 ⟨rfl, rfl⟩ rfl (by decide) (by decide)
  · exfalso; omega

set_option maxHeartbeats 4000000 in
set_option maxRecDepth 100000 in
theorem c_X11_after_274 {l : Launch} {D : va_G} {cy : Nat → ClassId} {T0 tB tE : Nat} {a : Nat → Nat} {rw : Nat → Option Nat} (S : GS) (p0 : Int32)  (hr_p0 : (-2147483608) ≤ p0.toInt ∧ p0.toInt ≤ (-1)) : Ct l D cy T0 tB tE yX11_after cX11_after 3 (some .int) 2 41 0 0 (cw cy tE a rw S) [.ref (a 0), .int 5, .int p0] (QI D (U := GS) (fun r u => (-1) = r ∧ S = u) (cw cy tE a rw)) := by
  refine Ct.ofZ RX11 "after" [(0, .ref (a 0)), (1, .int 5), (2, .int p0)] rfl rfl rfl rfl (Nat.le_of_ble_eq_true rfl) ?_
  intro p e R s m args below meth c A b
  refine z_iload_n b dX11_after_0 rfl rfl ?_
  refine z_calli b (z_runS (As := [.int 5]) (st := []) b (c_X11_isRow_8 S ) cf_X11_isRow wm_X11_169 ws_X11_isRow dX11_after_1 rfl (Nat.le_of_ble_eq_true rfl) ⟨by decide, by decide, by decide, by decide⟩) (fun r21030 u21031 h21029 => ?_)
  obtain ⟨rfl, rfl⟩ := h21029
  refine z_if_eq_f (tgt := 14) b dX11_after_4 (by decide) (by decide) ?_
  refine z_iload_n b dX11_after_7 rfl rfl ?_
  refine z_calli b (z_runS (As := [.int p0]) (st := []) b (c_X9_has_2 S p0 ⟨by omega, by omega⟩) cf_X9_has wm_X11_191 ws_X9_has dX11_after_8 rfl (Nat.le_of_ble_eq_true rfl) ⟨by decide, by decide, by decide, by decide⟩) (fun r21033 u21034 h21032 => ?_)
  obtain ⟨rfl, rfl⟩ := h21032
  refine z_if_ne_f (tgt := 16) b dX11_after_11 (by decide) (by decide) ?_
  refine z_iconst (v := (-1)) b dX11_after_14 (by decide) ?_
  exact z_iret (u := S) b rfl dX11_after_15 ⟨rfl, rfl⟩ rfl (by decide) (by decide)

set_option maxHeartbeats 4000000 in
set_option maxRecDepth 100000 in
theorem c_X12_after_274 {l : Launch} {D : va_G} {cy : Nat → ClassId} {T0 tB tE : Nat} {a : Nat → Nat} (S : GS) (p0 : Int32) (h_l_0 : fl S 0 = 1649317774848) (h_a_38_5 : ar S 38 5 = 0) (h_a_4_7 : ar S 4 7 = 0) (h_a_1_7 : ar S 1 7 = 0) (h_a_4_6 : ar S 4 6 = 0) (h_a_1_6 : ar S 1 6 = 0) (h_a_3_6 : ar S 3 6 = 0) (h_a_3_2 : ar S 3 2 = 0) (h_a_2_2 : ar S 2 2 = 3) (h_a_0_2 : ar S 0 2 = 0) (h_a_4_3 : ar S 4 3 = 0) (h_a_1_3 : ar S 1 3 = 0) (h_a_4_5 : ar S 4 5 = 0) (h_a_1_5 : ar S 1 5 = 0) (h_a_3_5 : ar S 3 5 = 0) (h_a_3_7 : ar S 3 7 = 0) (h_a_2_1 : ar S 2 1 = 3) (h_a_0_1 : ar S 0 1 = 0) (h_a_4_2 : ar S 4 2 = 0) (h_a_1_2 : ar S 1 2 = 0) (h_a_4_1 : ar S 4 1 = 0) (h_a_1_1 : ar S 1 1 = 0) (h_a_3_1 : ar S 3 1 = 0) (h_a_3_3 : ar S 3 3 = 0) (h_a_2_0 : ar S 2 0 = 3) (h_a_0_0 : ar S 0 0 = 0) (h_i_0 : fi S 0 = 0) (hr_p0 : (-2147483608) ≤ p0.toInt ∧ p0.toInt ≤ (-1)) : Ct l D cy T0 tB tE yX12_after cX12_after 4 (some .int) 2 47 0 0 (mw cy a S) [.ref (a 0), .int 5, .int p0] (QI D (U := GS) (fun r u => (-1) = r ∧ (si (sl S 2 1649317774848) 24 (-1)) = u) (mw cy a)) := by
  refine Ct.ofZ RX12 "after" [(0, .ref (a 0)), (1, .int 5), (2, .int p0)] rfl rfl rfl rfl (Nat.le_of_ble_eq_true rfl) ?_
  intro p e R s m args below meth c A b
  refine z_iload_n b dX12_after_0 rfl rfl ?_
  refine z_calli b (z_runS (As := [.int 5]) (st := []) b (c_X12_isRow_8 S ) cf_X12_isRow wm_X12_452 ws_X12_isRow dX12_after_1 rfl (Nat.le_of_ble_eq_true rfl) ⟨by decide, by decide, by decide, by decide⟩) (fun r21036 u21037 h21035 => ?_)
  obtain ⟨rfl, rfl⟩ := h21035
  refine z_if_ne_t (tgt := 9) b dX12_after_4 (by decide) (by decide) ?_
  refine z_aload_n b dX12_after_9 rfl rfl ?_
  refine z_iload_n b dX12_after_10 rfl rfl ?_
  refine z_iconst (v := 3) b dX12_after_11 (by decide) ?_
  refine z_iconst (v := 0) b dX12_after_12 (by decide) ?_
  refine z_calli b (z_runV (q0 := 0) (As := [.int 5, .int 3, .int 0]) (st := []) b (c_X12_goes_12 S h_l_0 h_a_38_5) cf_X12_goes (mw_0 cy a S) rfl wm_X12_464 wi_X12_goes ws_X12_goes dX12_after_13 rfl (Nat.le_of_ble_eq_true rfl) ⟨by decide, by decide, by decide, by decide⟩) (fun r21039 u21040 h21038 => ?_)
  obtain ⟨rfl, rfl⟩ := h21038
  refine z_pop b dX12_after_16 rfl ?_
  refine z_aload_n b dX12_after_17 rfl rfl ?_
  refine z_aload_n b dX12_after_18 rfl rfl ?_
  refine z_get (q0 := 0) (k9 := 68) (v := .long 1649317774848) b (mw_0 cy a (si (sl S 2 1649317774848) 24 (-1))) rfl in_X12 (by decide) wf_X12_458 rfl dX12_after_19 ?_
  refine z_callv b (z_runV (q0 := 0) (As := [.long 1649317774848]) (st := []) b (c_X12_takes (si (sl S 2 1649317774848) 24 (-1)) h_a_4_7 h_a_1_7 h_a_4_6 h_a_1_6 h_a_3_6 h_a_3_2 h_a_2_2 h_a_0_2 h_a_4_3 h_a_1_3 h_a_4_5 h_a_1_5 h_a_3_5 h_a_3_7 h_a_2_1 h_a_0_1 h_a_4_2 h_a_1_2 h_a_4_1 h_a_1_1 h_a_3_1 h_a_3_3 h_a_2_0 h_a_0_0 h_i_0) cf_X12_takes (mw_0 cy a (si (sl S 2 1649317774848) 24 (-1))) rfl wm_X12_174 wi_X12_takes ws_X12_takes dX12_after_22 rfl (Nat.le_of_ble_eq_true rfl) ⟨by decide, by decide, by decide, by decide⟩) (fun u21043 h21041 => ?_)
  obtain rfl := h21041
  refine z_iload_n b dX12_after_25 rfl rfl ?_
  refine z_calli b (z_runS (As := [.int p0]) (st := []) b (c_X12_isOne_7 (si (sl S 2 1649317774848) 24 (-1)) p0 ⟨by omega, by omega⟩) cf_X12_isOne wm_X12_170 ws_X12_isOne dX12_after_26 rfl (Nat.le_of_ble_eq_true rfl) ⟨by decide, by decide, by decide, by decide⟩) (fun r21045 u21046 h21044 => ?_)
  obtain ⟨rfl, rfl⟩ := h21044
  refine z_if_eq_t (tgt := 39) b dX12_after_29 (by decide) (by decide) ?_
  refine z_iload_n b dX12_after_39 rfl rfl ?_
  refine z_bipush (v := 50) b dX12_after_40 (by decide) ?_
  refine y_icmp_ne (tgt := 50) (xl := p0.toInt) (yl := 50) b rfl (by decide) dX12_after_42 (by decide) (fun c21047 => ?_) (fun c21047 => ?_)
  · refine z_iload_n b dX12_after_50 rfl rfl ?_
    refine z_bipush (v := 40) b dX12_after_51 (by decide) ?_
    refine z_bipush (v := 42) b dX12_after_53 (by decide) ?_
    refine z_calli b (z_runS (As := [.int p0, .int 40, .int 42]) (st := []) b (c_X12_isIn_66 (si (sl S 2 1649317774848) 24 (-1)) p0 ⟨by omega, by omega⟩) cf_X12_isIn wm_X12_1 ws_X12_isIn dX12_after_55 rfl (Nat.le_of_ble_eq_true rfl) ⟨by decide, by decide, by decide, by decide⟩) (fun r21049 u21050 h21048 => ?_)
    obtain ⟨rfl, rfl⟩ := h21048
    refine z_if_eq_t (tgt := 71) b dX12_after_58 (by decide) (by decide) ?_
    refine z_iload_n b dX12_after_71 rfl rfl ?_
    refine z_bipush (v := 10) b dX12_after_72 (by decide) ?_
    refine z_irem b dX12_after_74 (by decide) rfl ?_
    refine z_istore_n (lv' := [(3, .int (p0 - p0 / 10 * 10)), (0, .ref (a 0)), (1, .int 5), (2, .int p0)]) b dX12_after_75 rfl (by decide) rfl ?_
    refine z_iload_n b dX12_after_76 rfl rfl ?_
    refine z_bipush (v := 10) b dX12_after_77 (by decide) ?_
    refine z_bipush (v := 38) b dX12_after_79 (by decide) ?_
    refine z_calli b (z_runS (As := [.int p0, .int 10, .int 38]) (st := []) b (c_X12_isIn_67 (si (sl S 2 1649317774848) 24 (-1)) p0 ⟨by omega, by omega⟩) cf_X12_isIn wm_X12_1 ws_X12_isIn dX12_after_81 rfl (Nat.le_of_ble_eq_true rfl) ⟨by decide, by decide, by decide, by decide⟩) (fun r21052 u21053 h21051 => ?_)
    obtain ⟨rfl, rfl⟩ := h21051
    refine z_if_eq_t (tgt := 102) b dX12_after_84 (by decide) (by decide) ?_
    refine z_iconst (v := (-1)) b dX12_after_102 (by decide) ?_
    exact z_iret (u := (si (sl S 2 1649317774848) 24 (-1))) b rfl dX12_after_103 ⟨rfl, rfl⟩ rfl (by decide) (by decide)
  · exfalso; omega

set_option maxHeartbeats 4000000 in
set_option maxRecDepth 100000 in
theorem c_X2_follow_12 {l : Launch} {D : va_G} {cy : Nat → ClassId} {T0 tB tE : Nat} {a : Nat → Nat} {rw : Nat → Option Nat} (S : GS)  (h_i_14 : fi S 14 = (-1)) (h_i_37 : fi S 37 = 0) : Ct l D cy T0 tB tE yX2_follow cX2_follow 6 (some .int) 2 61 0 0 (cw cy tE a rw S) [.ref (a 16), .ref (a 46), .ref (a 14), .int 3, .int 0] (QI D (U := GS) (fun r u => 0 = r ∧ sa S 8 (va_cpy (ar S 4) (ar S 8) 0 0 51) = u) (cw cy tE a rw)) := by
  refine Ct.ofZ RX2 "follow" [(0, .ref (a 16)), (1, .ref (a 46)), (2, .ref (a 14)), (3, .int 3), (4, .int 0)] rfl rfl rfl rfl (Nat.le_of_ble_eq_true rfl) ?_
  intro p e R s m args below meth c A b
  refine z_aload_n b dX2_follow_0 rfl rfl ?_
  refine z_get (q0 := 16) (k9 := 3) (v := .ref (a 23)) b (cw_16 cy tE a rw S) rfl in_X2 (by decide) wf_X2_25 rfl dX2_follow_1 ?_
  refine z_aload_n b dX2_follow_4 rfl rfl ?_
  refine z_callv b (z_runV (q0 := 23) (As := [.ref (a 14)]) (st := []) b (c_X9_copy S ) cf_X9_copy (cw_23 cy tE a rw S) rfl wm_X2_80 wi_X9_copy ws_X9_copy dX2_follow_5 rfl (Nat.le_of_ble_eq_true rfl) ⟨by decide, by decide, by decide, by decide⟩) (fun u21062 h21060 => ?_)
  obtain rfl := h21060
  refine z_aload_n b dX2_follow_8 rfl rfl ?_
  refine z_iconst (v := (-1)) b dX2_follow_9 (by decide) ?_
  refine z_put (q0 := 16) (k9 := 4) tyX2 b (cw_16 cy tE a rw (sa S 8 (va_cpy (ar S 4) (ar S 8) 0 0 51))) rfl in_X2 tyX2_ok nmX2 (by decide) wf_X2_28 rfl rfl rfl rfl (Nat.le_of_ble_eq_true rfl) dX2_follow_10 ((cwp_16_4 cy tE a rw (sa S 8 (va_cpy (ar S 4) (ar S 8) 0 0 51)) (-1)).trans (congrArg (cw cy tE a rw) (si_same h_i_14))) ?_
  refine z_iconst (v := 0) b dX2_follow_13 (by decide) ?_
  refine z_istore (lv' := [(5, .int 0), (0, .ref (a 16)), (1, .ref (a 46)), (2, .ref (a 14)), (3, .int 3), (4, .int 0)]) b dX2_follow_14 (by decide) rfl ?_
  refine z_iload b dX2_follow_16 rfl ?_
  refine z_aload_n b dX2_follow_18 rfl rfl ?_
  refine z_get (q0 := 46) (k9 := 1) (v := .int (fi (sa S 8 (va_cpy (ar S 4) (ar S 8) 0 0 51)) 37)) b (cw_46 cy tE a rw (sa S 8 (va_cpy (ar S 4) (ar S 8) 0 0 51))) rfl in_X7 (by decide) wf_X2_108 rfl dX2_follow_19 ?_
  refine z_eqi h_i_37 ?_
  refine z_icmp_ge_t (tgt := 74) b dX2_follow_22 (by decide) (by decide) ?_
  refine z_aload_n b dX2_follow_74 rfl rfl ?_
  refine z_get (q0 := 46) (k9 := 1) (v := .int (fi (sa S 8 (va_cpy (ar S 4) (ar S 8) 0 0 51)) 37)) b (cw_46 cy tE a rw (sa S 8 (va_cpy (ar S 4) (ar S 8) 0 0 51))) rfl in_X7 (by decide) wf_X2_108 rfl dX2_follow_75 ?_
  refine z_eqi h_i_37 ?_
  exact z_iret (u := (sa S 8 (va_cpy (ar S 4) (ar S 8) 0 0 51))) b rfl dX2_follow_78 ⟨rfl, rfl⟩ rfl (by decide) (by decide)

set_option maxHeartbeats 4000000 in
set_option maxRecDepth 100000 in
theorem c_X11_after_275 {l : Launch} {D : va_G} {cy : Nat → ClassId} {T0 tB tE : Nat} {a : Nat → Nat} {rw : Nat → Option Nat} (S : GS)  (h_i_14 : fi S 14 = (-1)) (h_i_37 : fi S 37 = 0) (h_a_4_0 : ar S 4 0 = 0) (hrw : ∀ i, i < 6 → rw i = some (a (36 + 2 * i))) : Ct l D cy T0 tB tE yX11_after cX11_after 3 (some .int) 3 86 0 0 (cw cy tE a rw S) [.ref (a 0), .int 5, .int 0] (QI D (U := GS) (fun r u => 0 = r ∧ (sa S 8 (va_cpy (ar S 4) (ar S 8) 0 0 51)) = u) (cw cy tE a rw)) := by
  refine Ct.ofZ RX11 "after" [(0, .ref (a 0)), (1, .int 5), (2, .int 0)] rfl rfl rfl rfl (Nat.le_of_ble_eq_true rfl) ?_
  intro p e R s m args below meth c A b
  refine z_iload_n b dX11_after_0 rfl rfl ?_
  refine z_calli b (z_runS (As := [.int 5]) (st := []) b (c_X11_isRow_8 S ) cf_X11_isRow wm_X11_169 ws_X11_isRow dX11_after_1 rfl (Nat.le_of_ble_eq_true rfl) ⟨by decide, by decide, by decide, by decide⟩) (fun r21055 u21056 h21054 => ?_)
  obtain ⟨rfl, rfl⟩ := h21054
  refine z_if_eq_f (tgt := 14) b dX11_after_4 (by decide) (by decide) ?_
  refine z_iload_n b dX11_after_7 rfl rfl ?_
  refine z_calli b (z_runS (As := [.int 0]) (st := []) b (c_X9_has_3 S ) cf_X9_has wm_X11_191 ws_X9_has dX11_after_8 rfl (Nat.le_of_ble_eq_true rfl) ⟨by decide, by decide, by decide, by decide⟩) (fun r21058 u21059 h21057 => ?_)
  obtain ⟨rfl, rfl⟩ := h21057
  refine z_if_ne_t (tgt := 16) b dX11_after_11 (by decide) (by decide) ?_
  refine z_aload_n b dX11_after_16 rfl rfl ?_
  refine z_get (q0 := 0) (k9 := 5) (v := .ref (a 16)) b (cw_0 cy tE a rw S) rfl in_X11 (by decide) wf_X11_43 rfl dX11_after_17 ?_
  refine z_aload_n b dX11_after_20 rfl rfl ?_
  refine z_get (q0 := 0) (k9 := 7) (v := .ref (a 35)) b (cw_0 cy tE a rw S) rfl in_X11 (by decide) wf_X11_58 rfl dX11_after_21 ?_
  refine z_iload_n b dX11_after_24 rfl rfl ?_
  refine y_aald (q0 := 35) (t0 := 4) (j := 5) (v := .ref (a 46)) b (cw_35 cy tE a rw S) rfl (by decide) (by rw [hrw 5 (by decide)]; rfl) dX11_after_25 ?_
  refine z_aload_n b dX11_after_26 rfl rfl ?_
  refine z_get (q0 := 0) (k9 := 4) (v := .ref (a 14)) b (cw_0 cy tE a rw S) rfl in_X11 (by decide) wf_X11_34 rfl dX11_after_27 ?_
  refine z_iconst (v := 3) b dX11_after_30 (by decide) ?_
  refine z_iconst (v := 0) b dX11_after_31 (by decide) ?_
  refine z_calli b (z_runV (q0 := 16) (As := [.ref (a 46), .ref (a 14), .int 3, .int 0]) (st := []) b (c_X2_follow_12 S h_i_14 h_i_37) cf_X2_follow (cw_16 cy tE a rw S) rfl wm_X11_184 wi_X2_follow ws_X2_follow dX11_after_32 rfl (Nat.le_of_ble_eq_true rfl) ⟨by decide, by decide, by decide, by decide⟩) (fun r21064 u21065 h21063 => ?_)
  obtain ⟨rfl, rfl⟩ := h21063
  refine z_pop b dX11_after_35 rfl ?_
  refine z_aload_n b dX11_after_36 rfl rfl ?_
  refine z_get (q0 := 0) (k9 := 5) (v := .ref (a 16)) b (cw_0 cy tE a rw (sa S 8 (va_cpy (ar S 4) (ar S 8) 0 0 51))) rfl in_X11 (by decide) wf_X11_43 rfl dX11_after_37 ?_
  refine z_get (q0 := 16) (k9 := 3) (v := .ref (a 23)) b (cw_16 cy tE a rw (sa S 8 (va_cpy (ar S 4) (ar S 8) 0 0 51))) rfl in_X2 (by decide) wf_X11_194 rfl dX11_after_40 ?_
  refine z_iload_n b dX11_after_43 rfl rfl ?_
  refine z_calli b (z_runV (q0 := 23) (As := [.int 0]) (st := []) b (c_X9_get_10 (sa S 8 (va_cpy (ar S 4) (ar S 8) 0 0 51)) h_a_4_0) cf_X9_get (cw_23 cy tE a rw (sa S 8 (va_cpy (ar S 4) (ar S 8) 0 0 51))) rfl wm_X11_197 wi_X9_get ws_X9_get dX11_after_44 rfl (Nat.le_of_ble_eq_true rfl) ⟨by decide, by decide, by decide, by decide⟩) (fun r21067 u21068 h21066 => ?_)
  obtain ⟨rfl, rfl⟩ := h21066
  exact z_iret (u := (sa S 8 (va_cpy (ar S 4) (ar S 8) 0 0 51))) b rfl dX11_after_47 ⟨rfl, rfl⟩ rfl (by decide) (by decide)

set_option maxHeartbeats 4000000 in
set_option maxRecDepth 100000 in
theorem c_X12_after_275 {l : Launch} {D : va_G} {cy : Nat → ClassId} {T0 tB tE : Nat} {a : Nat → Nat} (S : GS)  (h_l_0 : fl S 0 = 1649317774848) (h_a_38_5 : ar S 38 5 = 0) (h_a_4_7 : ar S 4 7 = 0) (h_a_1_7 : ar S 1 7 = 0) (h_a_4_6 : ar S 4 6 = 0) (h_a_1_6 : ar S 1 6 = 0) (h_a_3_6 : ar S 3 6 = 0) (h_a_3_2 : ar S 3 2 = 0) (h_a_2_2 : ar S 2 2 = 3) (h_a_0_2 : ar S 0 2 = 0) (h_a_4_3 : ar S 4 3 = 0) (h_a_1_3 : ar S 1 3 = 0) (h_a_4_5 : ar S 4 5 = 0) (h_a_1_5 : ar S 1 5 = 0) (h_a_3_5 : ar S 3 5 = 0) (h_a_3_7 : ar S 3 7 = 0) (h_a_2_1 : ar S 2 1 = 3) (h_a_0_1 : ar S 0 1 = 0) (h_a_4_2 : ar S 4 2 = 0) (h_a_1_2 : ar S 1 2 = 0) (h_a_4_1 : ar S 4 1 = 0) (h_a_1_1 : ar S 1 1 = 0) (h_a_3_1 : ar S 3 1 = 0) (h_a_3_3 : ar S 3 3 = 0) (h_a_2_0 : ar S 2 0 = 3) (h_a_0_0 : ar S 0 0 = 0) (h_i_0 : fi S 0 = 0) : Ct l D cy T0 tB tE yX12_after cX12_after 4 (some .int) 2 47 0 0 (mw cy a S) [.ref (a 0), .int 5, .int 0] (QI D (U := GS) (fun r u => 0 = r ∧ (si (sl S 2 1649317774848) 24 (-1)) = u) (mw cy a)) := by
  refine Ct.ofZ RX12 "after" [(0, .ref (a 0)), (1, .int 5), (2, .int 0)] rfl rfl rfl rfl (Nat.le_of_ble_eq_true rfl) ?_
  intro p e R s m args below meth c A b
  refine z_iload_n b dX12_after_0 rfl rfl ?_
  refine z_calli b (z_runS (As := [.int 5]) (st := []) b (c_X12_isRow_8 S ) cf_X12_isRow wm_X12_452 ws_X12_isRow dX12_after_1 rfl (Nat.le_of_ble_eq_true rfl) ⟨by decide, by decide, by decide, by decide⟩) (fun r21070 u21071 h21069 => ?_)
  obtain ⟨rfl, rfl⟩ := h21069
  refine z_if_ne_t (tgt := 9) b dX12_after_4 (by decide) (by decide) ?_
  refine z_aload_n b dX12_after_9 rfl rfl ?_
  refine z_iload_n b dX12_after_10 rfl rfl ?_
  refine z_iconst (v := 3) b dX12_after_11 (by decide) ?_
  refine z_iconst (v := 0) b dX12_after_12 (by decide) ?_
  refine z_calli b (z_runV (q0 := 0) (As := [.int 5, .int 3, .int 0]) (st := []) b (c_X12_goes_12 S h_l_0 h_a_38_5) cf_X12_goes (mw_0 cy a S) rfl wm_X12_464 wi_X12_goes ws_X12_goes dX12_after_13 rfl (Nat.le_of_ble_eq_true rfl) ⟨by decide, by decide, by decide, by decide⟩) (fun r21073 u21074 h21072 => ?_)
  obtain ⟨rfl, rfl⟩ := h21072
  refine z_pop b dX12_after_16 rfl ?_
  refine z_aload_n b dX12_after_17 rfl rfl ?_
  refine z_aload_n b dX12_after_18 rfl rfl ?_
  refine z_get (q0 := 0) (k9 := 68) (v := .long 1649317774848) b (mw_0 cy a (si (sl S 2 1649317774848) 24 (-1))) rfl in_X12 (by decide) wf_X12_458 rfl dX12_after_19 ?_
  refine z_callv b (z_runV (q0 := 0) (As := [.long 1649317774848]) (st := []) b (c_X12_takes (si (sl S 2 1649317774848) 24 (-1)) h_a_4_7 h_a_1_7 h_a_4_6 h_a_1_6 h_a_3_6 h_a_3_2 h_a_2_2 h_a_0_2 h_a_4_3 h_a_1_3 h_a_4_5 h_a_1_5 h_a_3_5 h_a_3_7 h_a_2_1 h_a_0_1 h_a_4_2 h_a_1_2 h_a_4_1 h_a_1_1 h_a_3_1 h_a_3_3 h_a_2_0 h_a_0_0 h_i_0) cf_X12_takes (mw_0 cy a (si (sl S 2 1649317774848) 24 (-1))) rfl wm_X12_174 wi_X12_takes ws_X12_takes dX12_after_22 rfl (Nat.le_of_ble_eq_true rfl) ⟨by decide, by decide, by decide, by decide⟩) (fun u21077 h21075 => ?_)
  obtain rfl := h21075
  refine z_iload_n b dX12_after_25 rfl rfl ?_
  refine z_calli b (z_runS (As := [.int 0]) (st := []) b (c_X12_isOne_3 (si (sl S 2 1649317774848) 24 (-1)) ) cf_X12_isOne wm_X12_170 ws_X12_isOne dX12_after_26 rfl (Nat.le_of_ble_eq_true rfl) ⟨by decide, by decide, by decide, by decide⟩) (fun r21079 u21080 h21078 => ?_)
  obtain ⟨rfl, rfl⟩ := h21078
  refine z_if_eq_f (tgt := 39) b dX12_after_29 (by decide) (by decide) ?_
  refine z_aload_n b dX12_after_32 rfl rfl ?_
  refine z_get (q0 := 0) (k9 := 0) (v := .ref (a 1)) b (mw_0 cy a (si (sl S 2 1649317774848) 24 (-1))) rfl in_X12 (by decide) wf_X12_13 rfl dX12_after_33 ?_
  refine z_iload_n b dX12_after_36 rfl rfl ?_
  refine y_iald (q0 := 1) (j := 0) (v := (ar (si (sl S 2 1649317774848) 24 (-1)) 0 0)) b (mw_1 cy a (si (sl S 2 1649317774848) 24 (-1))) (by decide) rfl dX12_after_37 ?_
  refine z_eqi h_a_0_0 ?_
  exact z_iret (u := (si (sl S 2 1649317774848) 24 (-1))) b rfl dX12_after_38 ⟨rfl, rfl⟩ rfl (by decide) (by decide)

set_option maxHeartbeats 4000000 in
set_option maxRecDepth 100000 in
theorem c_X11_after_276 {l : Launch} {D : va_G} {cy : Nat → ClassId} {T0 tB tE : Nat} {a : Nat → Nat} {rw : Nat → Option Nat} (S : GS)  (h_i_14 : fi S 14 = (-1)) (h_i_37 : fi S 37 = 0) (h_a_4_1 : ar S 4 1 = 0) (hrw : ∀ i, i < 6 → rw i = some (a (36 + 2 * i))) : Ct l D cy T0 tB tE yX11_after cX11_after 3 (some .int) 3 86 0 0 (cw cy tE a rw S) [.ref (a 0), .int 5, .int 1] (QI D (U := GS) (fun r u => 0 = r ∧ (sa S 8 (va_cpy (ar S 4) (ar S 8) 0 0 51)) = u) (cw cy tE a rw)) := by
  refine Ct.ofZ RX11 "after" [(0, .ref (a 0)), (1, .int 5), (2, .int 1)] rfl rfl rfl rfl (Nat.le_of_ble_eq_true rfl) ?_
  intro p e R s m args below meth c A b
  refine z_iload_n b dX11_after_0 rfl rfl ?_
  refine z_calli b (z_runS (As := [.int 5]) (st := []) b (c_X11_isRow_8 S ) cf_X11_isRow wm_X11_169 ws_X11_isRow dX11_after_1 rfl (Nat.le_of_ble_eq_true rfl) ⟨by decide, by decide, by decide, by decide⟩) (fun r21082 u21083 h21081 => ?_)
  obtain ⟨rfl, rfl⟩ := h21081
  refine z_if_eq_f (tgt := 14) b dX11_after_4 (by decide) (by decide) ?_
  refine z_iload_n b dX11_after_7 rfl rfl ?_
  refine z_calli b (z_runS (As := [.int 1]) (st := []) b (c_X9_has_4 S ) cf_X9_has wm_X11_191 ws_X9_has dX11_after_8 rfl (Nat.le_of_ble_eq_true rfl) ⟨by decide, by decide, by decide, by decide⟩) (fun r21085 u21086 h21084 => ?_)
  obtain ⟨rfl, rfl⟩ := h21084
  refine z_if_ne_t (tgt := 16) b dX11_after_11 (by decide) (by decide) ?_
  refine z_aload_n b dX11_after_16 rfl rfl ?_
  refine z_get (q0 := 0) (k9 := 5) (v := .ref (a 16)) b (cw_0 cy tE a rw S) rfl in_X11 (by decide) wf_X11_43 rfl dX11_after_17 ?_
  refine z_aload_n b dX11_after_20 rfl rfl ?_
  refine z_get (q0 := 0) (k9 := 7) (v := .ref (a 35)) b (cw_0 cy tE a rw S) rfl in_X11 (by decide) wf_X11_58 rfl dX11_after_21 ?_
  refine z_iload_n b dX11_after_24 rfl rfl ?_
  refine y_aald (q0 := 35) (t0 := 4) (j := 5) (v := .ref (a 46)) b (cw_35 cy tE a rw S) rfl (by decide) (by rw [hrw 5 (by decide)]; rfl) dX11_after_25 ?_
  refine z_aload_n b dX11_after_26 rfl rfl ?_
  refine z_get (q0 := 0) (k9 := 4) (v := .ref (a 14)) b (cw_0 cy tE a rw S) rfl in_X11 (by decide) wf_X11_34 rfl dX11_after_27 ?_
  refine z_iconst (v := 3) b dX11_after_30 (by decide) ?_
  refine z_iconst (v := 0) b dX11_after_31 (by decide) ?_
  refine z_calli b (z_runV (q0 := 16) (As := [.ref (a 46), .ref (a 14), .int 3, .int 0]) (st := []) b (c_X2_follow_12 S h_i_14 h_i_37) cf_X2_follow (cw_16 cy tE a rw S) rfl wm_X11_184 wi_X2_follow ws_X2_follow dX11_after_32 rfl (Nat.le_of_ble_eq_true rfl) ⟨by decide, by decide, by decide, by decide⟩) (fun r21088 u21089 h21087 => ?_)
  obtain ⟨rfl, rfl⟩ := h21087
  refine z_pop b dX11_after_35 rfl ?_
  refine z_aload_n b dX11_after_36 rfl rfl ?_
  refine z_get (q0 := 0) (k9 := 5) (v := .ref (a 16)) b (cw_0 cy tE a rw (sa S 8 (va_cpy (ar S 4) (ar S 8) 0 0 51))) rfl in_X11 (by decide) wf_X11_43 rfl dX11_after_37 ?_
  refine z_get (q0 := 16) (k9 := 3) (v := .ref (a 23)) b (cw_16 cy tE a rw (sa S 8 (va_cpy (ar S 4) (ar S 8) 0 0 51))) rfl in_X2 (by decide) wf_X11_194 rfl dX11_after_40 ?_
  refine z_iload_n b dX11_after_43 rfl rfl ?_
  refine z_calli b (z_runV (q0 := 23) (As := [.int 1]) (st := []) b (c_X9_get_11 (sa S 8 (va_cpy (ar S 4) (ar S 8) 0 0 51)) h_a_4_1) cf_X9_get (cw_23 cy tE a rw (sa S 8 (va_cpy (ar S 4) (ar S 8) 0 0 51))) rfl wm_X11_197 wi_X9_get ws_X9_get dX11_after_44 rfl (Nat.le_of_ble_eq_true rfl) ⟨by decide, by decide, by decide, by decide⟩) (fun r21091 u21092 h21090 => ?_)
  obtain ⟨rfl, rfl⟩ := h21090
  exact z_iret (u := (sa S 8 (va_cpy (ar S 4) (ar S 8) 0 0 51))) b rfl dX11_after_47 ⟨rfl, rfl⟩ rfl (by decide) (by decide)

set_option maxHeartbeats 4000000 in
set_option maxRecDepth 100000 in
theorem c_X12_after_276 {l : Launch} {D : va_G} {cy : Nat → ClassId} {T0 tB tE : Nat} {a : Nat → Nat} (S : GS)  (h_l_0 : fl S 0 = 1649317774848) (h_a_38_5 : ar S 38 5 = 0) (h_a_4_7 : ar S 4 7 = 0) (h_a_1_7 : ar S 1 7 = 0) (h_a_4_6 : ar S 4 6 = 0) (h_a_1_6 : ar S 1 6 = 0) (h_a_3_6 : ar S 3 6 = 0) (h_a_3_2 : ar S 3 2 = 0) (h_a_2_2 : ar S 2 2 = 3) (h_a_0_2 : ar S 0 2 = 0) (h_a_4_3 : ar S 4 3 = 0) (h_a_1_3 : ar S 1 3 = 0) (h_a_4_5 : ar S 4 5 = 0) (h_a_1_5 : ar S 1 5 = 0) (h_a_3_5 : ar S 3 5 = 0) (h_a_3_7 : ar S 3 7 = 0) (h_a_2_1 : ar S 2 1 = 3) (h_a_0_1 : ar S 0 1 = 0) (h_a_4_2 : ar S 4 2 = 0) (h_a_1_2 : ar S 1 2 = 0) (h_a_4_1 : ar S 4 1 = 0) (h_a_1_1 : ar S 1 1 = 0) (h_a_3_1 : ar S 3 1 = 0) (h_a_3_3 : ar S 3 3 = 0) (h_a_2_0 : ar S 2 0 = 3) (h_a_0_0 : ar S 0 0 = 0) (h_i_0 : fi S 0 = 0) : Ct l D cy T0 tB tE yX12_after cX12_after 4 (some .int) 2 47 0 0 (mw cy a S) [.ref (a 0), .int 5, .int 1] (QI D (U := GS) (fun r u => 0 = r ∧ (si (sl S 2 1649317774848) 24 (-1)) = u) (mw cy a)) := by
  refine Ct.ofZ RX12 "after" [(0, .ref (a 0)), (1, .int 5), (2, .int 1)] rfl rfl rfl rfl (Nat.le_of_ble_eq_true rfl) ?_
  intro p e R s m args below meth c A b
  refine z_iload_n b dX12_after_0 rfl rfl ?_
  refine z_calli b (z_runS (As := [.int 5]) (st := []) b (c_X12_isRow_8 S ) cf_X12_isRow wm_X12_452 ws_X12_isRow dX12_after_1 rfl (Nat.le_of_ble_eq_true rfl) ⟨by decide, by decide, by decide, by decide⟩) (fun r21094 u21095 h21093 => ?_)
  obtain ⟨rfl, rfl⟩ := h21093
  refine z_if_ne_t (tgt := 9) b dX12_after_4 (by decide) (by decide) ?_
  refine z_aload_n b dX12_after_9 rfl rfl ?_
  refine z_iload_n b dX12_after_10 rfl rfl ?_
  refine z_iconst (v := 3) b dX12_after_11 (by decide) ?_
  refine z_iconst (v := 0) b dX12_after_12 (by decide) ?_
  refine z_calli b (z_runV (q0 := 0) (As := [.int 5, .int 3, .int 0]) (st := []) b (c_X12_goes_12 S h_l_0 h_a_38_5) cf_X12_goes (mw_0 cy a S) rfl wm_X12_464 wi_X12_goes ws_X12_goes dX12_after_13 rfl (Nat.le_of_ble_eq_true rfl) ⟨by decide, by decide, by decide, by decide⟩) (fun r21097 u21098 h21096 => ?_)
  obtain ⟨rfl, rfl⟩ := h21096
  refine z_pop b dX12_after_16 rfl ?_
  refine z_aload_n b dX12_after_17 rfl rfl ?_
  refine z_aload_n b dX12_after_18 rfl rfl ?_
  refine z_get (q0 := 0) (k9 := 68) (v := .long 1649317774848) b (mw_0 cy a (si (sl S 2 1649317774848) 24 (-1))) rfl in_X12 (by decide) wf_X12_458 rfl dX12_after_19 ?_
  refine z_callv b (z_runV (q0 := 0) (As := [.long 1649317774848]) (st := []) b (c_X12_takes (si (sl S 2 1649317774848) 24 (-1)) h_a_4_7 h_a_1_7 h_a_4_6 h_a_1_6 h_a_3_6 h_a_3_2 h_a_2_2 h_a_0_2 h_a_4_3 h_a_1_3 h_a_4_5 h_a_1_5 h_a_3_5 h_a_3_7 h_a_2_1 h_a_0_1 h_a_4_2 h_a_1_2 h_a_4_1 h_a_1_1 h_a_3_1 h_a_3_3 h_a_2_0 h_a_0_0 h_i_0) cf_X12_takes (mw_0 cy a (si (sl S 2 1649317774848) 24 (-1))) rfl wm_X12_174 wi_X12_takes ws_X12_takes dX12_after_22 rfl (Nat.le_of_ble_eq_true rfl) ⟨by decide, by decide, by decide, by decide⟩) (fun u21101 h21099 => ?_)
  obtain rfl := h21099
  refine z_iload_n b dX12_after_25 rfl rfl ?_
  refine z_calli b (z_runS (As := [.int 1]) (st := []) b (c_X12_isOne_4 (si (sl S 2 1649317774848) 24 (-1)) ) cf_X12_isOne wm_X12_170 ws_X12_isOne dX12_after_26 rfl (Nat.le_of_ble_eq_true rfl) ⟨by decide, by decide, by decide, by decide⟩) (fun r21103 u21104 h21102 => ?_)
  obtain ⟨rfl, rfl⟩ := h21102
  refine z_if_eq_f (tgt := 39) b dX12_after_29 (by decide) (by decide) ?_
  refine z_aload_n b dX12_after_32 rfl rfl ?_
  refine z_get (q0 := 0) (k9 := 0) (v := .ref (a 1)) b (mw_0 cy a (si (sl S 2 1649317774848) 24 (-1))) rfl in_X12 (by decide) wf_X12_13 rfl dX12_after_33 ?_
  refine z_iload_n b dX12_after_36 rfl rfl ?_
  refine y_iald (q0 := 1) (j := 1) (v := (ar (si (sl S 2 1649317774848) 24 (-1)) 0 1)) b (mw_1 cy a (si (sl S 2 1649317774848) 24 (-1))) (by decide) rfl dX12_after_37 ?_
  refine z_eqi h_a_0_1 ?_
  exact z_iret (u := (si (sl S 2 1649317774848) 24 (-1))) b rfl dX12_after_38 ⟨rfl, rfl⟩ rfl (by decide) (by decide)

set_option maxHeartbeats 4000000 in
set_option maxRecDepth 100000 in
theorem c_X11_after_277 {l : Launch} {D : va_G} {cy : Nat → ClassId} {T0 tB tE : Nat} {a : Nat → Nat} {rw : Nat → Option Nat} (S : GS)  (h_i_14 : fi S 14 = (-1)) (h_i_37 : fi S 37 = 0) (h_a_4_2 : ar S 4 2 = 0) (hrw : ∀ i, i < 6 → rw i = some (a (36 + 2 * i))) : Ct l D cy T0 tB tE yX11_after cX11_after 3 (some .int) 3 86 0 0 (cw cy tE a rw S) [.ref (a 0), .int 5, .int 2] (QI D (U := GS) (fun r u => 0 = r ∧ (sa S 8 (va_cpy (ar S 4) (ar S 8) 0 0 51)) = u) (cw cy tE a rw)) := by
  refine Ct.ofZ RX11 "after" [(0, .ref (a 0)), (1, .int 5), (2, .int 2)] rfl rfl rfl rfl (Nat.le_of_ble_eq_true rfl) ?_
  intro p e R s m args below meth c A b
  refine z_iload_n b dX11_after_0 rfl rfl ?_
  refine z_calli b (z_runS (As := [.int 5]) (st := []) b (c_X11_isRow_8 S ) cf_X11_isRow wm_X11_169 ws_X11_isRow dX11_after_1 rfl (Nat.le_of_ble_eq_true rfl) ⟨by decide, by decide, by decide, by decide⟩) (fun r21106 u21107 h21105 => ?_)
  obtain ⟨rfl, rfl⟩ := h21105
  refine z_if_eq_f (tgt := 14) b dX11_after_4 (by decide) (by decide) ?_
  refine z_iload_n b dX11_after_7 rfl rfl ?_
  refine z_calli b (z_runS (As := [.int 2]) (st := []) b (c_X9_has_5 S ) cf_X9_has wm_X11_191 ws_X9_has dX11_after_8 rfl (Nat.le_of_ble_eq_true rfl) ⟨by decide, by decide, by decide, by decide⟩) (fun r21109 u21110 h21108 => ?_)
  obtain ⟨rfl, rfl⟩ := h21108
  refine z_if_ne_t (tgt := 16) b dX11_after_11 (by decide) (by decide) ?_
  refine z_aload_n b dX11_after_16 rfl rfl ?_
  refine z_get (q0 := 0) (k9 := 5) (v := .ref (a 16)) b (cw_0 cy tE a rw S) rfl in_X11 (by decide) wf_X11_43 rfl dX11_after_17 ?_
  refine z_aload_n b dX11_after_20 rfl rfl ?_
  refine z_get (q0 := 0) (k9 := 7) (v := .ref (a 35)) b (cw_0 cy tE a rw S) rfl in_X11 (by decide) wf_X11_58 rfl dX11_after_21 ?_
  refine z_iload_n b dX11_after_24 rfl rfl ?_
  refine y_aald (q0 := 35) (t0 := 4) (j := 5) (v := .ref (a 46)) b (cw_35 cy tE a rw S) rfl (by decide) (by rw [hrw 5 (by decide)]; rfl) dX11_after_25 ?_
  refine z_aload_n b dX11_after_26 rfl rfl ?_
  refine z_get (q0 := 0) (k9 := 4) (v := .ref (a 14)) b (cw_0 cy tE a rw S) rfl in_X11 (by decide) wf_X11_34 rfl dX11_after_27 ?_
  refine z_iconst (v := 3) b dX11_after_30 (by decide) ?_
  refine z_iconst (v := 0) b dX11_after_31 (by decide) ?_
  refine z_calli b (z_runV (q0 := 16) (As := [.ref (a 46), .ref (a 14), .int 3, .int 0]) (st := []) b (c_X2_follow_12 S h_i_14 h_i_37) cf_X2_follow (cw_16 cy tE a rw S) rfl wm_X11_184 wi_X2_follow ws_X2_follow dX11_after_32 rfl (Nat.le_of_ble_eq_true rfl) ⟨by decide, by decide, by decide, by decide⟩) (fun r21112 u21113 h21111 => ?_)
  obtain ⟨rfl, rfl⟩ := h21111
  refine z_pop b dX11_after_35 rfl ?_
  refine z_aload_n b dX11_after_36 rfl rfl ?_
  refine z_get (q0 := 0) (k9 := 5) (v := .ref (a 16)) b (cw_0 cy tE a rw (sa S 8 (va_cpy (ar S 4) (ar S 8) 0 0 51))) rfl in_X11 (by decide) wf_X11_43 rfl dX11_after_37 ?_
  refine z_get (q0 := 16) (k9 := 3) (v := .ref (a 23)) b (cw_16 cy tE a rw (sa S 8 (va_cpy (ar S 4) (ar S 8) 0 0 51))) rfl in_X2 (by decide) wf_X11_194 rfl dX11_after_40 ?_
  refine z_iload_n b dX11_after_43 rfl rfl ?_
  refine z_calli b (z_runV (q0 := 23) (As := [.int 2]) (st := []) b (c_X9_get_12 (sa S 8 (va_cpy (ar S 4) (ar S 8) 0 0 51)) h_a_4_2) cf_X9_get (cw_23 cy tE a rw (sa S 8 (va_cpy (ar S 4) (ar S 8) 0 0 51))) rfl wm_X11_197 wi_X9_get ws_X9_get dX11_after_44 rfl (Nat.le_of_ble_eq_true rfl) ⟨by decide, by decide, by decide, by decide⟩) (fun r21115 u21116 h21114 => ?_)
  obtain ⟨rfl, rfl⟩ := h21114
  exact z_iret (u := (sa S 8 (va_cpy (ar S 4) (ar S 8) 0 0 51))) b rfl dX11_after_47 ⟨rfl, rfl⟩ rfl (by decide) (by decide)

set_option maxHeartbeats 4000000 in
set_option maxRecDepth 100000 in
theorem c_X12_after_277 {l : Launch} {D : va_G} {cy : Nat → ClassId} {T0 tB tE : Nat} {a : Nat → Nat} (S : GS)  (h_l_0 : fl S 0 = 1649317774848) (h_a_38_5 : ar S 38 5 = 0) (h_a_4_7 : ar S 4 7 = 0) (h_a_1_7 : ar S 1 7 = 0) (h_a_4_6 : ar S 4 6 = 0) (h_a_1_6 : ar S 1 6 = 0) (h_a_3_6 : ar S 3 6 = 0) (h_a_3_2 : ar S 3 2 = 0) (h_a_2_2 : ar S 2 2 = 3) (h_a_0_2 : ar S 0 2 = 0) (h_a_4_3 : ar S 4 3 = 0) (h_a_1_3 : ar S 1 3 = 0) (h_a_4_5 : ar S 4 5 = 0) (h_a_1_5 : ar S 1 5 = 0) (h_a_3_5 : ar S 3 5 = 0) (h_a_3_7 : ar S 3 7 = 0) (h_a_2_1 : ar S 2 1 = 3) (h_a_0_1 : ar S 0 1 = 0) (h_a_4_2 : ar S 4 2 = 0) (h_a_1_2 : ar S 1 2 = 0) (h_a_4_1 : ar S 4 1 = 0) (h_a_1_1 : ar S 1 1 = 0) (h_a_3_1 : ar S 3 1 = 0) (h_a_3_3 : ar S 3 3 = 0) (h_a_2_0 : ar S 2 0 = 3) (h_a_0_0 : ar S 0 0 = 0) (h_i_0 : fi S 0 = 0) : Ct l D cy T0 tB tE yX12_after cX12_after 4 (some .int) 2 47 0 0 (mw cy a S) [.ref (a 0), .int 5, .int 2] (QI D (U := GS) (fun r u => 0 = r ∧ (si (sl S 2 1649317774848) 24 (-1)) = u) (mw cy a)) := by
  refine Ct.ofZ RX12 "after" [(0, .ref (a 0)), (1, .int 5), (2, .int 2)] rfl rfl rfl rfl (Nat.le_of_ble_eq_true rfl) ?_
  intro p e R s m args below meth c A b
  refine z_iload_n b dX12_after_0 rfl rfl ?_
  refine z_calli b (z_runS (As := [.int 5]) (st := []) b (c_X12_isRow_8 S ) cf_X12_isRow wm_X12_452 ws_X12_isRow dX12_after_1 rfl (Nat.le_of_ble_eq_true rfl) ⟨by decide, by decide, by decide, by decide⟩) (fun r21118 u21119 h21117 => ?_)
  obtain ⟨rfl, rfl⟩ := h21117
  refine z_if_ne_t (tgt := 9) b dX12_after_4 (by decide) (by decide) ?_
  refine z_aload_n b dX12_after_9 rfl rfl ?_
  refine z_iload_n b dX12_after_10 rfl rfl ?_
  refine z_iconst (v := 3) b dX12_after_11 (by decide) ?_
  refine z_iconst (v := 0) b dX12_after_12 (by decide) ?_
  refine z_calli b (z_runV (q0 := 0) (As := [.int 5, .int 3, .int 0]) (st := []) b (c_X12_goes_12 S h_l_0 h_a_38_5) cf_X12_goes (mw_0 cy a S) rfl wm_X12_464 wi_X12_goes ws_X12_goes dX12_after_13 rfl (Nat.le_of_ble_eq_true rfl) ⟨by decide, by decide, by decide, by decide⟩) (fun r21121 u21122 h21120 => ?_)
  obtain ⟨rfl, rfl⟩ := h21120
  refine z_pop b dX12_after_16 rfl ?_
  refine z_aload_n b dX12_after_17 rfl rfl ?_
  refine z_aload_n b dX12_after_18 rfl rfl ?_
  refine z_get (q0 := 0) (k9 := 68) (v := .long 1649317774848) b (mw_0 cy a (si (sl S 2 1649317774848) 24 (-1))) rfl in_X12 (by decide) wf_X12_458 rfl dX12_after_19 ?_
  refine z_callv b (z_runV (q0 := 0) (As := [.long 1649317774848]) (st := []) b (c_X12_takes (si (sl S 2 1649317774848) 24 (-1)) h_a_4_7 h_a_1_7 h_a_4_6 h_a_1_6 h_a_3_6 h_a_3_2 h_a_2_2 h_a_0_2 h_a_4_3 h_a_1_3 h_a_4_5 h_a_1_5 h_a_3_5 h_a_3_7 h_a_2_1 h_a_0_1 h_a_4_2 h_a_1_2 h_a_4_1 h_a_1_1 h_a_3_1 h_a_3_3 h_a_2_0 h_a_0_0 h_i_0) cf_X12_takes (mw_0 cy a (si (sl S 2 1649317774848) 24 (-1))) rfl wm_X12_174 wi_X12_takes ws_X12_takes dX12_after_22 rfl (Nat.le_of_ble_eq_true rfl) ⟨by decide, by decide, by decide, by decide⟩) (fun u21125 h21123 => ?_)
  obtain rfl := h21123
  refine z_iload_n b dX12_after_25 rfl rfl ?_
  refine z_calli b (z_runS (As := [.int 2]) (st := []) b (c_X12_isOne_5 (si (sl S 2 1649317774848) 24 (-1)) ) cf_X12_isOne wm_X12_170 ws_X12_isOne dX12_after_26 rfl (Nat.le_of_ble_eq_true rfl) ⟨by decide, by decide, by decide, by decide⟩) (fun r21127 u21128 h21126 => ?_)
  obtain ⟨rfl, rfl⟩ := h21126
  refine z_if_eq_f (tgt := 39) b dX12_after_29 (by decide) (by decide) ?_
  refine z_aload_n b dX12_after_32 rfl rfl ?_
  refine z_get (q0 := 0) (k9 := 0) (v := .ref (a 1)) b (mw_0 cy a (si (sl S 2 1649317774848) 24 (-1))) rfl in_X12 (by decide) wf_X12_13 rfl dX12_after_33 ?_
  refine z_iload_n b dX12_after_36 rfl rfl ?_
  refine y_iald (q0 := 1) (j := 2) (v := (ar (si (sl S 2 1649317774848) 24 (-1)) 0 2)) b (mw_1 cy a (si (sl S 2 1649317774848) 24 (-1))) (by decide) rfl dX12_after_37 ?_
  refine z_eqi h_a_0_2 ?_
  exact z_iret (u := (si (sl S 2 1649317774848) 24 (-1))) b rfl dX12_after_38 ⟨rfl, rfl⟩ rfl (by decide) (by decide)

set_option maxHeartbeats 4000000 in
set_option maxRecDepth 100000 in
theorem c_X11_after_278 {l : Launch} {D : va_G} {cy : Nat → ClassId} {T0 tB tE : Nat} {a : Nat → Nat} {rw : Nat → Option Nat} (S : GS)   : Ct l D cy T0 tB tE yX11_after cX11_after 3 (some .int) 2 41 0 0 (cw cy tE a rw S) [.ref (a 0), .int 5, .int 3] (QI D (U := GS) (fun r u => (-1) = r ∧ S = u) (cw cy tE a rw)) := by
  refine Ct.ofZ RX11 "after" [(0, .ref (a 0)), (1, .int 5), (2, .int 3)] rfl rfl rfl rfl (Nat.le_of_ble_eq_true rfl) ?_
  intro p e R s m args below meth c A b
  refine z_iload_n b dX11_after_0 rfl rfl ?_
  refine z_calli b (z_runS (As := [.int 5]) (st := []) b (c_X11_isRow_8 S ) cf_X11_isRow wm_X11_169 ws_X11_isRow dX11_after_1 rfl (Nat.le_of_ble_eq_true rfl) ⟨by decide, by decide, by decide, by decide⟩) (fun r21130 u21131 h21129 => ?_)
  obtain ⟨rfl, rfl⟩ := h21129
  refine z_if_eq_f (tgt := 14) b dX11_after_4 (by decide) (by decide) ?_
  refine z_iload_n b dX11_after_7 rfl rfl ?_
  refine z_calli b (z_runS (As := [.int 3]) (st := []) b (c_X9_has_6 S ) cf_X9_has wm_X11_191 ws_X9_has dX11_after_8 rfl (Nat.le_of_ble_eq_true rfl) ⟨by decide, by decide, by decide, by decide⟩) (fun r21133 u21134 h21132 => ?_)
  obtain ⟨rfl, rfl⟩ := h21132
  refine z_if_ne_f (tgt := 16) b dX11_after_11 (by decide) (by decide) ?_
  refine z_iconst (v := (-1)) b dX11_after_14 (by decide) ?_
  exact z_iret (u := S) b rfl dX11_after_15 ⟨rfl, rfl⟩ rfl (by decide) (by decide)

set_option maxHeartbeats 4000000 in
set_option maxRecDepth 100000 in
theorem c_X12_after_278 {l : Launch} {D : va_G} {cy : Nat → ClassId} {T0 tB tE : Nat} {a : Nat → Nat} (S : GS)  (h_l_0 : fl S 0 = 1649317774848) (h_a_38_5 : ar S 38 5 = 0) (h_a_4_7 : ar S 4 7 = 0) (h_a_1_7 : ar S 1 7 = 0) (h_a_4_6 : ar S 4 6 = 0) (h_a_1_6 : ar S 1 6 = 0) (h_a_3_6 : ar S 3 6 = 0) (h_a_3_2 : ar S 3 2 = 0) (h_a_2_2 : ar S 2 2 = 3) (h_a_0_2 : ar S 0 2 = 0) (h_a_4_3 : ar S 4 3 = 0) (h_a_1_3 : ar S 1 3 = 0) (h_a_4_5 : ar S 4 5 = 0) (h_a_1_5 : ar S 1 5 = 0) (h_a_3_5 : ar S 3 5 = 0) (h_a_3_7 : ar S 3 7 = 0) (h_a_2_1 : ar S 2 1 = 3) (h_a_0_1 : ar S 0 1 = 0) (h_a_4_2 : ar S 4 2 = 0) (h_a_1_2 : ar S 1 2 = 0) (h_a_4_1 : ar S 4 1 = 0) (h_a_1_1 : ar S 1 1 = 0) (h_a_3_1 : ar S 3 1 = 0) (h_a_3_3 : ar S 3 3 = 0) (h_a_2_0 : ar S 2 0 = 3) (h_a_0_0 : ar S 0 0 = 0) (h_i_0 : fi S 0 = 0) : Ct l D cy T0 tB tE yX12_after cX12_after 4 (some .int) 2 47 0 0 (mw cy a S) [.ref (a 0), .int 5, .int 3] (QI D (U := GS) (fun r u => (-1) = r ∧ (si (sl S 2 1649317774848) 24 (-1)) = u) (mw cy a)) := by
  refine Ct.ofZ RX12 "after" [(0, .ref (a 0)), (1, .int 5), (2, .int 3)] rfl rfl rfl rfl (Nat.le_of_ble_eq_true rfl) ?_
  intro p e R s m args below meth c A b
  refine z_iload_n b dX12_after_0 rfl rfl ?_
  refine z_calli b (z_runS (As := [.int 5]) (st := []) b (c_X12_isRow_8 S ) cf_X12_isRow wm_X12_452 ws_X12_isRow dX12_after_1 rfl (Nat.le_of_ble_eq_true rfl) ⟨by decide, by decide, by decide, by decide⟩) (fun r21136 u21137 h21135 => ?_)
  obtain ⟨rfl, rfl⟩ := h21135
  refine z_if_ne_t (tgt := 9) b dX12_after_4 (by decide) (by decide) ?_
  refine z_aload_n b dX12_after_9 rfl rfl ?_
  refine z_iload_n b dX12_after_10 rfl rfl ?_
  refine z_iconst (v := 3) b dX12_after_11 (by decide) ?_
  refine z_iconst (v := 0) b dX12_after_12 (by decide) ?_
  refine z_calli b (z_runV (q0 := 0) (As := [.int 5, .int 3, .int 0]) (st := []) b (c_X12_goes_12 S h_l_0 h_a_38_5) cf_X12_goes (mw_0 cy a S) rfl wm_X12_464 wi_X12_goes ws_X12_goes dX12_after_13 rfl (Nat.le_of_ble_eq_true rfl) ⟨by decide, by decide, by decide, by decide⟩) (fun r21139 u21140 h21138 => ?_)
  obtain ⟨rfl, rfl⟩ := h21138
  refine z_pop b dX12_after_16 rfl ?_
  refine z_aload_n b dX12_after_17 rfl rfl ?_
  refine z_aload_n b dX12_after_18 rfl rfl ?_
  refine z_get (q0 := 0) (k9 := 68) (v := .long 1649317774848) b (mw_0 cy a (si (sl S 2 1649317774848) 24 (-1))) rfl in_X12 (by decide) wf_X12_458 rfl dX12_after_19 ?_
  refine z_callv b (z_runV (q0 := 0) (As := [.long 1649317774848]) (st := []) b (c_X12_takes (si (sl S 2 1649317774848) 24 (-1)) h_a_4_7 h_a_1_7 h_a_4_6 h_a_1_6 h_a_3_6 h_a_3_2 h_a_2_2 h_a_0_2 h_a_4_3 h_a_1_3 h_a_4_5 h_a_1_5 h_a_3_5 h_a_3_7 h_a_2_1 h_a_0_1 h_a_4_2 h_a_1_2 h_a_4_1 h_a_1_1 h_a_3_1 h_a_3_3 h_a_2_0 h_a_0_0 h_i_0) cf_X12_takes (mw_0 cy a (si (sl S 2 1649317774848) 24 (-1))) rfl wm_X12_174 wi_X12_takes ws_X12_takes dX12_after_22 rfl (Nat.le_of_ble_eq_true rfl) ⟨by decide, by decide, by decide, by decide⟩) (fun u21143 h21141 => ?_)
  obtain rfl := h21141
  refine z_iload_n b dX12_after_25 rfl rfl ?_
  refine z_calli b (z_runS (As := [.int 3]) (st := []) b (c_X12_isOne_8 (si (sl S 2 1649317774848) 24 (-1)) ) cf_X12_isOne wm_X12_170 ws_X12_isOne dX12_after_26 rfl (Nat.le_of_ble_eq_true rfl) ⟨by decide, by decide, by decide, by decide⟩) (fun r21145 u21146 h21144 => ?_)
  obtain ⟨rfl, rfl⟩ := h21144
  refine z_if_eq_t (tgt := 39) b dX12_after_29 (by decide) (by decide) ?_
  refine z_iload_n b dX12_after_39 rfl rfl ?_
  refine z_bipush (v := 50) b dX12_after_40 (by decide) ?_
  refine z_icmp_ne_t (tgt := 50) b dX12_after_42 (by decide) (by decide) ?_
  refine z_iload_n b dX12_after_50 rfl rfl ?_
  refine z_bipush (v := 40) b dX12_after_51 (by decide) ?_
  refine z_bipush (v := 42) b dX12_after_53 (by decide) ?_
  refine z_calli b (z_runS (As := [.int 3, .int 40, .int 42]) (st := []) b (c_X12_isIn_69 (si (sl S 2 1649317774848) 24 (-1)) ) cf_X12_isIn wm_X12_1 ws_X12_isIn dX12_after_55 rfl (Nat.le_of_ble_eq_true rfl) ⟨by decide, by decide, by decide, by decide⟩) (fun r21148 u21149 h21147 => ?_)
  obtain ⟨rfl, rfl⟩ := h21147
  refine z_if_eq_t (tgt := 71) b dX12_after_58 (by decide) (by decide) ?_
  refine z_iload_n b dX12_after_71 rfl rfl ?_
  refine z_bipush (v := 10) b dX12_after_72 (by decide) ?_
  refine z_irem (v := 3) b dX12_after_74 (by decide) (by decide) ?_
  refine z_istore_n (lv' := [(3, .int 3), (0, .ref (a 0)), (1, .int 5), (2, .int 3)]) b dX12_after_75 rfl (by decide) rfl ?_
  refine z_iload_n b dX12_after_76 rfl rfl ?_
  refine z_bipush (v := 10) b dX12_after_77 (by decide) ?_
  refine z_bipush (v := 38) b dX12_after_79 (by decide) ?_
  refine z_calli b (z_runS (As := [.int 3, .int 10, .int 38]) (st := []) b (c_X12_isIn_70 (si (sl S 2 1649317774848) 24 (-1)) ) cf_X12_isIn wm_X12_1 ws_X12_isIn dX12_after_81 rfl (Nat.le_of_ble_eq_true rfl) ⟨by decide, by decide, by decide, by decide⟩) (fun r21151 u21152 h21150 => ?_)
  obtain ⟨rfl, rfl⟩ := h21150
  refine z_if_eq_t (tgt := 102) b dX12_after_84 (by decide) (by decide) ?_
  refine z_iconst (v := (-1)) b dX12_after_102 (by decide) ?_
  exact z_iret (u := (si (sl S 2 1649317774848) 24 (-1))) b rfl dX12_after_103 ⟨rfl, rfl⟩ rfl (by decide) (by decide)

set_option maxHeartbeats 4000000 in
set_option maxRecDepth 100000 in
theorem c_X11_after_279 {l : Launch} {D : va_G} {cy : Nat → ClassId} {T0 tB tE : Nat} {a : Nat → Nat} {rw : Nat → Option Nat} (S : GS)   : Ct l D cy T0 tB tE yX11_after cX11_after 3 (some .int) 2 41 0 0 (cw cy tE a rw S) [.ref (a 0), .int 5, .int 4] (QI D (U := GS) (fun r u => (-1) = r ∧ S = u) (cw cy tE a rw)) := by
  refine Ct.ofZ RX11 "after" [(0, .ref (a 0)), (1, .int 5), (2, .int 4)] rfl rfl rfl rfl (Nat.le_of_ble_eq_true rfl) ?_
  intro p e R s m args below meth c A b
  refine z_iload_n b dX11_after_0 rfl rfl ?_
  refine z_calli b (z_runS (As := [.int 5]) (st := []) b (c_X11_isRow_8 S ) cf_X11_isRow wm_X11_169 ws_X11_isRow dX11_after_1 rfl (Nat.le_of_ble_eq_true rfl) ⟨by decide, by decide, by decide, by decide⟩) (fun r21154 u21155 h21153 => ?_)
  obtain ⟨rfl, rfl⟩ := h21153
  refine z_if_eq_f (tgt := 14) b dX11_after_4 (by decide) (by decide) ?_
  refine z_iload_n b dX11_after_7 rfl rfl ?_
  refine z_calli b (z_runS (As := [.int 4]) (st := []) b (c_X9_has_7 S ) cf_X9_has wm_X11_191 ws_X9_has dX11_after_8 rfl (Nat.le_of_ble_eq_true rfl) ⟨by decide, by decide, by decide, by decide⟩) (fun r21157 u21158 h21156 => ?_)
  obtain ⟨rfl, rfl⟩ := h21156
  refine z_if_ne_f (tgt := 16) b dX11_after_11 (by decide) (by decide) ?_
  refine z_iconst (v := (-1)) b dX11_after_14 (by decide) ?_
  exact z_iret (u := S) b rfl dX11_after_15 ⟨rfl, rfl⟩ rfl (by decide) (by decide)

set_option maxHeartbeats 4000000 in
set_option maxRecDepth 100000 in
theorem c_X12_after_279 {l : Launch} {D : va_G} {cy : Nat → ClassId} {T0 tB tE : Nat} {a : Nat → Nat} (S : GS)  (h_l_0 : fl S 0 = 1649317774848) (h_a_38_5 : ar S 38 5 = 0) (h_a_4_7 : ar S 4 7 = 0) (h_a_1_7 : ar S 1 7 = 0) (h_a_4_6 : ar S 4 6 = 0) (h_a_1_6 : ar S 1 6 = 0) (h_a_3_6 : ar S 3 6 = 0) (h_a_3_2 : ar S 3 2 = 0) (h_a_2_2 : ar S 2 2 = 3) (h_a_0_2 : ar S 0 2 = 0) (h_a_4_3 : ar S 4 3 = 0) (h_a_1_3 : ar S 1 3 = 0) (h_a_4_5 : ar S 4 5 = 0) (h_a_1_5 : ar S 1 5 = 0) (h_a_3_5 : ar S 3 5 = 0) (h_a_3_7 : ar S 3 7 = 0) (h_a_2_1 : ar S 2 1 = 3) (h_a_0_1 : ar S 0 1 = 0) (h_a_4_2 : ar S 4 2 = 0) (h_a_1_2 : ar S 1 2 = 0) (h_a_4_1 : ar S 4 1 = 0) (h_a_1_1 : ar S 1 1 = 0) (h_a_3_1 : ar S 3 1 = 0) (h_a_3_3 : ar S 3 3 = 0) (h_a_2_0 : ar S 2 0 = 3) (h_a_0_0 : ar S 0 0 = 0) (h_i_0 : fi S 0 = 0) : Ct l D cy T0 tB tE yX12_after cX12_after 4 (some .int) 2 47 0 0 (mw cy a S) [.ref (a 0), .int 5, .int 4] (QI D (U := GS) (fun r u => (-1) = r ∧ (si (sl S 2 1649317774848) 24 (-1)) = u) (mw cy a)) := by
  refine Ct.ofZ RX12 "after" [(0, .ref (a 0)), (1, .int 5), (2, .int 4)] rfl rfl rfl rfl (Nat.le_of_ble_eq_true rfl) ?_
  intro p e R s m args below meth c A b
  refine z_iload_n b dX12_after_0 rfl rfl ?_
  refine z_calli b (z_runS (As := [.int 5]) (st := []) b (c_X12_isRow_8 S ) cf_X12_isRow wm_X12_452 ws_X12_isRow dX12_after_1 rfl (Nat.le_of_ble_eq_true rfl) ⟨by decide, by decide, by decide, by decide⟩) (fun r21160 u21161 h21159 => ?_)
  obtain ⟨rfl, rfl⟩ := h21159
  refine z_if_ne_t (tgt := 9) b dX12_after_4 (by decide) (by decide) ?_
  refine z_aload_n b dX12_after_9 rfl rfl ?_
  refine z_iload_n b dX12_after_10 rfl rfl ?_
  refine z_iconst (v := 3) b dX12_after_11 (by decide) ?_
  refine z_iconst (v := 0) b dX12_after_12 (by decide) ?_
  refine z_calli b (z_runV (q0 := 0) (As := [.int 5, .int 3, .int 0]) (st := []) b (c_X12_goes_12 S h_l_0 h_a_38_5) cf_X12_goes (mw_0 cy a S) rfl wm_X12_464 wi_X12_goes ws_X12_goes dX12_after_13 rfl (Nat.le_of_ble_eq_true rfl) ⟨by decide, by decide, by decide, by decide⟩) (fun r21163 u21164 h21162 => ?_)
  obtain ⟨rfl, rfl⟩ := h21162
  refine z_pop b dX12_after_16 rfl ?_
  refine z_aload_n b dX12_after_17 rfl rfl ?_
  refine z_aload_n b dX12_after_18 rfl rfl ?_
  refine z_get (q0 := 0) (k9 := 68) (v := .long 1649317774848) b (mw_0 cy a (si (sl S 2 1649317774848) 24 (-1))) rfl in_X12 (by decide) wf_X12_458 rfl dX12_after_19 ?_
  refine z_callv b (z_runV (q0 := 0) (As := [.long 1649317774848]) (st := []) b (c_X12_takes (si (sl S 2 1649317774848) 24 (-1)) h_a_4_7 h_a_1_7 h_a_4_6 h_a_1_6 h_a_3_6 h_a_3_2 h_a_2_2 h_a_0_2 h_a_4_3 h_a_1_3 h_a_4_5 h_a_1_5 h_a_3_5 h_a_3_7 h_a_2_1 h_a_0_1 h_a_4_2 h_a_1_2 h_a_4_1 h_a_1_1 h_a_3_1 h_a_3_3 h_a_2_0 h_a_0_0 h_i_0) cf_X12_takes (mw_0 cy a (si (sl S 2 1649317774848) 24 (-1))) rfl wm_X12_174 wi_X12_takes ws_X12_takes dX12_after_22 rfl (Nat.le_of_ble_eq_true rfl) ⟨by decide, by decide, by decide, by decide⟩) (fun u21167 h21165 => ?_)
  obtain rfl := h21165
  refine z_iload_n b dX12_after_25 rfl rfl ?_
  refine z_calli b (z_runS (As := [.int 4]) (st := []) b (c_X12_isOne_9 (si (sl S 2 1649317774848) 24 (-1)) ) cf_X12_isOne wm_X12_170 ws_X12_isOne dX12_after_26 rfl (Nat.le_of_ble_eq_true rfl) ⟨by decide, by decide, by decide, by decide⟩) (fun r21169 u21170 h21168 => ?_)
  obtain ⟨rfl, rfl⟩ := h21168
  refine z_if_eq_t (tgt := 39) b dX12_after_29 (by decide) (by decide) ?_
  refine z_iload_n b dX12_after_39 rfl rfl ?_
  refine z_bipush (v := 50) b dX12_after_40 (by decide) ?_
  refine z_icmp_ne_t (tgt := 50) b dX12_after_42 (by decide) (by decide) ?_
  refine z_iload_n b dX12_after_50 rfl rfl ?_
  refine z_bipush (v := 40) b dX12_after_51 (by decide) ?_
  refine z_bipush (v := 42) b dX12_after_53 (by decide) ?_
  refine z_calli b (z_runS (As := [.int 4, .int 40, .int 42]) (st := []) b (c_X12_isIn_72 (si (sl S 2 1649317774848) 24 (-1)) ) cf_X12_isIn wm_X12_1 ws_X12_isIn dX12_after_55 rfl (Nat.le_of_ble_eq_true rfl) ⟨by decide, by decide, by decide, by decide⟩) (fun r21172 u21173 h21171 => ?_)
  obtain ⟨rfl, rfl⟩ := h21171
  refine z_if_eq_t (tgt := 71) b dX12_after_58 (by decide) (by decide) ?_
  refine z_iload_n b dX12_after_71 rfl rfl ?_
  refine z_bipush (v := 10) b dX12_after_72 (by decide) ?_
  refine z_irem (v := 4) b dX12_after_74 (by decide) (by decide) ?_
  refine z_istore_n (lv' := [(3, .int 4), (0, .ref (a 0)), (1, .int 5), (2, .int 4)]) b dX12_after_75 rfl (by decide) rfl ?_
  refine z_iload_n b dX12_after_76 rfl rfl ?_
  refine z_bipush (v := 10) b dX12_after_77 (by decide) ?_
  refine z_bipush (v := 38) b dX12_after_79 (by decide) ?_
  refine z_calli b (z_runS (As := [.int 4, .int 10, .int 38]) (st := []) b (c_X12_isIn_73 (si (sl S 2 1649317774848) 24 (-1)) ) cf_X12_isIn wm_X12_1 ws_X12_isIn dX12_after_81 rfl (Nat.le_of_ble_eq_true rfl) ⟨by decide, by decide, by decide, by decide⟩) (fun r21175 u21176 h21174 => ?_)
  obtain ⟨rfl, rfl⟩ := h21174
  refine z_if_eq_t (tgt := 102) b dX12_after_84 (by decide) (by decide) ?_
  refine z_iconst (v := (-1)) b dX12_after_102 (by decide) ?_
  exact z_iret (u := (si (sl S 2 1649317774848) 24 (-1))) b rfl dX12_after_103 ⟨rfl, rfl⟩ rfl (by decide) (by decide)

set_option maxHeartbeats 4000000 in
set_option maxRecDepth 100000 in
theorem c_X11_after_280 {l : Launch} {D : va_G} {cy : Nat → ClassId} {T0 tB tE : Nat} {a : Nat → Nat} {rw : Nat → Option Nat} (S : GS)   : Ct l D cy T0 tB tE yX11_after cX11_after 3 (some .int) 2 41 0 0 (cw cy tE a rw S) [.ref (a 0), .int 5, .int 5] (QI D (U := GS) (fun r u => (-1) = r ∧ S = u) (cw cy tE a rw)) := by
  refine Ct.ofZ RX11 "after" [(0, .ref (a 0)), (1, .int 5), (2, .int 5)] rfl rfl rfl rfl (Nat.le_of_ble_eq_true rfl) ?_
  intro p e R s m args below meth c A b
  refine z_iload_n b dX11_after_0 rfl rfl ?_
  refine z_calli b (z_runS (As := [.int 5]) (st := []) b (c_X11_isRow_8 S ) cf_X11_isRow wm_X11_169 ws_X11_isRow dX11_after_1 rfl (Nat.le_of_ble_eq_true rfl) ⟨by decide, by decide, by decide, by decide⟩) (fun r21178 u21179 h21177 => ?_)
  obtain ⟨rfl, rfl⟩ := h21177
  refine z_if_eq_f (tgt := 14) b dX11_after_4 (by decide) (by decide) ?_
  refine z_iload_n b dX11_after_7 rfl rfl ?_
  refine z_calli b (z_runS (As := [.int 5]) (st := []) b (c_X9_has_8 S ) cf_X9_has wm_X11_191 ws_X9_has dX11_after_8 rfl (Nat.le_of_ble_eq_true rfl) ⟨by decide, by decide, by decide, by decide⟩) (fun r21181 u21182 h21180 => ?_)
  obtain ⟨rfl, rfl⟩ := h21180
  refine z_if_ne_f (tgt := 16) b dX11_after_11 (by decide) (by decide) ?_
  refine z_iconst (v := (-1)) b dX11_after_14 (by decide) ?_
  exact z_iret (u := S) b rfl dX11_after_15 ⟨rfl, rfl⟩ rfl (by decide) (by decide)

set_option maxHeartbeats 4000000 in
set_option maxRecDepth 100000 in
theorem c_X12_after_280 {l : Launch} {D : va_G} {cy : Nat → ClassId} {T0 tB tE : Nat} {a : Nat → Nat} (S : GS)  (h_l_0 : fl S 0 = 1649317774848) (h_a_38_5 : ar S 38 5 = 0) (h_a_4_7 : ar S 4 7 = 0) (h_a_1_7 : ar S 1 7 = 0) (h_a_4_6 : ar S 4 6 = 0) (h_a_1_6 : ar S 1 6 = 0) (h_a_3_6 : ar S 3 6 = 0) (h_a_3_2 : ar S 3 2 = 0) (h_a_2_2 : ar S 2 2 = 3) (h_a_0_2 : ar S 0 2 = 0) (h_a_4_3 : ar S 4 3 = 0) (h_a_1_3 : ar S 1 3 = 0) (h_a_4_5 : ar S 4 5 = 0) (h_a_1_5 : ar S 1 5 = 0) (h_a_3_5 : ar S 3 5 = 0) (h_a_3_7 : ar S 3 7 = 0) (h_a_2_1 : ar S 2 1 = 3) (h_a_0_1 : ar S 0 1 = 0) (h_a_4_2 : ar S 4 2 = 0) (h_a_1_2 : ar S 1 2 = 0) (h_a_4_1 : ar S 4 1 = 0) (h_a_1_1 : ar S 1 1 = 0) (h_a_3_1 : ar S 3 1 = 0) (h_a_3_3 : ar S 3 3 = 0) (h_a_2_0 : ar S 2 0 = 3) (h_a_0_0 : ar S 0 0 = 0) (h_i_0 : fi S 0 = 0) : Ct l D cy T0 tB tE yX12_after cX12_after 4 (some .int) 2 47 0 0 (mw cy a S) [.ref (a 0), .int 5, .int 5] (QI D (U := GS) (fun r u => (-1) = r ∧ (si (sl S 2 1649317774848) 24 (-1)) = u) (mw cy a)) := by
  refine Ct.ofZ RX12 "after" [(0, .ref (a 0)), (1, .int 5), (2, .int 5)] rfl rfl rfl rfl (Nat.le_of_ble_eq_true rfl) ?_
  intro p e R s m args below meth c A b
  refine z_iload_n b dX12_after_0 rfl rfl ?_
  refine z_calli b (z_runS (As := [.int 5]) (st := []) b (c_X12_isRow_8 S ) cf_X12_isRow wm_X12_452 ws_X12_isRow dX12_after_1 rfl (Nat.le_of_ble_eq_true rfl) ⟨by decide, by decide, by decide, by decide⟩) (fun r21184 u21185 h21183 => ?_)
  obtain ⟨rfl, rfl⟩ := h21183
  refine z_if_ne_t (tgt := 9) b dX12_after_4 (by decide) (by decide) ?_
  refine z_aload_n b dX12_after_9 rfl rfl ?_
  refine z_iload_n b dX12_after_10 rfl rfl ?_
  refine z_iconst (v := 3) b dX12_after_11 (by decide) ?_
  refine z_iconst (v := 0) b dX12_after_12 (by decide) ?_
  refine z_calli b (z_runV (q0 := 0) (As := [.int 5, .int 3, .int 0]) (st := []) b (c_X12_goes_12 S h_l_0 h_a_38_5) cf_X12_goes (mw_0 cy a S) rfl wm_X12_464 wi_X12_goes ws_X12_goes dX12_after_13 rfl (Nat.le_of_ble_eq_true rfl) ⟨by decide, by decide, by decide, by decide⟩) (fun r21187 u21188 h21186 => ?_)
  obtain ⟨rfl, rfl⟩ := h21186
  refine z_pop b dX12_after_16 rfl ?_
  refine z_aload_n b dX12_after_17 rfl rfl ?_
  refine z_aload_n b dX12_after_18 rfl rfl ?_
  refine z_get (q0 := 0) (k9 := 68) (v := .long 1649317774848) b (mw_0 cy a (si (sl S 2 1649317774848) 24 (-1))) rfl in_X12 (by decide) wf_X12_458 rfl dX12_after_19 ?_
  refine z_callv b (z_runV (q0 := 0) (As := [.long 1649317774848]) (st := []) b (c_X12_takes (si (sl S 2 1649317774848) 24 (-1)) h_a_4_7 h_a_1_7 h_a_4_6 h_a_1_6 h_a_3_6 h_a_3_2 h_a_2_2 h_a_0_2 h_a_4_3 h_a_1_3 h_a_4_5 h_a_1_5 h_a_3_5 h_a_3_7 h_a_2_1 h_a_0_1 h_a_4_2 h_a_1_2 h_a_4_1 h_a_1_1 h_a_3_1 h_a_3_3 h_a_2_0 h_a_0_0 h_i_0) cf_X12_takes (mw_0 cy a (si (sl S 2 1649317774848) 24 (-1))) rfl wm_X12_174 wi_X12_takes ws_X12_takes dX12_after_22 rfl (Nat.le_of_ble_eq_true rfl) ⟨by decide, by decide, by decide, by decide⟩) (fun u21191 h21189 => ?_)
  obtain rfl := h21189
  refine z_iload_n b dX12_after_25 rfl rfl ?_
  refine z_calli b (z_runS (As := [.int 5]) (st := []) b (c_X12_isOne_10 (si (sl S 2 1649317774848) 24 (-1)) ) cf_X12_isOne wm_X12_170 ws_X12_isOne dX12_after_26 rfl (Nat.le_of_ble_eq_true rfl) ⟨by decide, by decide, by decide, by decide⟩) (fun r21193 u21194 h21192 => ?_)
  obtain ⟨rfl, rfl⟩ := h21192
  refine z_if_eq_t (tgt := 39) b dX12_after_29 (by decide) (by decide) ?_
  refine z_iload_n b dX12_after_39 rfl rfl ?_
  refine z_bipush (v := 50) b dX12_after_40 (by decide) ?_
  refine z_icmp_ne_t (tgt := 50) b dX12_after_42 (by decide) (by decide) ?_
  refine z_iload_n b dX12_after_50 rfl rfl ?_
  refine z_bipush (v := 40) b dX12_after_51 (by decide) ?_
  refine z_bipush (v := 42) b dX12_after_53 (by decide) ?_
  refine z_calli b (z_runS (As := [.int 5, .int 40, .int 42]) (st := []) b (c_X12_isIn_75 (si (sl S 2 1649317774848) 24 (-1)) ) cf_X12_isIn wm_X12_1 ws_X12_isIn dX12_after_55 rfl (Nat.le_of_ble_eq_true rfl) ⟨by decide, by decide, by decide, by decide⟩) (fun r21196 u21197 h21195 => ?_)
  obtain ⟨rfl, rfl⟩ := h21195
  refine z_if_eq_t (tgt := 71) b dX12_after_58 (by decide) (by decide) ?_
  refine z_iload_n b dX12_after_71 rfl rfl ?_
  refine z_bipush (v := 10) b dX12_after_72 (by decide) ?_
  refine z_irem (v := 5) b dX12_after_74 (by decide) (by decide) ?_
  refine z_istore_n (lv' := [(3, .int 5), (0, .ref (a 0)), (1, .int 5), (2, .int 5)]) b dX12_after_75 rfl (by decide) rfl ?_
  refine z_iload_n b dX12_after_76 rfl rfl ?_
  refine z_bipush (v := 10) b dX12_after_77 (by decide) ?_
  refine z_bipush (v := 38) b dX12_after_79 (by decide) ?_
  refine z_calli b (z_runS (As := [.int 5, .int 10, .int 38]) (st := []) b (c_X12_isIn_76 (si (sl S 2 1649317774848) 24 (-1)) ) cf_X12_isIn wm_X12_1 ws_X12_isIn dX12_after_81 rfl (Nat.le_of_ble_eq_true rfl) ⟨by decide, by decide, by decide, by decide⟩) (fun r21199 u21200 h21198 => ?_)
  obtain ⟨rfl, rfl⟩ := h21198
  refine z_if_eq_t (tgt := 102) b dX12_after_84 (by decide) (by decide) ?_
  refine z_iconst (v := (-1)) b dX12_after_102 (by decide) ?_
  exact z_iret (u := (si (sl S 2 1649317774848) 24 (-1))) b rfl dX12_after_103 ⟨rfl, rfl⟩ rfl (by decide) (by decide)

set_option maxHeartbeats 4000000 in
set_option maxRecDepth 100000 in
theorem c_X11_after_281 {l : Launch} {D : va_G} {cy : Nat → ClassId} {T0 tB tE : Nat} {a : Nat → Nat} {rw : Nat → Option Nat} (S : GS)   : Ct l D cy T0 tB tE yX11_after cX11_after 3 (some .int) 2 41 0 0 (cw cy tE a rw S) [.ref (a 0), .int 5, .int 6] (QI D (U := GS) (fun r u => (-1) = r ∧ S = u) (cw cy tE a rw)) := by
  refine Ct.ofZ RX11 "after" [(0, .ref (a 0)), (1, .int 5), (2, .int 6)] rfl rfl rfl rfl (Nat.le_of_ble_eq_true rfl) ?_
  intro p e R s m args below meth c A b
  refine z_iload_n b dX11_after_0 rfl rfl ?_
  refine z_calli b (z_runS (As := [.int 5]) (st := []) b (c_X11_isRow_8 S ) cf_X11_isRow wm_X11_169 ws_X11_isRow dX11_after_1 rfl (Nat.le_of_ble_eq_true rfl) ⟨by decide, by decide, by decide, by decide⟩) (fun r21202 u21203 h21201 => ?_)
  obtain ⟨rfl, rfl⟩ := h21201
  refine z_if_eq_f (tgt := 14) b dX11_after_4 (by decide) (by decide) ?_
  refine z_iload_n b dX11_after_7 rfl rfl ?_
  refine z_calli b (z_runS (As := [.int 6]) (st := []) b (c_X9_has_9 S ) cf_X9_has wm_X11_191 ws_X9_has dX11_after_8 rfl (Nat.le_of_ble_eq_true rfl) ⟨by decide, by decide, by decide, by decide⟩) (fun r21205 u21206 h21204 => ?_)
  obtain ⟨rfl, rfl⟩ := h21204
  refine z_if_ne_f (tgt := 16) b dX11_after_11 (by decide) (by decide) ?_
  refine z_iconst (v := (-1)) b dX11_after_14 (by decide) ?_
  exact z_iret (u := S) b rfl dX11_after_15 ⟨rfl, rfl⟩ rfl (by decide) (by decide)

set_option maxHeartbeats 4000000 in
set_option maxRecDepth 100000 in
theorem c_X12_after_281 {l : Launch} {D : va_G} {cy : Nat → ClassId} {T0 tB tE : Nat} {a : Nat → Nat} (S : GS)  (h_l_0 : fl S 0 = 1649317774848) (h_a_38_5 : ar S 38 5 = 0) (h_a_4_7 : ar S 4 7 = 0) (h_a_1_7 : ar S 1 7 = 0) (h_a_4_6 : ar S 4 6 = 0) (h_a_1_6 : ar S 1 6 = 0) (h_a_3_6 : ar S 3 6 = 0) (h_a_3_2 : ar S 3 2 = 0) (h_a_2_2 : ar S 2 2 = 3) (h_a_0_2 : ar S 0 2 = 0) (h_a_4_3 : ar S 4 3 = 0) (h_a_1_3 : ar S 1 3 = 0) (h_a_4_5 : ar S 4 5 = 0) (h_a_1_5 : ar S 1 5 = 0) (h_a_3_5 : ar S 3 5 = 0) (h_a_3_7 : ar S 3 7 = 0) (h_a_2_1 : ar S 2 1 = 3) (h_a_0_1 : ar S 0 1 = 0) (h_a_4_2 : ar S 4 2 = 0) (h_a_1_2 : ar S 1 2 = 0) (h_a_4_1 : ar S 4 1 = 0) (h_a_1_1 : ar S 1 1 = 0) (h_a_3_1 : ar S 3 1 = 0) (h_a_3_3 : ar S 3 3 = 0) (h_a_2_0 : ar S 2 0 = 3) (h_a_0_0 : ar S 0 0 = 0) (h_i_0 : fi S 0 = 0) : Ct l D cy T0 tB tE yX12_after cX12_after 4 (some .int) 2 47 0 0 (mw cy a S) [.ref (a 0), .int 5, .int 6] (QI D (U := GS) (fun r u => (-1) = r ∧ (si (sl S 2 1649317774848) 24 (-1)) = u) (mw cy a)) := by
  refine Ct.ofZ RX12 "after" [(0, .ref (a 0)), (1, .int 5), (2, .int 6)] rfl rfl rfl rfl (Nat.le_of_ble_eq_true rfl) ?_
  intro p e R s m args below meth c A b
  refine z_iload_n b dX12_after_0 rfl rfl ?_
  refine z_calli b (z_runS (As := [.int 5]) (st := []) b (c_X12_isRow_8 S ) cf_X12_isRow wm_X12_452 ws_X12_isRow dX12_after_1 rfl (Nat.le_of_ble_eq_true rfl) ⟨by decide, by decide, by decide, by decide⟩) (fun r21208 u21209 h21207 => ?_)
  obtain ⟨rfl, rfl⟩ := h21207
  refine z_if_ne_t (tgt := 9) b dX12_after_4 (by decide) (by decide) ?_
  refine z_aload_n b dX12_after_9 rfl rfl ?_
  refine z_iload_n b dX12_after_10 rfl rfl ?_
  refine z_iconst (v := 3) b dX12_after_11 (by decide) ?_
  refine z_iconst (v := 0) b dX12_after_12 (by decide) ?_
  refine z_calli b (z_runV (q0 := 0) (As := [.int 5, .int 3, .int 0]) (st := []) b (c_X12_goes_12 S h_l_0 h_a_38_5) cf_X12_goes (mw_0 cy a S) rfl wm_X12_464 wi_X12_goes ws_X12_goes dX12_after_13 rfl (Nat.le_of_ble_eq_true rfl) ⟨by decide, by decide, by decide, by decide⟩) (fun r21211 u21212 h21210 => ?_)
  obtain ⟨rfl, rfl⟩ := h21210
  refine z_pop b dX12_after_16 rfl ?_
  refine z_aload_n b dX12_after_17 rfl rfl ?_
  refine z_aload_n b dX12_after_18 rfl rfl ?_
  refine z_get (q0 := 0) (k9 := 68) (v := .long 1649317774848) b (mw_0 cy a (si (sl S 2 1649317774848) 24 (-1))) rfl in_X12 (by decide) wf_X12_458 rfl dX12_after_19 ?_
  refine z_callv b (z_runV (q0 := 0) (As := [.long 1649317774848]) (st := []) b (c_X12_takes (si (sl S 2 1649317774848) 24 (-1)) h_a_4_7 h_a_1_7 h_a_4_6 h_a_1_6 h_a_3_6 h_a_3_2 h_a_2_2 h_a_0_2 h_a_4_3 h_a_1_3 h_a_4_5 h_a_1_5 h_a_3_5 h_a_3_7 h_a_2_1 h_a_0_1 h_a_4_2 h_a_1_2 h_a_4_1 h_a_1_1 h_a_3_1 h_a_3_3 h_a_2_0 h_a_0_0 h_i_0) cf_X12_takes (mw_0 cy a (si (sl S 2 1649317774848) 24 (-1))) rfl wm_X12_174 wi_X12_takes ws_X12_takes dX12_after_22 rfl (Nat.le_of_ble_eq_true rfl) ⟨by decide, by decide, by decide, by decide⟩) (fun u21215 h21213 => ?_)
  obtain rfl := h21213
  refine z_iload_n b dX12_after_25 rfl rfl ?_
  refine z_calli b (z_runS (As := [.int 6]) (st := []) b (c_X12_isOne_11 (si (sl S 2 1649317774848) 24 (-1)) ) cf_X12_isOne wm_X12_170 ws_X12_isOne dX12_after_26 rfl (Nat.le_of_ble_eq_true rfl) ⟨by decide, by decide, by decide, by decide⟩) (fun r21217 u21218 h21216 => ?_)
  obtain ⟨rfl, rfl⟩ := h21216
  refine z_if_eq_t (tgt := 39) b dX12_after_29 (by decide) (by decide) ?_
  refine z_iload_n b dX12_after_39 rfl rfl ?_
  refine z_bipush (v := 50) b dX12_after_40 (by decide) ?_
  refine z_icmp_ne_t (tgt := 50) b dX12_after_42 (by decide) (by decide) ?_
  refine z_iload_n b dX12_after_50 rfl rfl ?_
  refine z_bipush (v := 40) b dX12_after_51 (by decide) ?_
  refine z_bipush (v := 42) b dX12_after_53 (by decide) ?_
  refine z_calli b (z_runS (As := [.int 6, .int 40, .int 42]) (st := []) b (c_X12_isIn_78 (si (sl S 2 1649317774848) 24 (-1)) ) cf_X12_isIn wm_X12_1 ws_X12_isIn dX12_after_55 rfl (Nat.le_of_ble_eq_true rfl) ⟨by decide, by decide, by decide, by decide⟩) (fun r21220 u21221 h21219 => ?_)
  obtain ⟨rfl, rfl⟩ := h21219
  refine z_if_eq_t (tgt := 71) b dX12_after_58 (by decide) (by decide) ?_
  refine z_iload_n b dX12_after_71 rfl rfl ?_
  refine z_bipush (v := 10) b dX12_after_72 (by decide) ?_
  refine z_irem (v := 6) b dX12_after_74 (by decide) (by decide) ?_
  refine z_istore_n (lv' := [(3, .int 6), (0, .ref (a 0)), (1, .int 5), (2, .int 6)]) b dX12_after_75 rfl (by decide) rfl ?_
  refine z_iload_n b dX12_after_76 rfl rfl ?_
  refine z_bipush (v := 10) b dX12_after_77 (by decide) ?_
  refine z_bipush (v := 38) b dX12_after_79 (by decide) ?_
  refine z_calli b (z_runS (As := [.int 6, .int 10, .int 38]) (st := []) b (c_X12_isIn_79 (si (sl S 2 1649317774848) 24 (-1)) ) cf_X12_isIn wm_X12_1 ws_X12_isIn dX12_after_81 rfl (Nat.le_of_ble_eq_true rfl) ⟨by decide, by decide, by decide, by decide⟩) (fun r21223 u21224 h21222 => ?_)
  obtain ⟨rfl, rfl⟩ := h21222
  refine z_if_eq_t (tgt := 102) b dX12_after_84 (by decide) (by decide) ?_
  refine z_iconst (v := (-1)) b dX12_after_102 (by decide) ?_
  exact z_iret (u := (si (sl S 2 1649317774848) 24 (-1))) b rfl dX12_after_103 ⟨rfl, rfl⟩ rfl (by decide) (by decide)

set_option maxHeartbeats 4000000 in
set_option maxRecDepth 100000 in
theorem c_X11_after_282 {l : Launch} {D : va_G} {cy : Nat → ClassId} {T0 tB tE : Nat} {a : Nat → Nat} {rw : Nat → Option Nat} (S : GS)   : Ct l D cy T0 tB tE yX11_after cX11_after 3 (some .int) 2 41 0 0 (cw cy tE a rw S) [.ref (a 0), .int 5, .int 7] (QI D (U := GS) (fun r u => (-1) = r ∧ S = u) (cw cy tE a rw)) := by
  refine Ct.ofZ RX11 "after" [(0, .ref (a 0)), (1, .int 5), (2, .int 7)] rfl rfl rfl rfl (Nat.le_of_ble_eq_true rfl) ?_
  intro p e R s m args below meth c A b
  refine z_iload_n b dX11_after_0 rfl rfl ?_
  refine z_calli b (z_runS (As := [.int 5]) (st := []) b (c_X11_isRow_8 S ) cf_X11_isRow wm_X11_169 ws_X11_isRow dX11_after_1 rfl (Nat.le_of_ble_eq_true rfl) ⟨by decide, by decide, by decide, by decide⟩) (fun r21226 u21227 h21225 => ?_)
  obtain ⟨rfl, rfl⟩ := h21225
  refine z_if_eq_f (tgt := 14) b dX11_after_4 (by decide) (by decide) ?_
  refine z_iload_n b dX11_after_7 rfl rfl ?_
  refine z_calli b (z_runS (As := [.int 7]) (st := []) b (c_X9_has_10 S ) cf_X9_has wm_X11_191 ws_X9_has dX11_after_8 rfl (Nat.le_of_ble_eq_true rfl) ⟨by decide, by decide, by decide, by decide⟩) (fun r21229 u21230 h21228 => ?_)
  obtain ⟨rfl, rfl⟩ := h21228
  refine z_if_ne_f (tgt := 16) b dX11_after_11 (by decide) (by decide) ?_
  refine z_iconst (v := (-1)) b dX11_after_14 (by decide) ?_
  exact z_iret (u := S) b rfl dX11_after_15 ⟨rfl, rfl⟩ rfl (by decide) (by decide)

set_option maxHeartbeats 4000000 in
set_option maxRecDepth 100000 in
theorem c_X12_after_282 {l : Launch} {D : va_G} {cy : Nat → ClassId} {T0 tB tE : Nat} {a : Nat → Nat} (S : GS)  (h_l_0 : fl S 0 = 1649317774848) (h_a_38_5 : ar S 38 5 = 0) (h_a_4_7 : ar S 4 7 = 0) (h_a_1_7 : ar S 1 7 = 0) (h_a_4_6 : ar S 4 6 = 0) (h_a_1_6 : ar S 1 6 = 0) (h_a_3_6 : ar S 3 6 = 0) (h_a_3_2 : ar S 3 2 = 0) (h_a_2_2 : ar S 2 2 = 3) (h_a_0_2 : ar S 0 2 = 0) (h_a_4_3 : ar S 4 3 = 0) (h_a_1_3 : ar S 1 3 = 0) (h_a_4_5 : ar S 4 5 = 0) (h_a_1_5 : ar S 1 5 = 0) (h_a_3_5 : ar S 3 5 = 0) (h_a_3_7 : ar S 3 7 = 0) (h_a_2_1 : ar S 2 1 = 3) (h_a_0_1 : ar S 0 1 = 0) (h_a_4_2 : ar S 4 2 = 0) (h_a_1_2 : ar S 1 2 = 0) (h_a_4_1 : ar S 4 1 = 0) (h_a_1_1 : ar S 1 1 = 0) (h_a_3_1 : ar S 3 1 = 0) (h_a_3_3 : ar S 3 3 = 0) (h_a_2_0 : ar S 2 0 = 3) (h_a_0_0 : ar S 0 0 = 0) (h_i_0 : fi S 0 = 0) : Ct l D cy T0 tB tE yX12_after cX12_after 4 (some .int) 2 47 0 0 (mw cy a S) [.ref (a 0), .int 5, .int 7] (QI D (U := GS) (fun r u => (-1) = r ∧ (si (sl S 2 1649317774848) 24 (-1)) = u) (mw cy a)) := by
  refine Ct.ofZ RX12 "after" [(0, .ref (a 0)), (1, .int 5), (2, .int 7)] rfl rfl rfl rfl (Nat.le_of_ble_eq_true rfl) ?_
  intro p e R s m args below meth c A b
  refine z_iload_n b dX12_after_0 rfl rfl ?_
  refine z_calli b (z_runS (As := [.int 5]) (st := []) b (c_X12_isRow_8 S ) cf_X12_isRow wm_X12_452 ws_X12_isRow dX12_after_1 rfl (Nat.le_of_ble_eq_true rfl) ⟨by decide, by decide, by decide, by decide⟩) (fun r21232 u21233 h21231 => ?_)
  obtain ⟨rfl, rfl⟩ := h21231
  refine z_if_ne_t (tgt := 9) b dX12_after_4 (by decide) (by decide) ?_
  refine z_aload_n b dX12_after_9 rfl rfl ?_
  refine z_iload_n b dX12_after_10 rfl rfl ?_
  refine z_iconst (v := 3) b dX12_after_11 (by decide) ?_
  refine z_iconst (v := 0) b dX12_after_12 (by decide) ?_
  refine z_calli b (z_runV (q0 := 0) (As := [.int 5, .int 3, .int 0]) (st := []) b (c_X12_goes_12 S h_l_0 h_a_38_5) cf_X12_goes (mw_0 cy a S) rfl wm_X12_464 wi_X12_goes ws_X12_goes dX12_after_13 rfl (Nat.le_of_ble_eq_true rfl) ⟨by decide, by decide, by decide, by decide⟩) (fun r21235 u21236 h21234 => ?_)
  obtain ⟨rfl, rfl⟩ := h21234
  refine z_pop b dX12_after_16 rfl ?_
  refine z_aload_n b dX12_after_17 rfl rfl ?_
  refine z_aload_n b dX12_after_18 rfl rfl ?_
  refine z_get (q0 := 0) (k9 := 68) (v := .long 1649317774848) b (mw_0 cy a (si (sl S 2 1649317774848) 24 (-1))) rfl in_X12 (by decide) wf_X12_458 rfl dX12_after_19 ?_
  refine z_callv b (z_runV (q0 := 0) (As := [.long 1649317774848]) (st := []) b (c_X12_takes (si (sl S 2 1649317774848) 24 (-1)) h_a_4_7 h_a_1_7 h_a_4_6 h_a_1_6 h_a_3_6 h_a_3_2 h_a_2_2 h_a_0_2 h_a_4_3 h_a_1_3 h_a_4_5 h_a_1_5 h_a_3_5 h_a_3_7 h_a_2_1 h_a_0_1 h_a_4_2 h_a_1_2 h_a_4_1 h_a_1_1 h_a_3_1 h_a_3_3 h_a_2_0 h_a_0_0 h_i_0) cf_X12_takes (mw_0 cy a (si (sl S 2 1649317774848) 24 (-1))) rfl wm_X12_174 wi_X12_takes ws_X12_takes dX12_after_22 rfl (Nat.le_of_ble_eq_true rfl) ⟨by decide, by decide, by decide, by decide⟩) (fun u21239 h21237 => ?_)
  obtain rfl := h21237
  refine z_iload_n b dX12_after_25 rfl rfl ?_
  refine z_calli b (z_runS (As := [.int 7]) (st := []) b (c_X12_isOne_12 (si (sl S 2 1649317774848) 24 (-1)) ) cf_X12_isOne wm_X12_170 ws_X12_isOne dX12_after_26 rfl (Nat.le_of_ble_eq_true rfl) ⟨by decide, by decide, by decide, by decide⟩) (fun r21241 u21242 h21240 => ?_)
  obtain ⟨rfl, rfl⟩ := h21240
  refine z_if_eq_t (tgt := 39) b dX12_after_29 (by decide) (by decide) ?_
  refine z_iload_n b dX12_after_39 rfl rfl ?_
  refine z_bipush (v := 50) b dX12_after_40 (by decide) ?_
  refine z_icmp_ne_t (tgt := 50) b dX12_after_42 (by decide) (by decide) ?_
  refine z_iload_n b dX12_after_50 rfl rfl ?_
  refine z_bipush (v := 40) b dX12_after_51 (by decide) ?_
  refine z_bipush (v := 42) b dX12_after_53 (by decide) ?_
  refine z_calli b (z_runS (As := [.int 7, .int 40, .int 42]) (st := []) b (c_X12_isIn_81 (si (sl S 2 1649317774848) 24 (-1)) ) cf_X12_isIn wm_X12_1 ws_X12_isIn dX12_after_55 rfl (Nat.le_of_ble_eq_true rfl) ⟨by decide, by decide, by decide, by decide⟩) (fun r21244 u21245 h21243 => ?_)
  obtain ⟨rfl, rfl⟩ := h21243
  refine z_if_eq_t (tgt := 71) b dX12_after_58 (by decide) (by decide) ?_
  refine z_iload_n b dX12_after_71 rfl rfl ?_
  refine z_bipush (v := 10) b dX12_after_72 (by decide) ?_
  refine z_irem (v := 7) b dX12_after_74 (by decide) (by decide) ?_
  refine z_istore_n (lv' := [(3, .int 7), (0, .ref (a 0)), (1, .int 5), (2, .int 7)]) b dX12_after_75 rfl (by decide) rfl ?_
  refine z_iload_n b dX12_after_76 rfl rfl ?_
  refine z_bipush (v := 10) b dX12_after_77 (by decide) ?_
  refine z_bipush (v := 38) b dX12_after_79 (by decide) ?_
  refine z_calli b (z_runS (As := [.int 7, .int 10, .int 38]) (st := []) b (c_X12_isIn_82 (si (sl S 2 1649317774848) 24 (-1)) ) cf_X12_isIn wm_X12_1 ws_X12_isIn dX12_after_81 rfl (Nat.le_of_ble_eq_true rfl) ⟨by decide, by decide, by decide, by decide⟩) (fun r21247 u21248 h21246 => ?_)
  obtain ⟨rfl, rfl⟩ := h21246
  refine z_if_eq_t (tgt := 102) b dX12_after_84 (by decide) (by decide) ?_
  refine z_iconst (v := (-1)) b dX12_after_102 (by decide) ?_
  exact z_iret (u := (si (sl S 2 1649317774848) 24 (-1))) b rfl dX12_after_103 ⟨rfl, rfl⟩ rfl (by decide) (by decide)

set_option maxHeartbeats 4000000 in
set_option maxRecDepth 100000 in
theorem c_X11_after_283 {l : Launch} {D : va_G} {cy : Nat → ClassId} {T0 tB tE : Nat} {a : Nat → Nat} {rw : Nat → Option Nat} (S : GS)   : Ct l D cy T0 tB tE yX11_after cX11_after 3 (some .int) 2 41 0 0 (cw cy tE a rw S) [.ref (a 0), .int 5, .int 8] (QI D (U := GS) (fun r u => (-1) = r ∧ S = u) (cw cy tE a rw)) := by
  refine Ct.ofZ RX11 "after" [(0, .ref (a 0)), (1, .int 5), (2, .int 8)] rfl rfl rfl rfl (Nat.le_of_ble_eq_true rfl) ?_
  intro p e R s m args below meth c A b
  refine z_iload_n b dX11_after_0 rfl rfl ?_
  refine z_calli b (z_runS (As := [.int 5]) (st := []) b (c_X11_isRow_8 S ) cf_X11_isRow wm_X11_169 ws_X11_isRow dX11_after_1 rfl (Nat.le_of_ble_eq_true rfl) ⟨by decide, by decide, by decide, by decide⟩) (fun r21250 u21251 h21249 => ?_)
  obtain ⟨rfl, rfl⟩ := h21249
  refine z_if_eq_f (tgt := 14) b dX11_after_4 (by decide) (by decide) ?_
  refine z_iload_n b dX11_after_7 rfl rfl ?_
  refine z_calli b (z_runS (As := [.int 8]) (st := []) b (c_X9_has_11 S ) cf_X9_has wm_X11_191 ws_X9_has dX11_after_8 rfl (Nat.le_of_ble_eq_true rfl) ⟨by decide, by decide, by decide, by decide⟩) (fun r21253 u21254 h21252 => ?_)
  obtain ⟨rfl, rfl⟩ := h21252
  refine z_if_ne_f (tgt := 16) b dX11_after_11 (by decide) (by decide) ?_
  refine z_iconst (v := (-1)) b dX11_after_14 (by decide) ?_
  exact z_iret (u := S) b rfl dX11_after_15 ⟨rfl, rfl⟩ rfl (by decide) (by decide)

set_option maxHeartbeats 4000000 in
set_option maxRecDepth 100000 in
theorem c_X12_after_283 {l : Launch} {D : va_G} {cy : Nat → ClassId} {T0 tB tE : Nat} {a : Nat → Nat} (S : GS)  (h_l_0 : fl S 0 = 1649317774848) (h_a_38_5 : ar S 38 5 = 0) (h_a_4_7 : ar S 4 7 = 0) (h_a_1_7 : ar S 1 7 = 0) (h_a_4_6 : ar S 4 6 = 0) (h_a_1_6 : ar S 1 6 = 0) (h_a_3_6 : ar S 3 6 = 0) (h_a_3_2 : ar S 3 2 = 0) (h_a_2_2 : ar S 2 2 = 3) (h_a_0_2 : ar S 0 2 = 0) (h_a_4_3 : ar S 4 3 = 0) (h_a_1_3 : ar S 1 3 = 0) (h_a_4_5 : ar S 4 5 = 0) (h_a_1_5 : ar S 1 5 = 0) (h_a_3_5 : ar S 3 5 = 0) (h_a_3_7 : ar S 3 7 = 0) (h_a_2_1 : ar S 2 1 = 3) (h_a_0_1 : ar S 0 1 = 0) (h_a_4_2 : ar S 4 2 = 0) (h_a_1_2 : ar S 1 2 = 0) (h_a_4_1 : ar S 4 1 = 0) (h_a_1_1 : ar S 1 1 = 0) (h_a_3_1 : ar S 3 1 = 0) (h_a_3_3 : ar S 3 3 = 0) (h_a_2_0 : ar S 2 0 = 3) (h_a_0_0 : ar S 0 0 = 0) (h_i_0 : fi S 0 = 0) : Ct l D cy T0 tB tE yX12_after cX12_after 4 (some .int) 2 47 0 0 (mw cy a S) [.ref (a 0), .int 5, .int 8] (QI D (U := GS) (fun r u => (-1) = r ∧ (si (sl S 2 1649317774848) 24 (-1)) = u) (mw cy a)) := by
  refine Ct.ofZ RX12 "after" [(0, .ref (a 0)), (1, .int 5), (2, .int 8)] rfl rfl rfl rfl (Nat.le_of_ble_eq_true rfl) ?_
  intro p e R s m args below meth c A b
  refine z_iload_n b dX12_after_0 rfl rfl ?_
  refine z_calli b (z_runS (As := [.int 5]) (st := []) b (c_X12_isRow_8 S ) cf_X12_isRow wm_X12_452 ws_X12_isRow dX12_after_1 rfl (Nat.le_of_ble_eq_true rfl) ⟨by decide, by decide, by decide, by decide⟩) (fun r21256 u21257 h21255 => ?_)
  obtain ⟨rfl, rfl⟩ := h21255
  refine z_if_ne_t (tgt := 9) b dX12_after_4 (by decide) (by decide) ?_
  refine z_aload_n b dX12_after_9 rfl rfl ?_
  refine z_iload_n b dX12_after_10 rfl rfl ?_
  refine z_iconst (v := 3) b dX12_after_11 (by decide) ?_
  refine z_iconst (v := 0) b dX12_after_12 (by decide) ?_
  refine z_calli b (z_runV (q0 := 0) (As := [.int 5, .int 3, .int 0]) (st := []) b (c_X12_goes_12 S h_l_0 h_a_38_5) cf_X12_goes (mw_0 cy a S) rfl wm_X12_464 wi_X12_goes ws_X12_goes dX12_after_13 rfl (Nat.le_of_ble_eq_true rfl) ⟨by decide, by decide, by decide, by decide⟩) (fun r21259 u21260 h21258 => ?_)
  obtain ⟨rfl, rfl⟩ := h21258
  refine z_pop b dX12_after_16 rfl ?_
  refine z_aload_n b dX12_after_17 rfl rfl ?_
  refine z_aload_n b dX12_after_18 rfl rfl ?_
  refine z_get (q0 := 0) (k9 := 68) (v := .long 1649317774848) b (mw_0 cy a (si (sl S 2 1649317774848) 24 (-1))) rfl in_X12 (by decide) wf_X12_458 rfl dX12_after_19 ?_
  refine z_callv b (z_runV (q0 := 0) (As := [.long 1649317774848]) (st := []) b (c_X12_takes (si (sl S 2 1649317774848) 24 (-1)) h_a_4_7 h_a_1_7 h_a_4_6 h_a_1_6 h_a_3_6 h_a_3_2 h_a_2_2 h_a_0_2 h_a_4_3 h_a_1_3 h_a_4_5 h_a_1_5 h_a_3_5 h_a_3_7 h_a_2_1 h_a_0_1 h_a_4_2 h_a_1_2 h_a_4_1 h_a_1_1 h_a_3_1 h_a_3_3 h_a_2_0 h_a_0_0 h_i_0) cf_X12_takes (mw_0 cy a (si (sl S 2 1649317774848) 24 (-1))) rfl wm_X12_174 wi_X12_takes ws_X12_takes dX12_after_22 rfl (Nat.le_of_ble_eq_true rfl) ⟨by decide, by decide, by decide, by decide⟩) (fun u21263 h21261 => ?_)
  obtain rfl := h21261
  refine z_iload_n b dX12_after_25 rfl rfl ?_
  refine z_calli b (z_runS (As := [.int 8]) (st := []) b (c_X12_isOne_13 (si (sl S 2 1649317774848) 24 (-1)) ) cf_X12_isOne wm_X12_170 ws_X12_isOne dX12_after_26 rfl (Nat.le_of_ble_eq_true rfl) ⟨by decide, by decide, by decide, by decide⟩) (fun r21265 u21266 h21264 => ?_)
  obtain ⟨rfl, rfl⟩ := h21264
  refine z_if_eq_t (tgt := 39) b dX12_after_29 (by decide) (by decide) ?_
  refine z_iload_n b dX12_after_39 rfl rfl ?_
  refine z_bipush (v := 50) b dX12_after_40 (by decide) ?_
  refine z_icmp_ne_t (tgt := 50) b dX12_after_42 (by decide) (by decide) ?_
  refine z_iload_n b dX12_after_50 rfl rfl ?_
  refine z_bipush (v := 40) b dX12_after_51 (by decide) ?_
  refine z_bipush (v := 42) b dX12_after_53 (by decide) ?_
  refine z_calli b (z_runS (As := [.int 8, .int 40, .int 42]) (st := []) b (c_X12_isIn_84 (si (sl S 2 1649317774848) 24 (-1)) ) cf_X12_isIn wm_X12_1 ws_X12_isIn dX12_after_55 rfl (Nat.le_of_ble_eq_true rfl) ⟨by decide, by decide, by decide, by decide⟩) (fun r21268 u21269 h21267 => ?_)
  obtain ⟨rfl, rfl⟩ := h21267
  refine z_if_eq_t (tgt := 71) b dX12_after_58 (by decide) (by decide) ?_
  refine z_iload_n b dX12_after_71 rfl rfl ?_
  refine z_bipush (v := 10) b dX12_after_72 (by decide) ?_
  refine z_irem (v := 8) b dX12_after_74 (by decide) (by decide) ?_
  refine z_istore_n (lv' := [(3, .int 8), (0, .ref (a 0)), (1, .int 5), (2, .int 8)]) b dX12_after_75 rfl (by decide) rfl ?_
  refine z_iload_n b dX12_after_76 rfl rfl ?_
  refine z_bipush (v := 10) b dX12_after_77 (by decide) ?_
  refine z_bipush (v := 38) b dX12_after_79 (by decide) ?_
  refine z_calli b (z_runS (As := [.int 8, .int 10, .int 38]) (st := []) b (c_X12_isIn_85 (si (sl S 2 1649317774848) 24 (-1)) ) cf_X12_isIn wm_X12_1 ws_X12_isIn dX12_after_81 rfl (Nat.le_of_ble_eq_true rfl) ⟨by decide, by decide, by decide, by decide⟩) (fun r21271 u21272 h21270 => ?_)
  obtain ⟨rfl, rfl⟩ := h21270
  refine z_if_eq_t (tgt := 102) b dX12_after_84 (by decide) (by decide) ?_
  refine z_iconst (v := (-1)) b dX12_after_102 (by decide) ?_
  exact z_iret (u := (si (sl S 2 1649317774848) 24 (-1))) b rfl dX12_after_103 ⟨rfl, rfl⟩ rfl (by decide) (by decide)

set_option maxHeartbeats 4000000 in
set_option maxRecDepth 100000 in
theorem c_X11_after_284 {l : Launch} {D : va_G} {cy : Nat → ClassId} {T0 tB tE : Nat} {a : Nat → Nat} {rw : Nat → Option Nat} (S : GS)   : Ct l D cy T0 tB tE yX11_after cX11_after 3 (some .int) 2 41 0 0 (cw cy tE a rw S) [.ref (a 0), .int 5, .int 9] (QI D (U := GS) (fun r u => (-1) = r ∧ S = u) (cw cy tE a rw)) := by
  refine Ct.ofZ RX11 "after" [(0, .ref (a 0)), (1, .int 5), (2, .int 9)] rfl rfl rfl rfl (Nat.le_of_ble_eq_true rfl) ?_
  intro p e R s m args below meth c A b
  refine z_iload_n b dX11_after_0 rfl rfl ?_
  refine z_calli b (z_runS (As := [.int 5]) (st := []) b (c_X11_isRow_8 S ) cf_X11_isRow wm_X11_169 ws_X11_isRow dX11_after_1 rfl (Nat.le_of_ble_eq_true rfl) ⟨by decide, by decide, by decide, by decide⟩) (fun r21274 u21275 h21273 => ?_)
  obtain ⟨rfl, rfl⟩ := h21273
  refine z_if_eq_f (tgt := 14) b dX11_after_4 (by decide) (by decide) ?_
  refine z_iload_n b dX11_after_7 rfl rfl ?_
  refine z_calli b (z_runS (As := [.int 9]) (st := []) b (c_X9_has_12 S ) cf_X9_has wm_X11_191 ws_X9_has dX11_after_8 rfl (Nat.le_of_ble_eq_true rfl) ⟨by decide, by decide, by decide, by decide⟩) (fun r21277 u21278 h21276 => ?_)
  obtain ⟨rfl, rfl⟩ := h21276
  refine z_if_ne_f (tgt := 16) b dX11_after_11 (by decide) (by decide) ?_
  refine z_iconst (v := (-1)) b dX11_after_14 (by decide) ?_
  exact z_iret (u := S) b rfl dX11_after_15 ⟨rfl, rfl⟩ rfl (by decide) (by decide)

set_option maxHeartbeats 4000000 in
set_option maxRecDepth 100000 in
theorem c_X12_after_284 {l : Launch} {D : va_G} {cy : Nat → ClassId} {T0 tB tE : Nat} {a : Nat → Nat} (S : GS)  (h_l_0 : fl S 0 = 1649317774848) (h_a_38_5 : ar S 38 5 = 0) (h_a_4_7 : ar S 4 7 = 0) (h_a_1_7 : ar S 1 7 = 0) (h_a_4_6 : ar S 4 6 = 0) (h_a_1_6 : ar S 1 6 = 0) (h_a_3_6 : ar S 3 6 = 0) (h_a_3_2 : ar S 3 2 = 0) (h_a_2_2 : ar S 2 2 = 3) (h_a_0_2 : ar S 0 2 = 0) (h_a_4_3 : ar S 4 3 = 0) (h_a_1_3 : ar S 1 3 = 0) (h_a_4_5 : ar S 4 5 = 0) (h_a_1_5 : ar S 1 5 = 0) (h_a_3_5 : ar S 3 5 = 0) (h_a_3_7 : ar S 3 7 = 0) (h_a_2_1 : ar S 2 1 = 3) (h_a_0_1 : ar S 0 1 = 0) (h_a_4_2 : ar S 4 2 = 0) (h_a_1_2 : ar S 1 2 = 0) (h_a_4_1 : ar S 4 1 = 0) (h_a_1_1 : ar S 1 1 = 0) (h_a_3_1 : ar S 3 1 = 0) (h_a_3_3 : ar S 3 3 = 0) (h_a_2_0 : ar S 2 0 = 3) (h_a_0_0 : ar S 0 0 = 0) (h_i_0 : fi S 0 = 0) : Ct l D cy T0 tB tE yX12_after cX12_after 4 (some .int) 2 47 0 0 (mw cy a S) [.ref (a 0), .int 5, .int 9] (QI D (U := GS) (fun r u => (-1) = r ∧ (si (sl S 2 1649317774848) 24 (-1)) = u) (mw cy a)) := by
  refine Ct.ofZ RX12 "after" [(0, .ref (a 0)), (1, .int 5), (2, .int 9)] rfl rfl rfl rfl (Nat.le_of_ble_eq_true rfl) ?_
  intro p e R s m args below meth c A b
  refine z_iload_n b dX12_after_0 rfl rfl ?_
  refine z_calli b (z_runS (As := [.int 5]) (st := []) b (c_X12_isRow_8 S ) cf_X12_isRow wm_X12_452 ws_X12_isRow dX12_after_1 rfl (Nat.le_of_ble_eq_true rfl) ⟨by decide, by decide, by decide, by decide⟩) (fun r21280 u21281 h21279 => ?_)
  obtain ⟨rfl, rfl⟩ := h21279
  refine z_if_ne_t (tgt := 9) b dX12_after_4 (by decide) (by decide) ?_
  refine z_aload_n b dX12_after_9 rfl rfl ?_
  refine z_iload_n b dX12_after_10 rfl rfl ?_
  refine z_iconst (v := 3) b dX12_after_11 (by decide) ?_
  refine z_iconst (v := 0) b dX12_after_12 (by decide) ?_
  refine z_calli b (z_runV (q0 := 0) (As := [.int 5, .int 3, .int 0]) (st := []) b (c_X12_goes_12 S h_l_0 h_a_38_5) cf_X12_goes (mw_0 cy a S) rfl wm_X12_464 wi_X12_goes ws_X12_goes dX12_after_13 rfl (Nat.le_of_ble_eq_true rfl) ⟨by decide, by decide, by decide, by decide⟩) (fun r21283 u21284 h21282 => ?_)
  obtain ⟨rfl, rfl⟩ := h21282
  refine z_pop b dX12_after_16 rfl ?_
  refine z_aload_n b dX12_after_17 rfl rfl ?_
  refine z_aload_n b dX12_after_18 rfl rfl ?_
  refine z_get (q0 := 0) (k9 := 68) (v := .long 1649317774848) b (mw_0 cy a (si (sl S 2 1649317774848) 24 (-1))) rfl in_X12 (by decide) wf_X12_458 rfl dX12_after_19 ?_
  refine z_callv b (z_runV (q0 := 0) (As := [.long 1649317774848]) (st := []) b (c_X12_takes (si (sl S 2 1649317774848) 24 (-1)) h_a_4_7 h_a_1_7 h_a_4_6 h_a_1_6 h_a_3_6 h_a_3_2 h_a_2_2 h_a_0_2 h_a_4_3 h_a_1_3 h_a_4_5 h_a_1_5 h_a_3_5 h_a_3_7 h_a_2_1 h_a_0_1 h_a_4_2 h_a_1_2 h_a_4_1 h_a_1_1 h_a_3_1 h_a_3_3 h_a_2_0 h_a_0_0 h_i_0) cf_X12_takes (mw_0 cy a (si (sl S 2 1649317774848) 24 (-1))) rfl wm_X12_174 wi_X12_takes ws_X12_takes dX12_after_22 rfl (Nat.le_of_ble_eq_true rfl) ⟨by decide, by decide, by decide, by decide⟩) (fun u21287 h21285 => ?_)
  obtain rfl := h21285
  refine z_iload_n b dX12_after_25 rfl rfl ?_
  refine z_calli b (z_runS (As := [.int 9]) (st := []) b (c_X12_isOne_14 (si (sl S 2 1649317774848) 24 (-1)) ) cf_X12_isOne wm_X12_170 ws_X12_isOne dX12_after_26 rfl (Nat.le_of_ble_eq_true rfl) ⟨by decide, by decide, by decide, by decide⟩) (fun r21289 u21290 h21288 => ?_)
  obtain ⟨rfl, rfl⟩ := h21288
  refine z_if_eq_t (tgt := 39) b dX12_after_29 (by decide) (by decide) ?_
  refine z_iload_n b dX12_after_39 rfl rfl ?_
  refine z_bipush (v := 50) b dX12_after_40 (by decide) ?_
  refine z_icmp_ne_t (tgt := 50) b dX12_after_42 (by decide) (by decide) ?_
  refine z_iload_n b dX12_after_50 rfl rfl ?_
  refine z_bipush (v := 40) b dX12_after_51 (by decide) ?_
  refine z_bipush (v := 42) b dX12_after_53 (by decide) ?_
  refine z_calli b (z_runS (As := [.int 9, .int 40, .int 42]) (st := []) b (c_X12_isIn_87 (si (sl S 2 1649317774848) 24 (-1)) ) cf_X12_isIn wm_X12_1 ws_X12_isIn dX12_after_55 rfl (Nat.le_of_ble_eq_true rfl) ⟨by decide, by decide, by decide, by decide⟩) (fun r21292 u21293 h21291 => ?_)
  obtain ⟨rfl, rfl⟩ := h21291
  refine z_if_eq_t (tgt := 71) b dX12_after_58 (by decide) (by decide) ?_
  refine z_iload_n b dX12_after_71 rfl rfl ?_
  refine z_bipush (v := 10) b dX12_after_72 (by decide) ?_
  refine z_irem (v := 9) b dX12_after_74 (by decide) (by decide) ?_
  refine z_istore_n (lv' := [(3, .int 9), (0, .ref (a 0)), (1, .int 5), (2, .int 9)]) b dX12_after_75 rfl (by decide) rfl ?_
  refine z_iload_n b dX12_after_76 rfl rfl ?_
  refine z_bipush (v := 10) b dX12_after_77 (by decide) ?_
  refine z_bipush (v := 38) b dX12_after_79 (by decide) ?_
  refine z_calli b (z_runS (As := [.int 9, .int 10, .int 38]) (st := []) b (c_X12_isIn_88 (si (sl S 2 1649317774848) 24 (-1)) ) cf_X12_isIn wm_X12_1 ws_X12_isIn dX12_after_81 rfl (Nat.le_of_ble_eq_true rfl) ⟨by decide, by decide, by decide, by decide⟩) (fun r21295 u21296 h21294 => ?_)
  obtain ⟨rfl, rfl⟩ := h21294
  refine z_if_eq_t (tgt := 102) b dX12_after_84 (by decide) (by decide) ?_
  refine z_iconst (v := (-1)) b dX12_after_102 (by decide) ?_
  exact z_iret (u := (si (sl S 2 1649317774848) 24 (-1))) b rfl dX12_after_103 ⟨rfl, rfl⟩ rfl (by decide) (by decide)

set_option maxHeartbeats 4000000 in
set_option maxRecDepth 100000 in
theorem c_X11_after_285 {l : Launch} {D : va_G} {cy : Nat → ClassId} {T0 tB tE : Nat} {a : Nat → Nat} {rw : Nat → Option Nat} (S : GS)   : Ct l D cy T0 tB tE yX11_after cX11_after 3 (some .int) 3 62 0 0 (cw cy tE a rw S) [.ref (a 0), .int 5, .int 10] (QI D (U := GS) (fun r u => (-1) = r ∧ S = u) (cw cy tE a rw)) := by
  refine Ct.ofZ RX11 "after" [(0, .ref (a 0)), (1, .int 5), (2, .int 10)] rfl rfl rfl rfl (Nat.le_of_ble_eq_true rfl) ?_
  intro p e R s m args below meth c A b
  refine z_iload_n b dX11_after_0 rfl rfl ?_
  refine z_calli b (z_runS (As := [.int 5]) (st := []) b (c_X11_isRow_8 S ) cf_X11_isRow wm_X11_169 ws_X11_isRow dX11_after_1 rfl (Nat.le_of_ble_eq_true rfl) ⟨by decide, by decide, by decide, by decide⟩) (fun r21298 u21299 h21297 => ?_)
  obtain ⟨rfl, rfl⟩ := h21297
  refine z_if_eq_f (tgt := 14) b dX11_after_4 (by decide) (by decide) ?_
  refine z_iload_n b dX11_after_7 rfl rfl ?_
  refine z_calli b (z_runS (As := [.int 10]) (st := []) b (c_X9_has_13 S ) cf_X9_has wm_X11_191 ws_X9_has dX11_after_8 rfl (Nat.le_of_ble_eq_true rfl) ⟨by decide, by decide, by decide, by decide⟩) (fun r21301 u21302 h21300 => ?_)
  obtain ⟨rfl, rfl⟩ := h21300
  refine z_if_ne_f (tgt := 16) b dX11_after_11 (by decide) (by decide) ?_
  refine z_iconst (v := (-1)) b dX11_after_14 (by decide) ?_
  exact z_iret (u := S) b rfl dX11_after_15 ⟨rfl, rfl⟩ rfl (by decide) (by decide)

set_option maxHeartbeats 4000000 in
set_option maxRecDepth 100000 in
theorem c_X12_after_285 {l : Launch} {D : va_G} {cy : Nat → ClassId} {T0 tB tE : Nat} {a : Nat → Nat} (S : GS)  (h_l_0 : fl S 0 = 1649317774848) (h_a_38_5 : ar S 38 5 = 0) (h_a_4_7 : ar S 4 7 = 0) (h_a_1_7 : ar S 1 7 = 0) (h_a_4_6 : ar S 4 6 = 0) (h_a_1_6 : ar S 1 6 = 0) (h_a_3_6 : ar S 3 6 = 0) (h_a_3_2 : ar S 3 2 = 0) (h_a_2_2 : ar S 2 2 = 3) (h_a_0_2 : ar S 0 2 = 0) (h_a_4_3 : ar S 4 3 = 0) (h_a_1_3 : ar S 1 3 = 0) (h_a_4_5 : ar S 4 5 = 0) (h_a_1_5 : ar S 1 5 = 0) (h_a_3_5 : ar S 3 5 = 0) (h_a_3_7 : ar S 3 7 = 0) (h_a_2_1 : ar S 2 1 = 3) (h_a_0_1 : ar S 0 1 = 0) (h_a_4_2 : ar S 4 2 = 0) (h_a_1_2 : ar S 1 2 = 0) (h_a_4_1 : ar S 4 1 = 0) (h_a_1_1 : ar S 1 1 = 0) (h_a_3_1 : ar S 3 1 = 0) (h_a_3_3 : ar S 3 3 = 0) (h_a_2_0 : ar S 2 0 = 3) (h_a_0_0 : ar S 0 0 = 0) (h_i_0 : fi S 0 = 0) : Ct l D cy T0 tB tE yX12_after cX12_after 4 (some .int) 2 47 0 0 (mw cy a S) [.ref (a 0), .int 5, .int 10] (QI D (U := GS) (fun r u => (-1) = r ∧ (si (sl S 2 1649317774848) 24 (-1)) = u) (mw cy a)) := by
  refine Ct.ofZ RX12 "after" [(0, .ref (a 0)), (1, .int 5), (2, .int 10)] rfl rfl rfl rfl (Nat.le_of_ble_eq_true rfl) ?_
  intro p e R s m args below meth c A b
  refine z_iload_n b dX12_after_0 rfl rfl ?_
  refine z_calli b (z_runS (As := [.int 5]) (st := []) b (c_X12_isRow_8 S ) cf_X12_isRow wm_X12_452 ws_X12_isRow dX12_after_1 rfl (Nat.le_of_ble_eq_true rfl) ⟨by decide, by decide, by decide, by decide⟩) (fun r21304 u21305 h21303 => ?_)
  obtain ⟨rfl, rfl⟩ := h21303
  refine z_if_ne_t (tgt := 9) b dX12_after_4 (by decide) (by decide) ?_
  refine z_aload_n b dX12_after_9 rfl rfl ?_
  refine z_iload_n b dX12_after_10 rfl rfl ?_
  refine z_iconst (v := 3) b dX12_after_11 (by decide) ?_
  refine z_iconst (v := 0) b dX12_after_12 (by decide) ?_
  refine z_calli b (z_runV (q0 := 0) (As := [.int 5, .int 3, .int 0]) (st := []) b (c_X12_goes_12 S h_l_0 h_a_38_5) cf_X12_goes (mw_0 cy a S) rfl wm_X12_464 wi_X12_goes ws_X12_goes dX12_after_13 rfl (Nat.le_of_ble_eq_true rfl) ⟨by decide, by decide, by decide, by decide⟩) (fun r21307 u21308 h21306 => ?_)
  obtain ⟨rfl, rfl⟩ := h21306
  refine z_pop b dX12_after_16 rfl ?_
  refine z_aload_n b dX12_after_17 rfl rfl ?_
  refine z_aload_n b dX12_after_18 rfl rfl ?_
  refine z_get (q0 := 0) (k9 := 68) (v := .long 1649317774848) b (mw_0 cy a (si (sl S 2 1649317774848) 24 (-1))) rfl in_X12 (by decide) wf_X12_458 rfl dX12_after_19 ?_
  refine z_callv b (z_runV (q0 := 0) (As := [.long 1649317774848]) (st := []) b (c_X12_takes (si (sl S 2 1649317774848) 24 (-1)) h_a_4_7 h_a_1_7 h_a_4_6 h_a_1_6 h_a_3_6 h_a_3_2 h_a_2_2 h_a_0_2 h_a_4_3 h_a_1_3 h_a_4_5 h_a_1_5 h_a_3_5 h_a_3_7 h_a_2_1 h_a_0_1 h_a_4_2 h_a_1_2 h_a_4_1 h_a_1_1 h_a_3_1 h_a_3_3 h_a_2_0 h_a_0_0 h_i_0) cf_X12_takes (mw_0 cy a (si (sl S 2 1649317774848) 24 (-1))) rfl wm_X12_174 wi_X12_takes ws_X12_takes dX12_after_22 rfl (Nat.le_of_ble_eq_true rfl) ⟨by decide, by decide, by decide, by decide⟩) (fun u21311 h21309 => ?_)
  obtain rfl := h21309
  refine z_iload_n b dX12_after_25 rfl rfl ?_
  refine z_calli b (z_runS (As := [.int 10]) (st := []) b (c_X12_isOne_15 (si (sl S 2 1649317774848) 24 (-1)) ) cf_X12_isOne wm_X12_170 ws_X12_isOne dX12_after_26 rfl (Nat.le_of_ble_eq_true rfl) ⟨by decide, by decide, by decide, by decide⟩) (fun r21313 u21314 h21312 => ?_)
  obtain ⟨rfl, rfl⟩ := h21312
  refine z_if_eq_t (tgt := 39) b dX12_after_29 (by decide) (by decide) ?_
  refine z_iload_n b dX12_after_39 rfl rfl ?_
  refine z_bipush (v := 50) b dX12_after_40 (by decide) ?_
  refine z_icmp_ne_t (tgt := 50) b dX12_after_42 (by decide) (by decide) ?_
  refine z_iload_n b dX12_after_50 rfl rfl ?_
  refine z_bipush (v := 40) b dX12_after_51 (by decide) ?_
  refine z_bipush (v := 42) b dX12_after_53 (by decide) ?_
  refine z_calli b (z_runS (As := [.int 10, .int 40, .int 42]) (st := []) b (c_X12_isIn_90 (si (sl S 2 1649317774848) 24 (-1)) ) cf_X12_isIn wm_X12_1 ws_X12_isIn dX12_after_55 rfl (Nat.le_of_ble_eq_true rfl) ⟨by decide, by decide, by decide, by decide⟩) (fun r21316 u21317 h21315 => ?_)
  obtain ⟨rfl, rfl⟩ := h21315
  refine z_if_eq_t (tgt := 71) b dX12_after_58 (by decide) (by decide) ?_
  refine z_iload_n b dX12_after_71 rfl rfl ?_
  refine z_bipush (v := 10) b dX12_after_72 (by decide) ?_
  refine z_irem (v := 0) b dX12_after_74 (by decide) (by decide) ?_
  refine z_istore_n (lv' := [(3, .int 0), (0, .ref (a 0)), (1, .int 5), (2, .int 10)]) b dX12_after_75 rfl (by decide) rfl ?_
  refine z_iload_n b dX12_after_76 rfl rfl ?_
  refine z_bipush (v := 10) b dX12_after_77 (by decide) ?_
  refine z_bipush (v := 38) b dX12_after_79 (by decide) ?_
  refine z_calli b (z_runS (As := [.int 10, .int 10, .int 38]) (st := []) b (c_X12_isIn_91 (si (sl S 2 1649317774848) 24 (-1)) ) cf_X12_isIn wm_X12_1 ws_X12_isIn dX12_after_81 rfl (Nat.le_of_ble_eq_true rfl) ⟨by decide, by decide, by decide, by decide⟩) (fun r21319 u21320 h21318 => ?_)
  obtain ⟨rfl, rfl⟩ := h21318
  refine z_if_eq_f (tgt := 102) b dX12_after_84 (by decide) (by decide) ?_
  refine z_iload_n b dX12_after_87 rfl rfl ?_
  refine z_bipush (v := 9) b dX12_after_88 (by decide) ?_
  refine z_icmp_eq_f (tgt := 102) b dX12_after_90 (by decide) (by decide) ?_
  refine z_iload_n b dX12_after_93 rfl rfl ?_
  refine z_iconst (v := 3) b dX12_after_94 (by decide) ?_
  refine z_idiv (v := 0) b dX12_after_95 (by decide) (by decide) ?_
  refine z_iload_n b dX12_after_96 rfl rfl ?_
  refine z_iconst (v := 3) b dX12_after_97 (by decide) ?_
  refine z_irem (v := 0) b dX12_after_98 (by decide) (by decide) ?_
  refine z_icmp_ne_f (tgt := 104) b dX12_after_99 (by decide) (by decide) ?_
  refine z_iconst (v := (-1)) b dX12_after_102 (by decide) ?_
  exact z_iret (u := (si (sl S 2 1649317774848) 24 (-1))) b rfl dX12_after_103 ⟨rfl, rfl⟩ rfl (by decide) (by decide)

set_option maxHeartbeats 4000000 in
set_option maxRecDepth 100000 in
theorem c_X11_after_286 {l : Launch} {D : va_G} {cy : Nat → ClassId} {T0 tB tE : Nat} {a : Nat → Nat} {rw : Nat → Option Nat} (S : GS)  (h_i_14 : fi S 14 = (-1)) (h_i_37 : fi S 37 = 0) (h_a_4_11 : ar S 4 11 = 0) (hrw : ∀ i, i < 6 → rw i = some (a (36 + 2 * i))) : Ct l D cy T0 tB tE yX11_after cX11_after 3 (some .int) 3 86 0 0 (cw cy tE a rw S) [.ref (a 0), .int 5, .int 11] (QI D (U := GS) (fun r u => 0 = r ∧ (sa S 8 (va_cpy (ar S 4) (ar S 8) 0 0 51)) = u) (cw cy tE a rw)) := by
  refine Ct.ofZ RX11 "after" [(0, .ref (a 0)), (1, .int 5), (2, .int 11)] rfl rfl rfl rfl (Nat.le_of_ble_eq_true rfl) ?_
  intro p e R s m args below meth c A b
  refine z_iload_n b dX11_after_0 rfl rfl ?_
  refine z_calli b (z_runS (As := [.int 5]) (st := []) b (c_X11_isRow_8 S ) cf_X11_isRow wm_X11_169 ws_X11_isRow dX11_after_1 rfl (Nat.le_of_ble_eq_true rfl) ⟨by decide, by decide, by decide, by decide⟩) (fun r21322 u21323 h21321 => ?_)
  obtain ⟨rfl, rfl⟩ := h21321
  refine z_if_eq_f (tgt := 14) b dX11_after_4 (by decide) (by decide) ?_
  refine z_iload_n b dX11_after_7 rfl rfl ?_
  refine z_calli b (z_runS (As := [.int 11]) (st := []) b (c_X9_has_14 S ) cf_X9_has wm_X11_191 ws_X9_has dX11_after_8 rfl (Nat.le_of_ble_eq_true rfl) ⟨by decide, by decide, by decide, by decide⟩) (fun r21325 u21326 h21324 => ?_)
  obtain ⟨rfl, rfl⟩ := h21324
  refine z_if_ne_t (tgt := 16) b dX11_after_11 (by decide) (by decide) ?_
  refine z_aload_n b dX11_after_16 rfl rfl ?_
  refine z_get (q0 := 0) (k9 := 5) (v := .ref (a 16)) b (cw_0 cy tE a rw S) rfl in_X11 (by decide) wf_X11_43 rfl dX11_after_17 ?_
  refine z_aload_n b dX11_after_20 rfl rfl ?_
  refine z_get (q0 := 0) (k9 := 7) (v := .ref (a 35)) b (cw_0 cy tE a rw S) rfl in_X11 (by decide) wf_X11_58 rfl dX11_after_21 ?_
  refine z_iload_n b dX11_after_24 rfl rfl ?_
  refine y_aald (q0 := 35) (t0 := 4) (j := 5) (v := .ref (a 46)) b (cw_35 cy tE a rw S) rfl (by decide) (by rw [hrw 5 (by decide)]; rfl) dX11_after_25 ?_
  refine z_aload_n b dX11_after_26 rfl rfl ?_
  refine z_get (q0 := 0) (k9 := 4) (v := .ref (a 14)) b (cw_0 cy tE a rw S) rfl in_X11 (by decide) wf_X11_34 rfl dX11_after_27 ?_
  refine z_iconst (v := 3) b dX11_after_30 (by decide) ?_
  refine z_iconst (v := 0) b dX11_after_31 (by decide) ?_
  refine z_calli b (z_runV (q0 := 16) (As := [.ref (a 46), .ref (a 14), .int 3, .int 0]) (st := []) b (c_X2_follow_12 S h_i_14 h_i_37) cf_X2_follow (cw_16 cy tE a rw S) rfl wm_X11_184 wi_X2_follow ws_X2_follow dX11_after_32 rfl (Nat.le_of_ble_eq_true rfl) ⟨by decide, by decide, by decide, by decide⟩) (fun r21328 u21329 h21327 => ?_)
  obtain ⟨rfl, rfl⟩ := h21327
  refine z_pop b dX11_after_35 rfl ?_
  refine z_aload_n b dX11_after_36 rfl rfl ?_
  refine z_get (q0 := 0) (k9 := 5) (v := .ref (a 16)) b (cw_0 cy tE a rw (sa S 8 (va_cpy (ar S 4) (ar S 8) 0 0 51))) rfl in_X11 (by decide) wf_X11_43 rfl dX11_after_37 ?_
  refine z_get (q0 := 16) (k9 := 3) (v := .ref (a 23)) b (cw_16 cy tE a rw (sa S 8 (va_cpy (ar S 4) (ar S 8) 0 0 51))) rfl in_X2 (by decide) wf_X11_194 rfl dX11_after_40 ?_
  refine z_iload_n b dX11_after_43 rfl rfl ?_
  refine z_calli b (z_runV (q0 := 23) (As := [.int 11]) (st := []) b (c_X9_get_13 (sa S 8 (va_cpy (ar S 4) (ar S 8) 0 0 51)) h_a_4_11) cf_X9_get (cw_23 cy tE a rw (sa S 8 (va_cpy (ar S 4) (ar S 8) 0 0 51))) rfl wm_X11_197 wi_X9_get ws_X9_get dX11_after_44 rfl (Nat.le_of_ble_eq_true rfl) ⟨by decide, by decide, by decide, by decide⟩) (fun r21331 u21332 h21330 => ?_)
  obtain ⟨rfl, rfl⟩ := h21330
  exact z_iret (u := (sa S 8 (va_cpy (ar S 4) (ar S 8) 0 0 51))) b rfl dX11_after_47 ⟨rfl, rfl⟩ rfl (by decide) (by decide)

set_option maxHeartbeats 4000000 in
set_option maxRecDepth 100000 in
theorem c_X12_after_286 {l : Launch} {D : va_G} {cy : Nat → ClassId} {T0 tB tE : Nat} {a : Nat → Nat} (S : GS)  (h_l_0 : fl S 0 = 1649317774848) (h_a_38_5 : ar S 38 5 = 0) (h_a_4_7 : ar S 4 7 = 0) (h_a_1_7 : ar S 1 7 = 0) (h_a_4_6 : ar S 4 6 = 0) (h_a_1_6 : ar S 1 6 = 0) (h_a_3_6 : ar S 3 6 = 0) (h_a_3_2 : ar S 3 2 = 0) (h_a_2_2 : ar S 2 2 = 3) (h_a_0_2 : ar S 0 2 = 0) (h_a_4_3 : ar S 4 3 = 0) (h_a_1_3 : ar S 1 3 = 0) (h_a_4_5 : ar S 4 5 = 0) (h_a_1_5 : ar S 1 5 = 0) (h_a_3_5 : ar S 3 5 = 0) (h_a_3_7 : ar S 3 7 = 0) (h_a_2_1 : ar S 2 1 = 3) (h_a_0_1 : ar S 0 1 = 0) (h_a_4_2 : ar S 4 2 = 0) (h_a_1_2 : ar S 1 2 = 0) (h_a_4_1 : ar S 4 1 = 0) (h_a_1_1 : ar S 1 1 = 0) (h_a_3_1 : ar S 3 1 = 0) (h_a_3_3 : ar S 3 3 = 0) (h_a_2_0 : ar S 2 0 = 3) (h_a_0_0 : ar S 0 0 = 0) (h_i_0 : fi S 0 = 0) : Ct l D cy T0 tB tE yX12_after cX12_after 4 (some .int) 2 47 0 0 (mw cy a S) [.ref (a 0), .int 5, .int 11] (QI D (U := GS) (fun r u => 0 = r ∧ (si (sl S 2 1649317774848) 24 (-1)) = u) (mw cy a)) := by
  refine Ct.ofZ RX12 "after" [(0, .ref (a 0)), (1, .int 5), (2, .int 11)] rfl rfl rfl rfl (Nat.le_of_ble_eq_true rfl) ?_
  intro p e R s m args below meth c A b
  refine z_iload_n b dX12_after_0 rfl rfl ?_
  refine z_calli b (z_runS (As := [.int 5]) (st := []) b (c_X12_isRow_8 S ) cf_X12_isRow wm_X12_452 ws_X12_isRow dX12_after_1 rfl (Nat.le_of_ble_eq_true rfl) ⟨by decide, by decide, by decide, by decide⟩) (fun r21334 u21335 h21333 => ?_)
  obtain ⟨rfl, rfl⟩ := h21333
  refine z_if_ne_t (tgt := 9) b dX12_after_4 (by decide) (by decide) ?_
  refine z_aload_n b dX12_after_9 rfl rfl ?_
  refine z_iload_n b dX12_after_10 rfl rfl ?_
  refine z_iconst (v := 3) b dX12_after_11 (by decide) ?_
  refine z_iconst (v := 0) b dX12_after_12 (by decide) ?_
  refine z_calli b (z_runV (q0 := 0) (As := [.int 5, .int 3, .int 0]) (st := []) b (c_X12_goes_12 S h_l_0 h_a_38_5) cf_X12_goes (mw_0 cy a S) rfl wm_X12_464 wi_X12_goes ws_X12_goes dX12_after_13 rfl (Nat.le_of_ble_eq_true rfl) ⟨by decide, by decide, by decide, by decide⟩) (fun r21337 u21338 h21336 => ?_)
  obtain ⟨rfl, rfl⟩ := h21336
  refine z_pop b dX12_after_16 rfl ?_
  refine z_aload_n b dX12_after_17 rfl rfl ?_
  refine z_aload_n b dX12_after_18 rfl rfl ?_
  refine z_get (q0 := 0) (k9 := 68) (v := .long 1649317774848) b (mw_0 cy a (si (sl S 2 1649317774848) 24 (-1))) rfl in_X12 (by decide) wf_X12_458 rfl dX12_after_19 ?_
  refine z_callv b (z_runV (q0 := 0) (As := [.long 1649317774848]) (st := []) b (c_X12_takes (si (sl S 2 1649317774848) 24 (-1)) h_a_4_7 h_a_1_7 h_a_4_6 h_a_1_6 h_a_3_6 h_a_3_2 h_a_2_2 h_a_0_2 h_a_4_3 h_a_1_3 h_a_4_5 h_a_1_5 h_a_3_5 h_a_3_7 h_a_2_1 h_a_0_1 h_a_4_2 h_a_1_2 h_a_4_1 h_a_1_1 h_a_3_1 h_a_3_3 h_a_2_0 h_a_0_0 h_i_0) cf_X12_takes (mw_0 cy a (si (sl S 2 1649317774848) 24 (-1))) rfl wm_X12_174 wi_X12_takes ws_X12_takes dX12_after_22 rfl (Nat.le_of_ble_eq_true rfl) ⟨by decide, by decide, by decide, by decide⟩) (fun u21341 h21339 => ?_)
  obtain rfl := h21339
  refine z_iload_n b dX12_after_25 rfl rfl ?_
  refine z_calli b (z_runS (As := [.int 11]) (st := []) b (c_X12_isOne_16 (si (sl S 2 1649317774848) 24 (-1)) ) cf_X12_isOne wm_X12_170 ws_X12_isOne dX12_after_26 rfl (Nat.le_of_ble_eq_true rfl) ⟨by decide, by decide, by decide, by decide⟩) (fun r21343 u21344 h21342 => ?_)
  obtain ⟨rfl, rfl⟩ := h21342
  refine z_if_eq_t (tgt := 39) b dX12_after_29 (by decide) (by decide) ?_
  refine z_iload_n b dX12_after_39 rfl rfl ?_
  refine z_bipush (v := 50) b dX12_after_40 (by decide) ?_
  refine z_icmp_ne_t (tgt := 50) b dX12_after_42 (by decide) (by decide) ?_
  refine z_iload_n b dX12_after_50 rfl rfl ?_
  refine z_bipush (v := 40) b dX12_after_51 (by decide) ?_
  refine z_bipush (v := 42) b dX12_after_53 (by decide) ?_
  refine z_calli b (z_runS (As := [.int 11, .int 40, .int 42]) (st := []) b (c_X12_isIn_93 (si (sl S 2 1649317774848) 24 (-1)) ) cf_X12_isIn wm_X12_1 ws_X12_isIn dX12_after_55 rfl (Nat.le_of_ble_eq_true rfl) ⟨by decide, by decide, by decide, by decide⟩) (fun r21346 u21347 h21345 => ?_)
  obtain ⟨rfl, rfl⟩ := h21345
  refine z_if_eq_t (tgt := 71) b dX12_after_58 (by decide) (by decide) ?_
  refine z_iload_n b dX12_after_71 rfl rfl ?_
  refine z_bipush (v := 10) b dX12_after_72 (by decide) ?_
  refine z_irem (v := 1) b dX12_after_74 (by decide) (by decide) ?_
  refine z_istore_n (lv' := [(3, .int 1), (0, .ref (a 0)), (1, .int 5), (2, .int 11)]) b dX12_after_75 rfl (by decide) rfl ?_
  refine z_iload_n b dX12_after_76 rfl rfl ?_
  refine z_bipush (v := 10) b dX12_after_77 (by decide) ?_
  refine z_bipush (v := 38) b dX12_after_79 (by decide) ?_
  refine z_calli b (z_runS (As := [.int 11, .int 10, .int 38]) (st := []) b (c_X12_isIn_94 (si (sl S 2 1649317774848) 24 (-1)) ) cf_X12_isIn wm_X12_1 ws_X12_isIn dX12_after_81 rfl (Nat.le_of_ble_eq_true rfl) ⟨by decide, by decide, by decide, by decide⟩) (fun r21349 u21350 h21348 => ?_)
  obtain ⟨rfl, rfl⟩ := h21348
  refine z_if_eq_f (tgt := 102) b dX12_after_84 (by decide) (by decide) ?_
  refine z_iload_n b dX12_after_87 rfl rfl ?_
  refine z_bipush (v := 9) b dX12_after_88 (by decide) ?_
  refine z_icmp_eq_f (tgt := 102) b dX12_after_90 (by decide) (by decide) ?_
  refine z_iload_n b dX12_after_93 rfl rfl ?_
  refine z_iconst (v := 3) b dX12_after_94 (by decide) ?_
  refine z_idiv (v := 0) b dX12_after_95 (by decide) (by decide) ?_
  refine z_iload_n b dX12_after_96 rfl rfl ?_
  refine z_iconst (v := 3) b dX12_after_97 (by decide) ?_
  refine z_irem (v := 1) b dX12_after_98 (by decide) (by decide) ?_
  refine z_icmp_ne_t (tgt := 104) b dX12_after_99 (by decide) (by decide) ?_
  refine z_iload_n b dX12_after_104 rfl rfl ?_
  refine z_bipush (v := 20) b dX12_after_105 (by decide) ?_
  refine z_icmp_ge_f (tgt := 119) b dX12_after_107 (by decide) (by decide) ?_
  refine z_aload_n b dX12_after_110 rfl rfl ?_
  refine z_get (q0 := 0) (k9 := 1) (v := .ref (a 2)) b (mw_0 cy a (si (sl S 2 1649317774848) 24 (-1))) rfl in_X12 (by decide) wf_X12_17 rfl dX12_after_111 ?_
  refine z_iload_n b dX12_after_114 rfl rfl ?_
  refine y_iald (q0 := 2) (j := 1) (v := (ar (si (sl S 2 1649317774848) 24 (-1)) 1 1)) b (mw_2 cy a (si (sl S 2 1649317774848) 24 (-1))) (by decide) rfl dX12_after_115 ?_
  refine z_eqi h_a_1_1 ?_
  refine z_goto (tgt := 151) b dX12_after_116 (by decide) ?_
  exact z_iret (u := (si (sl S 2 1649317774848) 24 (-1))) b rfl dX12_after_151 ⟨rfl, rfl⟩ rfl (by decide) (by decide)

set_option maxHeartbeats 4000000 in
set_option maxRecDepth 100000 in
theorem c_X11_after_287 {l : Launch} {D : va_G} {cy : Nat → ClassId} {T0 tB tE : Nat} {a : Nat → Nat} {rw : Nat → Option Nat} (S : GS)  (h_i_14 : fi S 14 = (-1)) (h_i_37 : fi S 37 = 0) (h_a_4_12 : ar S 4 12 = 0) (hrw : ∀ i, i < 6 → rw i = some (a (36 + 2 * i))) : Ct l D cy T0 tB tE yX11_after cX11_after 3 (some .int) 3 86 0 0 (cw cy tE a rw S) [.ref (a 0), .int 5, .int 12] (QI D (U := GS) (fun r u => 0 = r ∧ (sa S 8 (va_cpy (ar S 4) (ar S 8) 0 0 51)) = u) (cw cy tE a rw)) := by
  refine Ct.ofZ RX11 "after" [(0, .ref (a 0)), (1, .int 5), (2, .int 12)] rfl rfl rfl rfl (Nat.le_of_ble_eq_true rfl) ?_
  intro p e R s m args below meth c A b
  refine z_iload_n b dX11_after_0 rfl rfl ?_
  refine z_calli b (z_runS (As := [.int 5]) (st := []) b (c_X11_isRow_8 S ) cf_X11_isRow wm_X11_169 ws_X11_isRow dX11_after_1 rfl (Nat.le_of_ble_eq_true rfl) ⟨by decide, by decide, by decide, by decide⟩) (fun r21352 u21353 h21351 => ?_)
  obtain ⟨rfl, rfl⟩ := h21351
  refine z_if_eq_f (tgt := 14) b dX11_after_4 (by decide) (by decide) ?_
  refine z_iload_n b dX11_after_7 rfl rfl ?_
  refine z_calli b (z_runS (As := [.int 12]) (st := []) b (c_X9_has_15 S ) cf_X9_has wm_X11_191 ws_X9_has dX11_after_8 rfl (Nat.le_of_ble_eq_true rfl) ⟨by decide, by decide, by decide, by decide⟩) (fun r21355 u21356 h21354 => ?_)
  obtain ⟨rfl, rfl⟩ := h21354
  refine z_if_ne_t (tgt := 16) b dX11_after_11 (by decide) (by decide) ?_
  refine z_aload_n b dX11_after_16 rfl rfl ?_
  refine z_get (q0 := 0) (k9 := 5) (v := .ref (a 16)) b (cw_0 cy tE a rw S) rfl in_X11 (by decide) wf_X11_43 rfl dX11_after_17 ?_
  refine z_aload_n b dX11_after_20 rfl rfl ?_
  refine z_get (q0 := 0) (k9 := 7) (v := .ref (a 35)) b (cw_0 cy tE a rw S) rfl in_X11 (by decide) wf_X11_58 rfl dX11_after_21 ?_
  refine z_iload_n b dX11_after_24 rfl rfl ?_
  refine y_aald (q0 := 35) (t0 := 4) (j := 5) (v := .ref (a 46)) b (cw_35 cy tE a rw S) rfl (by decide) (by rw [hrw 5 (by decide)]; rfl) dX11_after_25 ?_
  refine z_aload_n b dX11_after_26 rfl rfl ?_
  refine z_get (q0 := 0) (k9 := 4) (v := .ref (a 14)) b (cw_0 cy tE a rw S) rfl in_X11 (by decide) wf_X11_34 rfl dX11_after_27 ?_
  refine z_iconst (v := 3) b dX11_after_30 (by decide) ?_
  refine z_iconst (v := 0) b dX11_after_31 (by decide) ?_
  refine z_calli b (z_runV (q0 := 16) (As := [.ref (a 46), .ref (a 14), .int 3, .int 0]) (st := []) b (c_X2_follow_12 S h_i_14 h_i_37) cf_X2_follow (cw_16 cy tE a rw S) rfl wm_X11_184 wi_X2_follow ws_X2_follow dX11_after_32 rfl (Nat.le_of_ble_eq_true rfl) ⟨by decide, by decide, by decide, by decide⟩) (fun r21358 u21359 h21357 => ?_)
  obtain ⟨rfl, rfl⟩ := h21357
  refine z_pop b dX11_after_35 rfl ?_
  refine z_aload_n b dX11_after_36 rfl rfl ?_
  refine z_get (q0 := 0) (k9 := 5) (v := .ref (a 16)) b (cw_0 cy tE a rw (sa S 8 (va_cpy (ar S 4) (ar S 8) 0 0 51))) rfl in_X11 (by decide) wf_X11_43 rfl dX11_after_37 ?_
  refine z_get (q0 := 16) (k9 := 3) (v := .ref (a 23)) b (cw_16 cy tE a rw (sa S 8 (va_cpy (ar S 4) (ar S 8) 0 0 51))) rfl in_X2 (by decide) wf_X11_194 rfl dX11_after_40 ?_
  refine z_iload_n b dX11_after_43 rfl rfl ?_
  refine z_calli b (z_runV (q0 := 23) (As := [.int 12]) (st := []) b (c_X9_get_14 (sa S 8 (va_cpy (ar S 4) (ar S 8) 0 0 51)) h_a_4_12) cf_X9_get (cw_23 cy tE a rw (sa S 8 (va_cpy (ar S 4) (ar S 8) 0 0 51))) rfl wm_X11_197 wi_X9_get ws_X9_get dX11_after_44 rfl (Nat.le_of_ble_eq_true rfl) ⟨by decide, by decide, by decide, by decide⟩) (fun r21361 u21362 h21360 => ?_)
  obtain ⟨rfl, rfl⟩ := h21360
  exact z_iret (u := (sa S 8 (va_cpy (ar S 4) (ar S 8) 0 0 51))) b rfl dX11_after_47 ⟨rfl, rfl⟩ rfl (by decide) (by decide)

set_option maxHeartbeats 4000000 in
set_option maxRecDepth 100000 in
theorem c_X12_after_287 {l : Launch} {D : va_G} {cy : Nat → ClassId} {T0 tB tE : Nat} {a : Nat → Nat} (S : GS)  (h_l_0 : fl S 0 = 1649317774848) (h_a_38_5 : ar S 38 5 = 0) (h_a_4_7 : ar S 4 7 = 0) (h_a_1_7 : ar S 1 7 = 0) (h_a_4_6 : ar S 4 6 = 0) (h_a_1_6 : ar S 1 6 = 0) (h_a_3_6 : ar S 3 6 = 0) (h_a_3_2 : ar S 3 2 = 0) (h_a_2_2 : ar S 2 2 = 3) (h_a_0_2 : ar S 0 2 = 0) (h_a_4_3 : ar S 4 3 = 0) (h_a_1_3 : ar S 1 3 = 0) (h_a_4_5 : ar S 4 5 = 0) (h_a_1_5 : ar S 1 5 = 0) (h_a_3_5 : ar S 3 5 = 0) (h_a_3_7 : ar S 3 7 = 0) (h_a_2_1 : ar S 2 1 = 3) (h_a_0_1 : ar S 0 1 = 0) (h_a_4_2 : ar S 4 2 = 0) (h_a_1_2 : ar S 1 2 = 0) (h_a_4_1 : ar S 4 1 = 0) (h_a_1_1 : ar S 1 1 = 0) (h_a_3_1 : ar S 3 1 = 0) (h_a_3_3 : ar S 3 3 = 0) (h_a_2_0 : ar S 2 0 = 3) (h_a_0_0 : ar S 0 0 = 0) (h_i_0 : fi S 0 = 0) : Ct l D cy T0 tB tE yX12_after cX12_after 4 (some .int) 2 47 0 0 (mw cy a S) [.ref (a 0), .int 5, .int 12] (QI D (U := GS) (fun r u => 0 = r ∧ (si (sl S 2 1649317774848) 24 (-1)) = u) (mw cy a)) := by
  refine Ct.ofZ RX12 "after" [(0, .ref (a 0)), (1, .int 5), (2, .int 12)] rfl rfl rfl rfl (Nat.le_of_ble_eq_true rfl) ?_
  intro p e R s m args below meth c A b
  refine z_iload_n b dX12_after_0 rfl rfl ?_
  refine z_calli b (z_runS (As := [.int 5]) (st := []) b (c_X12_isRow_8 S ) cf_X12_isRow wm_X12_452 ws_X12_isRow dX12_after_1 rfl (Nat.le_of_ble_eq_true rfl) ⟨by decide, by decide, by decide, by decide⟩) (fun r21364 u21365 h21363 => ?_)
  obtain ⟨rfl, rfl⟩ := h21363
  refine z_if_ne_t (tgt := 9) b dX12_after_4 (by decide) (by decide) ?_
  refine z_aload_n b dX12_after_9 rfl rfl ?_
  refine z_iload_n b dX12_after_10 rfl rfl ?_
  refine z_iconst (v := 3) b dX12_after_11 (by decide) ?_
  refine z_iconst (v := 0) b dX12_after_12 (by decide) ?_
  refine z_calli b (z_runV (q0 := 0) (As := [.int 5, .int 3, .int 0]) (st := []) b (c_X12_goes_12 S h_l_0 h_a_38_5) cf_X12_goes (mw_0 cy a S) rfl wm_X12_464 wi_X12_goes ws_X12_goes dX12_after_13 rfl (Nat.le_of_ble_eq_true rfl) ⟨by decide, by decide, by decide, by decide⟩) (fun r21367 u21368 h21366 => ?_)
  obtain ⟨rfl, rfl⟩ := h21366
  refine z_pop b dX12_after_16 rfl ?_
  refine z_aload_n b dX12_after_17 rfl rfl ?_
  refine z_aload_n b dX12_after_18 rfl rfl ?_
  refine z_get (q0 := 0) (k9 := 68) (v := .long 1649317774848) b (mw_0 cy a (si (sl S 2 1649317774848) 24 (-1))) rfl in_X12 (by decide) wf_X12_458 rfl dX12_after_19 ?_
  refine z_callv b (z_runV (q0 := 0) (As := [.long 1649317774848]) (st := []) b (c_X12_takes (si (sl S 2 1649317774848) 24 (-1)) h_a_4_7 h_a_1_7 h_a_4_6 h_a_1_6 h_a_3_6 h_a_3_2 h_a_2_2 h_a_0_2 h_a_4_3 h_a_1_3 h_a_4_5 h_a_1_5 h_a_3_5 h_a_3_7 h_a_2_1 h_a_0_1 h_a_4_2 h_a_1_2 h_a_4_1 h_a_1_1 h_a_3_1 h_a_3_3 h_a_2_0 h_a_0_0 h_i_0) cf_X12_takes (mw_0 cy a (si (sl S 2 1649317774848) 24 (-1))) rfl wm_X12_174 wi_X12_takes ws_X12_takes dX12_after_22 rfl (Nat.le_of_ble_eq_true rfl) ⟨by decide, by decide, by decide, by decide⟩) (fun u21371 h21369 => ?_)
  obtain rfl := h21369
  refine z_iload_n b dX12_after_25 rfl rfl ?_
  refine z_calli b (z_runS (As := [.int 12]) (st := []) b (c_X12_isOne_17 (si (sl S 2 1649317774848) 24 (-1)) ) cf_X12_isOne wm_X12_170 ws_X12_isOne dX12_after_26 rfl (Nat.le_of_ble_eq_true rfl) ⟨by decide, by decide, by decide, by decide⟩) (fun r21373 u21374 h21372 => ?_)
  obtain ⟨rfl, rfl⟩ := h21372
  refine z_if_eq_t (tgt := 39) b dX12_after_29 (by decide) (by decide) ?_
  refine z_iload_n b dX12_after_39 rfl rfl ?_
  refine z_bipush (v := 50) b dX12_after_40 (by decide) ?_
  refine z_icmp_ne_t (tgt := 50) b dX12_after_42 (by decide) (by decide) ?_
  refine z_iload_n b dX12_after_50 rfl rfl ?_
  refine z_bipush (v := 40) b dX12_after_51 (by decide) ?_
  refine z_bipush (v := 42) b dX12_after_53 (by decide) ?_
  refine z_calli b (z_runS (As := [.int 12, .int 40, .int 42]) (st := []) b (c_X12_isIn_96 (si (sl S 2 1649317774848) 24 (-1)) ) cf_X12_isIn wm_X12_1 ws_X12_isIn dX12_after_55 rfl (Nat.le_of_ble_eq_true rfl) ⟨by decide, by decide, by decide, by decide⟩) (fun r21376 u21377 h21375 => ?_)
  obtain ⟨rfl, rfl⟩ := h21375
  refine z_if_eq_t (tgt := 71) b dX12_after_58 (by decide) (by decide) ?_
  refine z_iload_n b dX12_after_71 rfl rfl ?_
  refine z_bipush (v := 10) b dX12_after_72 (by decide) ?_
  refine z_irem (v := 2) b dX12_after_74 (by decide) (by decide) ?_
  refine z_istore_n (lv' := [(3, .int 2), (0, .ref (a 0)), (1, .int 5), (2, .int 12)]) b dX12_after_75 rfl (by decide) rfl ?_
  refine z_iload_n b dX12_after_76 rfl rfl ?_
  refine z_bipush (v := 10) b dX12_after_77 (by decide) ?_
  refine z_bipush (v := 38) b dX12_after_79 (by decide) ?_
  refine z_calli b (z_runS (As := [.int 12, .int 10, .int 38]) (st := []) b (c_X12_isIn_97 (si (sl S 2 1649317774848) 24 (-1)) ) cf_X12_isIn wm_X12_1 ws_X12_isIn dX12_after_81 rfl (Nat.le_of_ble_eq_true rfl) ⟨by decide, by decide, by decide, by decide⟩) (fun r21379 u21380 h21378 => ?_)
  obtain ⟨rfl, rfl⟩ := h21378
  refine z_if_eq_f (tgt := 102) b dX12_after_84 (by decide) (by decide) ?_
  refine z_iload_n b dX12_after_87 rfl rfl ?_
  refine z_bipush (v := 9) b dX12_after_88 (by decide) ?_
  refine z_icmp_eq_f (tgt := 102) b dX12_after_90 (by decide) (by decide) ?_
  refine z_iload_n b dX12_after_93 rfl rfl ?_
  refine z_iconst (v := 3) b dX12_after_94 (by decide) ?_
  refine z_idiv (v := 0) b dX12_after_95 (by decide) (by decide) ?_
  refine z_iload_n b dX12_after_96 rfl rfl ?_
  refine z_iconst (v := 3) b dX12_after_97 (by decide) ?_
  refine z_irem (v := 2) b dX12_after_98 (by decide) (by decide) ?_
  refine z_icmp_ne_t (tgt := 104) b dX12_after_99 (by decide) (by decide) ?_
  refine z_iload_n b dX12_after_104 rfl rfl ?_
  refine z_bipush (v := 20) b dX12_after_105 (by decide) ?_
  refine z_icmp_ge_f (tgt := 119) b dX12_after_107 (by decide) (by decide) ?_
  refine z_aload_n b dX12_after_110 rfl rfl ?_
  refine z_get (q0 := 0) (k9 := 1) (v := .ref (a 2)) b (mw_0 cy a (si (sl S 2 1649317774848) 24 (-1))) rfl in_X12 (by decide) wf_X12_17 rfl dX12_after_111 ?_
  refine z_iload_n b dX12_after_114 rfl rfl ?_
  refine y_iald (q0 := 2) (j := 2) (v := (ar (si (sl S 2 1649317774848) 24 (-1)) 1 2)) b (mw_2 cy a (si (sl S 2 1649317774848) 24 (-1))) (by decide) rfl dX12_after_115 ?_
  refine z_eqi h_a_1_2 ?_
  refine z_goto (tgt := 151) b dX12_after_116 (by decide) ?_
  exact z_iret (u := (si (sl S 2 1649317774848) 24 (-1))) b rfl dX12_after_151 ⟨rfl, rfl⟩ rfl (by decide) (by decide)

set_option maxHeartbeats 4000000 in
set_option maxRecDepth 100000 in
theorem c_X11_after_288 {l : Launch} {D : va_G} {cy : Nat → ClassId} {T0 tB tE : Nat} {a : Nat → Nat} {rw : Nat → Option Nat} (S : GS)  (h_i_14 : fi S 14 = (-1)) (h_i_37 : fi S 37 = 0) (h_a_4_13 : ar S 4 13 = 0) (hrw : ∀ i, i < 6 → rw i = some (a (36 + 2 * i))) : Ct l D cy T0 tB tE yX11_after cX11_after 3 (some .int) 3 86 0 0 (cw cy tE a rw S) [.ref (a 0), .int 5, .int 13] (QI D (U := GS) (fun r u => 0 = r ∧ (sa S 8 (va_cpy (ar S 4) (ar S 8) 0 0 51)) = u) (cw cy tE a rw)) := by
  refine Ct.ofZ RX11 "after" [(0, .ref (a 0)), (1, .int 5), (2, .int 13)] rfl rfl rfl rfl (Nat.le_of_ble_eq_true rfl) ?_
  intro p e R s m args below meth c A b
  refine z_iload_n b dX11_after_0 rfl rfl ?_
  refine z_calli b (z_runS (As := [.int 5]) (st := []) b (c_X11_isRow_8 S ) cf_X11_isRow wm_X11_169 ws_X11_isRow dX11_after_1 rfl (Nat.le_of_ble_eq_true rfl) ⟨by decide, by decide, by decide, by decide⟩) (fun r21382 u21383 h21381 => ?_)
  obtain ⟨rfl, rfl⟩ := h21381
  refine z_if_eq_f (tgt := 14) b dX11_after_4 (by decide) (by decide) ?_
  refine z_iload_n b dX11_after_7 rfl rfl ?_
  refine z_calli b (z_runS (As := [.int 13]) (st := []) b (c_X9_has_16 S ) cf_X9_has wm_X11_191 ws_X9_has dX11_after_8 rfl (Nat.le_of_ble_eq_true rfl) ⟨by decide, by decide, by decide, by decide⟩) (fun r21385 u21386 h21384 => ?_)
  obtain ⟨rfl, rfl⟩ := h21384
  refine z_if_ne_t (tgt := 16) b dX11_after_11 (by decide) (by decide) ?_
  refine z_aload_n b dX11_after_16 rfl rfl ?_
  refine z_get (q0 := 0) (k9 := 5) (v := .ref (a 16)) b (cw_0 cy tE a rw S) rfl in_X11 (by decide) wf_X11_43 rfl dX11_after_17 ?_
  refine z_aload_n b dX11_after_20 rfl rfl ?_
  refine z_get (q0 := 0) (k9 := 7) (v := .ref (a 35)) b (cw_0 cy tE a rw S) rfl in_X11 (by decide) wf_X11_58 rfl dX11_after_21 ?_
  refine z_iload_n b dX11_after_24 rfl rfl ?_
  refine y_aald (q0 := 35) (t0 := 4) (j := 5) (v := .ref (a 46)) b (cw_35 cy tE a rw S) rfl (by decide) (by rw [hrw 5 (by decide)]; rfl) dX11_after_25 ?_
  refine z_aload_n b dX11_after_26 rfl rfl ?_
  refine z_get (q0 := 0) (k9 := 4) (v := .ref (a 14)) b (cw_0 cy tE a rw S) rfl in_X11 (by decide) wf_X11_34 rfl dX11_after_27 ?_
  refine z_iconst (v := 3) b dX11_after_30 (by decide) ?_
  refine z_iconst (v := 0) b dX11_after_31 (by decide) ?_
  refine z_calli b (z_runV (q0 := 16) (As := [.ref (a 46), .ref (a 14), .int 3, .int 0]) (st := []) b (c_X2_follow_12 S h_i_14 h_i_37) cf_X2_follow (cw_16 cy tE a rw S) rfl wm_X11_184 wi_X2_follow ws_X2_follow dX11_after_32 rfl (Nat.le_of_ble_eq_true rfl) ⟨by decide, by decide, by decide, by decide⟩) (fun r21388 u21389 h21387 => ?_)
  obtain ⟨rfl, rfl⟩ := h21387
  refine z_pop b dX11_after_35 rfl ?_
  refine z_aload_n b dX11_after_36 rfl rfl ?_
  refine z_get (q0 := 0) (k9 := 5) (v := .ref (a 16)) b (cw_0 cy tE a rw (sa S 8 (va_cpy (ar S 4) (ar S 8) 0 0 51))) rfl in_X11 (by decide) wf_X11_43 rfl dX11_after_37 ?_
  refine z_get (q0 := 16) (k9 := 3) (v := .ref (a 23)) b (cw_16 cy tE a rw (sa S 8 (va_cpy (ar S 4) (ar S 8) 0 0 51))) rfl in_X2 (by decide) wf_X11_194 rfl dX11_after_40 ?_
  refine z_iload_n b dX11_after_43 rfl rfl ?_
  refine z_calli b (z_runV (q0 := 23) (As := [.int 13]) (st := []) b (c_X9_get_15 (sa S 8 (va_cpy (ar S 4) (ar S 8) 0 0 51)) h_a_4_13) cf_X9_get (cw_23 cy tE a rw (sa S 8 (va_cpy (ar S 4) (ar S 8) 0 0 51))) rfl wm_X11_197 wi_X9_get ws_X9_get dX11_after_44 rfl (Nat.le_of_ble_eq_true rfl) ⟨by decide, by decide, by decide, by decide⟩) (fun r21391 u21392 h21390 => ?_)
  obtain ⟨rfl, rfl⟩ := h21390
  exact z_iret (u := (sa S 8 (va_cpy (ar S 4) (ar S 8) 0 0 51))) b rfl dX11_after_47 ⟨rfl, rfl⟩ rfl (by decide) (by decide)

set_option maxHeartbeats 4000000 in
set_option maxRecDepth 100000 in
theorem c_X12_after_288 {l : Launch} {D : va_G} {cy : Nat → ClassId} {T0 tB tE : Nat} {a : Nat → Nat} (S : GS)  (h_l_0 : fl S 0 = 1649317774848) (h_a_38_5 : ar S 38 5 = 0) (h_a_4_7 : ar S 4 7 = 0) (h_a_1_7 : ar S 1 7 = 0) (h_a_4_6 : ar S 4 6 = 0) (h_a_1_6 : ar S 1 6 = 0) (h_a_3_6 : ar S 3 6 = 0) (h_a_3_2 : ar S 3 2 = 0) (h_a_2_2 : ar S 2 2 = 3) (h_a_0_2 : ar S 0 2 = 0) (h_a_4_3 : ar S 4 3 = 0) (h_a_1_3 : ar S 1 3 = 0) (h_a_4_5 : ar S 4 5 = 0) (h_a_1_5 : ar S 1 5 = 0) (h_a_3_5 : ar S 3 5 = 0) (h_a_3_7 : ar S 3 7 = 0) (h_a_2_1 : ar S 2 1 = 3) (h_a_0_1 : ar S 0 1 = 0) (h_a_4_2 : ar S 4 2 = 0) (h_a_1_2 : ar S 1 2 = 0) (h_a_4_1 : ar S 4 1 = 0) (h_a_1_1 : ar S 1 1 = 0) (h_a_3_1 : ar S 3 1 = 0) (h_a_3_3 : ar S 3 3 = 0) (h_a_2_0 : ar S 2 0 = 3) (h_a_0_0 : ar S 0 0 = 0) (h_i_0 : fi S 0 = 0) : Ct l D cy T0 tB tE yX12_after cX12_after 4 (some .int) 2 47 0 0 (mw cy a S) [.ref (a 0), .int 5, .int 13] (QI D (U := GS) (fun r u => 0 = r ∧ (si (sl S 2 1649317774848) 24 (-1)) = u) (mw cy a)) := by
  refine Ct.ofZ RX12 "after" [(0, .ref (a 0)), (1, .int 5), (2, .int 13)] rfl rfl rfl rfl (Nat.le_of_ble_eq_true rfl) ?_
  intro p e R s m args below meth c A b
  refine z_iload_n b dX12_after_0 rfl rfl ?_
  refine z_calli b (z_runS (As := [.int 5]) (st := []) b (c_X12_isRow_8 S ) cf_X12_isRow wm_X12_452 ws_X12_isRow dX12_after_1 rfl (Nat.le_of_ble_eq_true rfl) ⟨by decide, by decide, by decide, by decide⟩) (fun r21394 u21395 h21393 => ?_)
  obtain ⟨rfl, rfl⟩ := h21393
  refine z_if_ne_t (tgt := 9) b dX12_after_4 (by decide) (by decide) ?_
  refine z_aload_n b dX12_after_9 rfl rfl ?_
  refine z_iload_n b dX12_after_10 rfl rfl ?_
  refine z_iconst (v := 3) b dX12_after_11 (by decide) ?_
  refine z_iconst (v := 0) b dX12_after_12 (by decide) ?_
  refine z_calli b (z_runV (q0 := 0) (As := [.int 5, .int 3, .int 0]) (st := []) b (c_X12_goes_12 S h_l_0 h_a_38_5) cf_X12_goes (mw_0 cy a S) rfl wm_X12_464 wi_X12_goes ws_X12_goes dX12_after_13 rfl (Nat.le_of_ble_eq_true rfl) ⟨by decide, by decide, by decide, by decide⟩) (fun r21397 u21398 h21396 => ?_)
  obtain ⟨rfl, rfl⟩ := h21396
  refine z_pop b dX12_after_16 rfl ?_
  refine z_aload_n b dX12_after_17 rfl rfl ?_
  refine z_aload_n b dX12_after_18 rfl rfl ?_
  refine z_get (q0 := 0) (k9 := 68) (v := .long 1649317774848) b (mw_0 cy a (si (sl S 2 1649317774848) 24 (-1))) rfl in_X12 (by decide) wf_X12_458 rfl dX12_after_19 ?_
  refine z_callv b (z_runV (q0 := 0) (As := [.long 1649317774848]) (st := []) b (c_X12_takes (si (sl S 2 1649317774848) 24 (-1)) h_a_4_7 h_a_1_7 h_a_4_6 h_a_1_6 h_a_3_6 h_a_3_2 h_a_2_2 h_a_0_2 h_a_4_3 h_a_1_3 h_a_4_5 h_a_1_5 h_a_3_5 h_a_3_7 h_a_2_1 h_a_0_1 h_a_4_2 h_a_1_2 h_a_4_1 h_a_1_1 h_a_3_1 h_a_3_3 h_a_2_0 h_a_0_0 h_i_0) cf_X12_takes (mw_0 cy a (si (sl S 2 1649317774848) 24 (-1))) rfl wm_X12_174 wi_X12_takes ws_X12_takes dX12_after_22 rfl (Nat.le_of_ble_eq_true rfl) ⟨by decide, by decide, by decide, by decide⟩) (fun u21401 h21399 => ?_)
  obtain rfl := h21399
  refine z_iload_n b dX12_after_25 rfl rfl ?_
  refine z_calli b (z_runS (As := [.int 13]) (st := []) b (c_X12_isOne_18 (si (sl S 2 1649317774848) 24 (-1)) ) cf_X12_isOne wm_X12_170 ws_X12_isOne dX12_after_26 rfl (Nat.le_of_ble_eq_true rfl) ⟨by decide, by decide, by decide, by decide⟩) (fun r21403 u21404 h21402 => ?_)
  obtain ⟨rfl, rfl⟩ := h21402
  refine z_if_eq_t (tgt := 39) b dX12_after_29 (by decide) (by decide) ?_
  refine z_iload_n b dX12_after_39 rfl rfl ?_
  refine z_bipush (v := 50) b dX12_after_40 (by decide) ?_
  refine z_icmp_ne_t (tgt := 50) b dX12_after_42 (by decide) (by decide) ?_
  refine z_iload_n b dX12_after_50 rfl rfl ?_
  refine z_bipush (v := 40) b dX12_after_51 (by decide) ?_
  refine z_bipush (v := 42) b dX12_after_53 (by decide) ?_
  refine z_calli b (z_runS (As := [.int 13, .int 40, .int 42]) (st := []) b (c_X12_isIn_99 (si (sl S 2 1649317774848) 24 (-1)) ) cf_X12_isIn wm_X12_1 ws_X12_isIn dX12_after_55 rfl (Nat.le_of_ble_eq_true rfl) ⟨by decide, by decide, by decide, by decide⟩) (fun r21406 u21407 h21405 => ?_)
  obtain ⟨rfl, rfl⟩ := h21405
  refine z_if_eq_t (tgt := 71) b dX12_after_58 (by decide) (by decide) ?_
  refine z_iload_n b dX12_after_71 rfl rfl ?_
  refine z_bipush (v := 10) b dX12_after_72 (by decide) ?_
  refine z_irem (v := 3) b dX12_after_74 (by decide) (by decide) ?_
  refine z_istore_n (lv' := [(3, .int 3), (0, .ref (a 0)), (1, .int 5), (2, .int 13)]) b dX12_after_75 rfl (by decide) rfl ?_
  refine z_iload_n b dX12_after_76 rfl rfl ?_
  refine z_bipush (v := 10) b dX12_after_77 (by decide) ?_
  refine z_bipush (v := 38) b dX12_after_79 (by decide) ?_
  refine z_calli b (z_runS (As := [.int 13, .int 10, .int 38]) (st := []) b (c_X12_isIn_100 (si (sl S 2 1649317774848) 24 (-1)) ) cf_X12_isIn wm_X12_1 ws_X12_isIn dX12_after_81 rfl (Nat.le_of_ble_eq_true rfl) ⟨by decide, by decide, by decide, by decide⟩) (fun r21409 u21410 h21408 => ?_)
  obtain ⟨rfl, rfl⟩ := h21408
  refine z_if_eq_f (tgt := 102) b dX12_after_84 (by decide) (by decide) ?_
  refine z_iload_n b dX12_after_87 rfl rfl ?_
  refine z_bipush (v := 9) b dX12_after_88 (by decide) ?_
  refine z_icmp_eq_f (tgt := 102) b dX12_after_90 (by decide) (by decide) ?_
  refine z_iload_n b dX12_after_93 rfl rfl ?_
  refine z_iconst (v := 3) b dX12_after_94 (by decide) ?_
  refine z_idiv (v := 1) b dX12_after_95 (by decide) (by decide) ?_
  refine z_iload_n b dX12_after_96 rfl rfl ?_
  refine z_iconst (v := 3) b dX12_after_97 (by decide) ?_
  refine z_irem (v := 0) b dX12_after_98 (by decide) (by decide) ?_
  refine z_icmp_ne_t (tgt := 104) b dX12_after_99 (by decide) (by decide) ?_
  refine z_iload_n b dX12_after_104 rfl rfl ?_
  refine z_bipush (v := 20) b dX12_after_105 (by decide) ?_
  refine z_icmp_ge_f (tgt := 119) b dX12_after_107 (by decide) (by decide) ?_
  refine z_aload_n b dX12_after_110 rfl rfl ?_
  refine z_get (q0 := 0) (k9 := 1) (v := .ref (a 2)) b (mw_0 cy a (si (sl S 2 1649317774848) 24 (-1))) rfl in_X12 (by decide) wf_X12_17 rfl dX12_after_111 ?_
  refine z_iload_n b dX12_after_114 rfl rfl ?_
  refine y_iald (q0 := 2) (j := 3) (v := (ar (si (sl S 2 1649317774848) 24 (-1)) 1 3)) b (mw_2 cy a (si (sl S 2 1649317774848) 24 (-1))) (by decide) rfl dX12_after_115 ?_
  refine z_eqi h_a_1_3 ?_
  refine z_goto (tgt := 151) b dX12_after_116 (by decide) ?_
  exact z_iret (u := (si (sl S 2 1649317774848) 24 (-1))) b rfl dX12_after_151 ⟨rfl, rfl⟩ rfl (by decide) (by decide)

set_option maxHeartbeats 4000000 in
set_option maxRecDepth 100000 in
theorem c_X11_after_289 {l : Launch} {D : va_G} {cy : Nat → ClassId} {T0 tB tE : Nat} {a : Nat → Nat} {rw : Nat → Option Nat} (S : GS)   : Ct l D cy T0 tB tE yX11_after cX11_after 3 (some .int) 3 62 0 0 (cw cy tE a rw S) [.ref (a 0), .int 5, .int 14] (QI D (U := GS) (fun r u => (-1) = r ∧ S = u) (cw cy tE a rw)) := by
  refine Ct.ofZ RX11 "after" [(0, .ref (a 0)), (1, .int 5), (2, .int 14)] rfl rfl rfl rfl (Nat.le_of_ble_eq_true rfl) ?_
  intro p e R s m args below meth c A b
  refine z_iload_n b dX11_after_0 rfl rfl ?_
  refine z_calli b (z_runS (As := [.int 5]) (st := []) b (c_X11_isRow_8 S ) cf_X11_isRow wm_X11_169 ws_X11_isRow dX11_after_1 rfl (Nat.le_of_ble_eq_true rfl) ⟨by decide, by decide, by decide, by decide⟩) (fun r21412 u21413 h21411 => ?_)
  obtain ⟨rfl, rfl⟩ := h21411
  refine z_if_eq_f (tgt := 14) b dX11_after_4 (by decide) (by decide) ?_
  refine z_iload_n b dX11_after_7 rfl rfl ?_
  refine z_calli b (z_runS (As := [.int 14]) (st := []) b (c_X9_has_17 S ) cf_X9_has wm_X11_191 ws_X9_has dX11_after_8 rfl (Nat.le_of_ble_eq_true rfl) ⟨by decide, by decide, by decide, by decide⟩) (fun r21415 u21416 h21414 => ?_)
  obtain ⟨rfl, rfl⟩ := h21414
  refine z_if_ne_f (tgt := 16) b dX11_after_11 (by decide) (by decide) ?_
  refine z_iconst (v := (-1)) b dX11_after_14 (by decide) ?_
  exact z_iret (u := S) b rfl dX11_after_15 ⟨rfl, rfl⟩ rfl (by decide) (by decide)

set_option maxHeartbeats 4000000 in
set_option maxRecDepth 100000 in
theorem c_X12_after_289 {l : Launch} {D : va_G} {cy : Nat → ClassId} {T0 tB tE : Nat} {a : Nat → Nat} (S : GS)  (h_l_0 : fl S 0 = 1649317774848) (h_a_38_5 : ar S 38 5 = 0) (h_a_4_7 : ar S 4 7 = 0) (h_a_1_7 : ar S 1 7 = 0) (h_a_4_6 : ar S 4 6 = 0) (h_a_1_6 : ar S 1 6 = 0) (h_a_3_6 : ar S 3 6 = 0) (h_a_3_2 : ar S 3 2 = 0) (h_a_2_2 : ar S 2 2 = 3) (h_a_0_2 : ar S 0 2 = 0) (h_a_4_3 : ar S 4 3 = 0) (h_a_1_3 : ar S 1 3 = 0) (h_a_4_5 : ar S 4 5 = 0) (h_a_1_5 : ar S 1 5 = 0) (h_a_3_5 : ar S 3 5 = 0) (h_a_3_7 : ar S 3 7 = 0) (h_a_2_1 : ar S 2 1 = 3) (h_a_0_1 : ar S 0 1 = 0) (h_a_4_2 : ar S 4 2 = 0) (h_a_1_2 : ar S 1 2 = 0) (h_a_4_1 : ar S 4 1 = 0) (h_a_1_1 : ar S 1 1 = 0) (h_a_3_1 : ar S 3 1 = 0) (h_a_3_3 : ar S 3 3 = 0) (h_a_2_0 : ar S 2 0 = 3) (h_a_0_0 : ar S 0 0 = 0) (h_i_0 : fi S 0 = 0) : Ct l D cy T0 tB tE yX12_after cX12_after 4 (some .int) 2 47 0 0 (mw cy a S) [.ref (a 0), .int 5, .int 14] (QI D (U := GS) (fun r u => (-1) = r ∧ (si (sl S 2 1649317774848) 24 (-1)) = u) (mw cy a)) := by
  refine Ct.ofZ RX12 "after" [(0, .ref (a 0)), (1, .int 5), (2, .int 14)] rfl rfl rfl rfl (Nat.le_of_ble_eq_true rfl) ?_
  intro p e R s m args below meth c A b
  refine z_iload_n b dX12_after_0 rfl rfl ?_
  refine z_calli b (z_runS (As := [.int 5]) (st := []) b (c_X12_isRow_8 S ) cf_X12_isRow wm_X12_452 ws_X12_isRow dX12_after_1 rfl (Nat.le_of_ble_eq_true rfl) ⟨by decide, by decide, by decide, by decide⟩) (fun r21418 u21419 h21417 => ?_)
  obtain ⟨rfl, rfl⟩ := h21417
  refine z_if_ne_t (tgt := 9) b dX12_after_4 (by decide) (by decide) ?_
  refine z_aload_n b dX12_after_9 rfl rfl ?_
  refine z_iload_n b dX12_after_10 rfl rfl ?_
  refine z_iconst (v := 3) b dX12_after_11 (by decide) ?_
  refine z_iconst (v := 0) b dX12_after_12 (by decide) ?_
  refine z_calli b (z_runV (q0 := 0) (As := [.int 5, .int 3, .int 0]) (st := []) b (c_X12_goes_12 S h_l_0 h_a_38_5) cf_X12_goes (mw_0 cy a S) rfl wm_X12_464 wi_X12_goes ws_X12_goes dX12_after_13 rfl (Nat.le_of_ble_eq_true rfl) ⟨by decide, by decide, by decide, by decide⟩) (fun r21421 u21422 h21420 => ?_)
  obtain ⟨rfl, rfl⟩ := h21420
  refine z_pop b dX12_after_16 rfl ?_
  refine z_aload_n b dX12_after_17 rfl rfl ?_
  refine z_aload_n b dX12_after_18 rfl rfl ?_
  refine z_get (q0 := 0) (k9 := 68) (v := .long 1649317774848) b (mw_0 cy a (si (sl S 2 1649317774848) 24 (-1))) rfl in_X12 (by decide) wf_X12_458 rfl dX12_after_19 ?_
  refine z_callv b (z_runV (q0 := 0) (As := [.long 1649317774848]) (st := []) b (c_X12_takes (si (sl S 2 1649317774848) 24 (-1)) h_a_4_7 h_a_1_7 h_a_4_6 h_a_1_6 h_a_3_6 h_a_3_2 h_a_2_2 h_a_0_2 h_a_4_3 h_a_1_3 h_a_4_5 h_a_1_5 h_a_3_5 h_a_3_7 h_a_2_1 h_a_0_1 h_a_4_2 h_a_1_2 h_a_4_1 h_a_1_1 h_a_3_1 h_a_3_3 h_a_2_0 h_a_0_0 h_i_0) cf_X12_takes (mw_0 cy a (si (sl S 2 1649317774848) 24 (-1))) rfl wm_X12_174 wi_X12_takes ws_X12_takes dX12_after_22 rfl (Nat.le_of_ble_eq_true rfl) ⟨by decide, by decide, by decide, by decide⟩) (fun u21425 h21423 => ?_)
  obtain rfl := h21423
  refine z_iload_n b dX12_after_25 rfl rfl ?_
  refine z_calli b (z_runS (As := [.int 14]) (st := []) b (c_X12_isOne_19 (si (sl S 2 1649317774848) 24 (-1)) ) cf_X12_isOne wm_X12_170 ws_X12_isOne dX12_after_26 rfl (Nat.le_of_ble_eq_true rfl) ⟨by decide, by decide, by decide, by decide⟩) (fun r21427 u21428 h21426 => ?_)
  obtain ⟨rfl, rfl⟩ := h21426
  refine z_if_eq_t (tgt := 39) b dX12_after_29 (by decide) (by decide) ?_
  refine z_iload_n b dX12_after_39 rfl rfl ?_
  refine z_bipush (v := 50) b dX12_after_40 (by decide) ?_
  refine z_icmp_ne_t (tgt := 50) b dX12_after_42 (by decide) (by decide) ?_
  refine z_iload_n b dX12_after_50 rfl rfl ?_
  refine z_bipush (v := 40) b dX12_after_51 (by decide) ?_
  refine z_bipush (v := 42) b dX12_after_53 (by decide) ?_
  refine z_calli b (z_runS (As := [.int 14, .int 40, .int 42]) (st := []) b (c_X12_isIn_102 (si (sl S 2 1649317774848) 24 (-1)) ) cf_X12_isIn wm_X12_1 ws_X12_isIn dX12_after_55 rfl (Nat.le_of_ble_eq_true rfl) ⟨by decide, by decide, by decide, by decide⟩) (fun r21430 u21431 h21429 => ?_)
  obtain ⟨rfl, rfl⟩ := h21429
  refine z_if_eq_t (tgt := 71) b dX12_after_58 (by decide) (by decide) ?_
  refine z_iload_n b dX12_after_71 rfl rfl ?_
  refine z_bipush (v := 10) b dX12_after_72 (by decide) ?_
  refine z_irem (v := 4) b dX12_after_74 (by decide) (by decide) ?_
  refine z_istore_n (lv' := [(3, .int 4), (0, .ref (a 0)), (1, .int 5), (2, .int 14)]) b dX12_after_75 rfl (by decide) rfl ?_
  refine z_iload_n b dX12_after_76 rfl rfl ?_
  refine z_bipush (v := 10) b dX12_after_77 (by decide) ?_
  refine z_bipush (v := 38) b dX12_after_79 (by decide) ?_
  refine z_calli b (z_runS (As := [.int 14, .int 10, .int 38]) (st := []) b (c_X12_isIn_103 (si (sl S 2 1649317774848) 24 (-1)) ) cf_X12_isIn wm_X12_1 ws_X12_isIn dX12_after_81 rfl (Nat.le_of_ble_eq_true rfl) ⟨by decide, by decide, by decide, by decide⟩) (fun r21433 u21434 h21432 => ?_)
  obtain ⟨rfl, rfl⟩ := h21432
  refine z_if_eq_f (tgt := 102) b dX12_after_84 (by decide) (by decide) ?_
  refine z_iload_n b dX12_after_87 rfl rfl ?_
  refine z_bipush (v := 9) b dX12_after_88 (by decide) ?_
  refine z_icmp_eq_f (tgt := 102) b dX12_after_90 (by decide) (by decide) ?_
  refine z_iload_n b dX12_after_93 rfl rfl ?_
  refine z_iconst (v := 3) b dX12_after_94 (by decide) ?_
  refine z_idiv (v := 1) b dX12_after_95 (by decide) (by decide) ?_
  refine z_iload_n b dX12_after_96 rfl rfl ?_
  refine z_iconst (v := 3) b dX12_after_97 (by decide) ?_
  refine z_irem (v := 1) b dX12_after_98 (by decide) (by decide) ?_
  refine z_icmp_ne_f (tgt := 104) b dX12_after_99 (by decide) (by decide) ?_
  refine z_iconst (v := (-1)) b dX12_after_102 (by decide) ?_
  exact z_iret (u := (si (sl S 2 1649317774848) 24 (-1))) b rfl dX12_after_103 ⟨rfl, rfl⟩ rfl (by decide) (by decide)

set_option maxHeartbeats 4000000 in
set_option maxRecDepth 100000 in
theorem c_X11_after_290 {l : Launch} {D : va_G} {cy : Nat → ClassId} {T0 tB tE : Nat} {a : Nat → Nat} {rw : Nat → Option Nat} (S : GS)  (h_i_14 : fi S 14 = (-1)) (h_i_37 : fi S 37 = 0) (h_a_4_15 : ar S 4 15 = 0) (hrw : ∀ i, i < 6 → rw i = some (a (36 + 2 * i))) : Ct l D cy T0 tB tE yX11_after cX11_after 3 (some .int) 3 86 0 0 (cw cy tE a rw S) [.ref (a 0), .int 5, .int 15] (QI D (U := GS) (fun r u => 0 = r ∧ (sa S 8 (va_cpy (ar S 4) (ar S 8) 0 0 51)) = u) (cw cy tE a rw)) := by
  refine Ct.ofZ RX11 "after" [(0, .ref (a 0)), (1, .int 5), (2, .int 15)] rfl rfl rfl rfl (Nat.le_of_ble_eq_true rfl) ?_
  intro p e R s m args below meth c A b
  refine z_iload_n b dX11_after_0 rfl rfl ?_
  refine z_calli b (z_runS (As := [.int 5]) (st := []) b (c_X11_isRow_8 S ) cf_X11_isRow wm_X11_169 ws_X11_isRow dX11_after_1 rfl (Nat.le_of_ble_eq_true rfl) ⟨by decide, by decide, by decide, by decide⟩) (fun r21436 u21437 h21435 => ?_)
  obtain ⟨rfl, rfl⟩ := h21435
  refine z_if_eq_f (tgt := 14) b dX11_after_4 (by decide) (by decide) ?_
  refine z_iload_n b dX11_after_7 rfl rfl ?_
  refine z_calli b (z_runS (As := [.int 15]) (st := []) b (c_X9_has_18 S ) cf_X9_has wm_X11_191 ws_X9_has dX11_after_8 rfl (Nat.le_of_ble_eq_true rfl) ⟨by decide, by decide, by decide, by decide⟩) (fun r21439 u21440 h21438 => ?_)
  obtain ⟨rfl, rfl⟩ := h21438
  refine z_if_ne_t (tgt := 16) b dX11_after_11 (by decide) (by decide) ?_
  refine z_aload_n b dX11_after_16 rfl rfl ?_
  refine z_get (q0 := 0) (k9 := 5) (v := .ref (a 16)) b (cw_0 cy tE a rw S) rfl in_X11 (by decide) wf_X11_43 rfl dX11_after_17 ?_
  refine z_aload_n b dX11_after_20 rfl rfl ?_
  refine z_get (q0 := 0) (k9 := 7) (v := .ref (a 35)) b (cw_0 cy tE a rw S) rfl in_X11 (by decide) wf_X11_58 rfl dX11_after_21 ?_
  refine z_iload_n b dX11_after_24 rfl rfl ?_
  refine y_aald (q0 := 35) (t0 := 4) (j := 5) (v := .ref (a 46)) b (cw_35 cy tE a rw S) rfl (by decide) (by rw [hrw 5 (by decide)]; rfl) dX11_after_25 ?_
  refine z_aload_n b dX11_after_26 rfl rfl ?_
  refine z_get (q0 := 0) (k9 := 4) (v := .ref (a 14)) b (cw_0 cy tE a rw S) rfl in_X11 (by decide) wf_X11_34 rfl dX11_after_27 ?_
  refine z_iconst (v := 3) b dX11_after_30 (by decide) ?_
  refine z_iconst (v := 0) b dX11_after_31 (by decide) ?_
  refine z_calli b (z_runV (q0 := 16) (As := [.ref (a 46), .ref (a 14), .int 3, .int 0]) (st := []) b (c_X2_follow_12 S h_i_14 h_i_37) cf_X2_follow (cw_16 cy tE a rw S) rfl wm_X11_184 wi_X2_follow ws_X2_follow dX11_after_32 rfl (Nat.le_of_ble_eq_true rfl) ⟨by decide, by decide, by decide, by decide⟩) (fun r21442 u21443 h21441 => ?_)
  obtain ⟨rfl, rfl⟩ := h21441
  refine z_pop b dX11_after_35 rfl ?_
  refine z_aload_n b dX11_after_36 rfl rfl ?_
  refine z_get (q0 := 0) (k9 := 5) (v := .ref (a 16)) b (cw_0 cy tE a rw (sa S 8 (va_cpy (ar S 4) (ar S 8) 0 0 51))) rfl in_X11 (by decide) wf_X11_43 rfl dX11_after_37 ?_
  refine z_get (q0 := 16) (k9 := 3) (v := .ref (a 23)) b (cw_16 cy tE a rw (sa S 8 (va_cpy (ar S 4) (ar S 8) 0 0 51))) rfl in_X2 (by decide) wf_X11_194 rfl dX11_after_40 ?_
  refine z_iload_n b dX11_after_43 rfl rfl ?_
  refine z_calli b (z_runV (q0 := 23) (As := [.int 15]) (st := []) b (c_X9_get_16 (sa S 8 (va_cpy (ar S 4) (ar S 8) 0 0 51)) h_a_4_15) cf_X9_get (cw_23 cy tE a rw (sa S 8 (va_cpy (ar S 4) (ar S 8) 0 0 51))) rfl wm_X11_197 wi_X9_get ws_X9_get dX11_after_44 rfl (Nat.le_of_ble_eq_true rfl) ⟨by decide, by decide, by decide, by decide⟩) (fun r21445 u21446 h21444 => ?_)
  obtain ⟨rfl, rfl⟩ := h21444
  exact z_iret (u := (sa S 8 (va_cpy (ar S 4) (ar S 8) 0 0 51))) b rfl dX11_after_47 ⟨rfl, rfl⟩ rfl (by decide) (by decide)

set_option maxHeartbeats 4000000 in
set_option maxRecDepth 100000 in
theorem c_X12_after_290 {l : Launch} {D : va_G} {cy : Nat → ClassId} {T0 tB tE : Nat} {a : Nat → Nat} (S : GS)  (h_l_0 : fl S 0 = 1649317774848) (h_a_38_5 : ar S 38 5 = 0) (h_a_4_7 : ar S 4 7 = 0) (h_a_1_7 : ar S 1 7 = 0) (h_a_4_6 : ar S 4 6 = 0) (h_a_1_6 : ar S 1 6 = 0) (h_a_3_6 : ar S 3 6 = 0) (h_a_3_2 : ar S 3 2 = 0) (h_a_2_2 : ar S 2 2 = 3) (h_a_0_2 : ar S 0 2 = 0) (h_a_4_3 : ar S 4 3 = 0) (h_a_1_3 : ar S 1 3 = 0) (h_a_4_5 : ar S 4 5 = 0) (h_a_1_5 : ar S 1 5 = 0) (h_a_3_5 : ar S 3 5 = 0) (h_a_3_7 : ar S 3 7 = 0) (h_a_2_1 : ar S 2 1 = 3) (h_a_0_1 : ar S 0 1 = 0) (h_a_4_2 : ar S 4 2 = 0) (h_a_1_2 : ar S 1 2 = 0) (h_a_4_1 : ar S 4 1 = 0) (h_a_1_1 : ar S 1 1 = 0) (h_a_3_1 : ar S 3 1 = 0) (h_a_3_3 : ar S 3 3 = 0) (h_a_2_0 : ar S 2 0 = 3) (h_a_0_0 : ar S 0 0 = 0) (h_i_0 : fi S 0 = 0) : Ct l D cy T0 tB tE yX12_after cX12_after 4 (some .int) 2 47 0 0 (mw cy a S) [.ref (a 0), .int 5, .int 15] (QI D (U := GS) (fun r u => 0 = r ∧ (si (sl S 2 1649317774848) 24 (-1)) = u) (mw cy a)) := by
  refine Ct.ofZ RX12 "after" [(0, .ref (a 0)), (1, .int 5), (2, .int 15)] rfl rfl rfl rfl (Nat.le_of_ble_eq_true rfl) ?_
  intro p e R s m args below meth c A b
  refine z_iload_n b dX12_after_0 rfl rfl ?_
  refine z_calli b (z_runS (As := [.int 5]) (st := []) b (c_X12_isRow_8 S ) cf_X12_isRow wm_X12_452 ws_X12_isRow dX12_after_1 rfl (Nat.le_of_ble_eq_true rfl) ⟨by decide, by decide, by decide, by decide⟩) (fun r21448 u21449 h21447 => ?_)
  obtain ⟨rfl, rfl⟩ := h21447
  refine z_if_ne_t (tgt := 9) b dX12_after_4 (by decide) (by decide) ?_
  refine z_aload_n b dX12_after_9 rfl rfl ?_
  refine z_iload_n b dX12_after_10 rfl rfl ?_
  refine z_iconst (v := 3) b dX12_after_11 (by decide) ?_
  refine z_iconst (v := 0) b dX12_after_12 (by decide) ?_
  refine z_calli b (z_runV (q0 := 0) (As := [.int 5, .int 3, .int 0]) (st := []) b (c_X12_goes_12 S h_l_0 h_a_38_5) cf_X12_goes (mw_0 cy a S) rfl wm_X12_464 wi_X12_goes ws_X12_goes dX12_after_13 rfl (Nat.le_of_ble_eq_true rfl) ⟨by decide, by decide, by decide, by decide⟩) (fun r21451 u21452 h21450 => ?_)
  obtain ⟨rfl, rfl⟩ := h21450
  refine z_pop b dX12_after_16 rfl ?_
  refine z_aload_n b dX12_after_17 rfl rfl ?_
  refine z_aload_n b dX12_after_18 rfl rfl ?_
  refine z_get (q0 := 0) (k9 := 68) (v := .long 1649317774848) b (mw_0 cy a (si (sl S 2 1649317774848) 24 (-1))) rfl in_X12 (by decide) wf_X12_458 rfl dX12_after_19 ?_
  refine z_callv b (z_runV (q0 := 0) (As := [.long 1649317774848]) (st := []) b (c_X12_takes (si (sl S 2 1649317774848) 24 (-1)) h_a_4_7 h_a_1_7 h_a_4_6 h_a_1_6 h_a_3_6 h_a_3_2 h_a_2_2 h_a_0_2 h_a_4_3 h_a_1_3 h_a_4_5 h_a_1_5 h_a_3_5 h_a_3_7 h_a_2_1 h_a_0_1 h_a_4_2 h_a_1_2 h_a_4_1 h_a_1_1 h_a_3_1 h_a_3_3 h_a_2_0 h_a_0_0 h_i_0) cf_X12_takes (mw_0 cy a (si (sl S 2 1649317774848) 24 (-1))) rfl wm_X12_174 wi_X12_takes ws_X12_takes dX12_after_22 rfl (Nat.le_of_ble_eq_true rfl) ⟨by decide, by decide, by decide, by decide⟩) (fun u21455 h21453 => ?_)
  obtain rfl := h21453
  refine z_iload_n b dX12_after_25 rfl rfl ?_
  refine z_calli b (z_runS (As := [.int 15]) (st := []) b (c_X12_isOne_20 (si (sl S 2 1649317774848) 24 (-1)) ) cf_X12_isOne wm_X12_170 ws_X12_isOne dX12_after_26 rfl (Nat.le_of_ble_eq_true rfl) ⟨by decide, by decide, by decide, by decide⟩) (fun r21457 u21458 h21456 => ?_)
  obtain ⟨rfl, rfl⟩ := h21456
  refine z_if_eq_t (tgt := 39) b dX12_after_29 (by decide) (by decide) ?_
  refine z_iload_n b dX12_after_39 rfl rfl ?_
  refine z_bipush (v := 50) b dX12_after_40 (by decide) ?_
  refine z_icmp_ne_t (tgt := 50) b dX12_after_42 (by decide) (by decide) ?_
  refine z_iload_n b dX12_after_50 rfl rfl ?_
  refine z_bipush (v := 40) b dX12_after_51 (by decide) ?_
  refine z_bipush (v := 42) b dX12_after_53 (by decide) ?_
  refine z_calli b (z_runS (As := [.int 15, .int 40, .int 42]) (st := []) b (c_X12_isIn_105 (si (sl S 2 1649317774848) 24 (-1)) ) cf_X12_isIn wm_X12_1 ws_X12_isIn dX12_after_55 rfl (Nat.le_of_ble_eq_true rfl) ⟨by decide, by decide, by decide, by decide⟩) (fun r21460 u21461 h21459 => ?_)
  obtain ⟨rfl, rfl⟩ := h21459
  refine z_if_eq_t (tgt := 71) b dX12_after_58 (by decide) (by decide) ?_
  refine z_iload_n b dX12_after_71 rfl rfl ?_
  refine z_bipush (v := 10) b dX12_after_72 (by decide) ?_
  refine z_irem (v := 5) b dX12_after_74 (by decide) (by decide) ?_
  refine z_istore_n (lv' := [(3, .int 5), (0, .ref (a 0)), (1, .int 5), (2, .int 15)]) b dX12_after_75 rfl (by decide) rfl ?_
  refine z_iload_n b dX12_after_76 rfl rfl ?_
  refine z_bipush (v := 10) b dX12_after_77 (by decide) ?_
  refine z_bipush (v := 38) b dX12_after_79 (by decide) ?_
  refine z_calli b (z_runS (As := [.int 15, .int 10, .int 38]) (st := []) b (c_X12_isIn_106 (si (sl S 2 1649317774848) 24 (-1)) ) cf_X12_isIn wm_X12_1 ws_X12_isIn dX12_after_81 rfl (Nat.le_of_ble_eq_true rfl) ⟨by decide, by decide, by decide, by decide⟩) (fun r21463 u21464 h21462 => ?_)
  obtain ⟨rfl, rfl⟩ := h21462
  refine z_if_eq_f (tgt := 102) b dX12_after_84 (by decide) (by decide) ?_
  refine z_iload_n b dX12_after_87 rfl rfl ?_
  refine z_bipush (v := 9) b dX12_after_88 (by decide) ?_
  refine z_icmp_eq_f (tgt := 102) b dX12_after_90 (by decide) (by decide) ?_
  refine z_iload_n b dX12_after_93 rfl rfl ?_
  refine z_iconst (v := 3) b dX12_after_94 (by decide) ?_
  refine z_idiv (v := 1) b dX12_after_95 (by decide) (by decide) ?_
  refine z_iload_n b dX12_after_96 rfl rfl ?_
  refine z_iconst (v := 3) b dX12_after_97 (by decide) ?_
  refine z_irem (v := 2) b dX12_after_98 (by decide) (by decide) ?_
  refine z_icmp_ne_t (tgt := 104) b dX12_after_99 (by decide) (by decide) ?_
  refine z_iload_n b dX12_after_104 rfl rfl ?_
  refine z_bipush (v := 20) b dX12_after_105 (by decide) ?_
  refine z_icmp_ge_f (tgt := 119) b dX12_after_107 (by decide) (by decide) ?_
  refine z_aload_n b dX12_after_110 rfl rfl ?_
  refine z_get (q0 := 0) (k9 := 1) (v := .ref (a 2)) b (mw_0 cy a (si (sl S 2 1649317774848) 24 (-1))) rfl in_X12 (by decide) wf_X12_17 rfl dX12_after_111 ?_
  refine z_iload_n b dX12_after_114 rfl rfl ?_
  refine y_iald (q0 := 2) (j := 5) (v := (ar (si (sl S 2 1649317774848) 24 (-1)) 1 5)) b (mw_2 cy a (si (sl S 2 1649317774848) 24 (-1))) (by decide) rfl dX12_after_115 ?_
  refine z_eqi h_a_1_5 ?_
  refine z_goto (tgt := 151) b dX12_after_116 (by decide) ?_
  exact z_iret (u := (si (sl S 2 1649317774848) 24 (-1))) b rfl dX12_after_151 ⟨rfl, rfl⟩ rfl (by decide) (by decide)

set_option maxHeartbeats 4000000 in
set_option maxRecDepth 100000 in
theorem c_X11_after_291 {l : Launch} {D : va_G} {cy : Nat → ClassId} {T0 tB tE : Nat} {a : Nat → Nat} {rw : Nat → Option Nat} (S : GS)  (h_i_14 : fi S 14 = (-1)) (h_i_37 : fi S 37 = 0) (h_a_4_16 : ar S 4 16 = 0) (hrw : ∀ i, i < 6 → rw i = some (a (36 + 2 * i))) : Ct l D cy T0 tB tE yX11_after cX11_after 3 (some .int) 3 86 0 0 (cw cy tE a rw S) [.ref (a 0), .int 5, .int 16] (QI D (U := GS) (fun r u => 0 = r ∧ (sa S 8 (va_cpy (ar S 4) (ar S 8) 0 0 51)) = u) (cw cy tE a rw)) := by
  refine Ct.ofZ RX11 "after" [(0, .ref (a 0)), (1, .int 5), (2, .int 16)] rfl rfl rfl rfl (Nat.le_of_ble_eq_true rfl) ?_
  intro p e R s m args below meth c A b
  refine z_iload_n b dX11_after_0 rfl rfl ?_
  refine z_calli b (z_runS (As := [.int 5]) (st := []) b (c_X11_isRow_8 S ) cf_X11_isRow wm_X11_169 ws_X11_isRow dX11_after_1 rfl (Nat.le_of_ble_eq_true rfl) ⟨by decide, by decide, by decide, by decide⟩) (fun r21466 u21467 h21465 => ?_)
  obtain ⟨rfl, rfl⟩ := h21465
  refine z_if_eq_f (tgt := 14) b dX11_after_4 (by decide) (by decide) ?_
  refine z_iload_n b dX11_after_7 rfl rfl ?_
  refine z_calli b (z_runS (As := [.int 16]) (st := []) b (c_X9_has_19 S ) cf_X9_has wm_X11_191 ws_X9_has dX11_after_8 rfl (Nat.le_of_ble_eq_true rfl) ⟨by decide, by decide, by decide, by decide⟩) (fun r21469 u21470 h21468 => ?_)
  obtain ⟨rfl, rfl⟩ := h21468
  refine z_if_ne_t (tgt := 16) b dX11_after_11 (by decide) (by decide) ?_
  refine z_aload_n b dX11_after_16 rfl rfl ?_
  refine z_get (q0 := 0) (k9 := 5) (v := .ref (a 16)) b (cw_0 cy tE a rw S) rfl in_X11 (by decide) wf_X11_43 rfl dX11_after_17 ?_
  refine z_aload_n b dX11_after_20 rfl rfl ?_
  refine z_get (q0 := 0) (k9 := 7) (v := .ref (a 35)) b (cw_0 cy tE a rw S) rfl in_X11 (by decide) wf_X11_58 rfl dX11_after_21 ?_
  refine z_iload_n b dX11_after_24 rfl rfl ?_
  refine y_aald (q0 := 35) (t0 := 4) (j := 5) (v := .ref (a 46)) b (cw_35 cy tE a rw S) rfl (by decide) (by rw [hrw 5 (by decide)]; rfl) dX11_after_25 ?_
  refine z_aload_n b dX11_after_26 rfl rfl ?_
  refine z_get (q0 := 0) (k9 := 4) (v := .ref (a 14)) b (cw_0 cy tE a rw S) rfl in_X11 (by decide) wf_X11_34 rfl dX11_after_27 ?_
  refine z_iconst (v := 3) b dX11_after_30 (by decide) ?_
  refine z_iconst (v := 0) b dX11_after_31 (by decide) ?_
  refine z_calli b (z_runV (q0 := 16) (As := [.ref (a 46), .ref (a 14), .int 3, .int 0]) (st := []) b (c_X2_follow_12 S h_i_14 h_i_37) cf_X2_follow (cw_16 cy tE a rw S) rfl wm_X11_184 wi_X2_follow ws_X2_follow dX11_after_32 rfl (Nat.le_of_ble_eq_true rfl) ⟨by decide, by decide, by decide, by decide⟩) (fun r21472 u21473 h21471 => ?_)
  obtain ⟨rfl, rfl⟩ := h21471
  refine z_pop b dX11_after_35 rfl ?_
  refine z_aload_n b dX11_after_36 rfl rfl ?_
  refine z_get (q0 := 0) (k9 := 5) (v := .ref (a 16)) b (cw_0 cy tE a rw (sa S 8 (va_cpy (ar S 4) (ar S 8) 0 0 51))) rfl in_X11 (by decide) wf_X11_43 rfl dX11_after_37 ?_
  refine z_get (q0 := 16) (k9 := 3) (v := .ref (a 23)) b (cw_16 cy tE a rw (sa S 8 (va_cpy (ar S 4) (ar S 8) 0 0 51))) rfl in_X2 (by decide) wf_X11_194 rfl dX11_after_40 ?_
  refine z_iload_n b dX11_after_43 rfl rfl ?_
  refine z_calli b (z_runV (q0 := 23) (As := [.int 16]) (st := []) b (c_X9_get_17 (sa S 8 (va_cpy (ar S 4) (ar S 8) 0 0 51)) h_a_4_16) cf_X9_get (cw_23 cy tE a rw (sa S 8 (va_cpy (ar S 4) (ar S 8) 0 0 51))) rfl wm_X11_197 wi_X9_get ws_X9_get dX11_after_44 rfl (Nat.le_of_ble_eq_true rfl) ⟨by decide, by decide, by decide, by decide⟩) (fun r21475 u21476 h21474 => ?_)
  obtain ⟨rfl, rfl⟩ := h21474
  exact z_iret (u := (sa S 8 (va_cpy (ar S 4) (ar S 8) 0 0 51))) b rfl dX11_after_47 ⟨rfl, rfl⟩ rfl (by decide) (by decide)

set_option maxHeartbeats 4000000 in
set_option maxRecDepth 100000 in
theorem c_X12_after_291 {l : Launch} {D : va_G} {cy : Nat → ClassId} {T0 tB tE : Nat} {a : Nat → Nat} (S : GS)  (h_l_0 : fl S 0 = 1649317774848) (h_a_38_5 : ar S 38 5 = 0) (h_a_4_7 : ar S 4 7 = 0) (h_a_1_7 : ar S 1 7 = 0) (h_a_4_6 : ar S 4 6 = 0) (h_a_1_6 : ar S 1 6 = 0) (h_a_3_6 : ar S 3 6 = 0) (h_a_3_2 : ar S 3 2 = 0) (h_a_2_2 : ar S 2 2 = 3) (h_a_0_2 : ar S 0 2 = 0) (h_a_4_3 : ar S 4 3 = 0) (h_a_1_3 : ar S 1 3 = 0) (h_a_4_5 : ar S 4 5 = 0) (h_a_1_5 : ar S 1 5 = 0) (h_a_3_5 : ar S 3 5 = 0) (h_a_3_7 : ar S 3 7 = 0) (h_a_2_1 : ar S 2 1 = 3) (h_a_0_1 : ar S 0 1 = 0) (h_a_4_2 : ar S 4 2 = 0) (h_a_1_2 : ar S 1 2 = 0) (h_a_4_1 : ar S 4 1 = 0) (h_a_1_1 : ar S 1 1 = 0) (h_a_3_1 : ar S 3 1 = 0) (h_a_3_3 : ar S 3 3 = 0) (h_a_2_0 : ar S 2 0 = 3) (h_a_0_0 : ar S 0 0 = 0) (h_i_0 : fi S 0 = 0) : Ct l D cy T0 tB tE yX12_after cX12_after 4 (some .int) 2 47 0 0 (mw cy a S) [.ref (a 0), .int 5, .int 16] (QI D (U := GS) (fun r u => 0 = r ∧ (si (sl S 2 1649317774848) 24 (-1)) = u) (mw cy a)) := by
  refine Ct.ofZ RX12 "after" [(0, .ref (a 0)), (1, .int 5), (2, .int 16)] rfl rfl rfl rfl (Nat.le_of_ble_eq_true rfl) ?_
  intro p e R s m args below meth c A b
  refine z_iload_n b dX12_after_0 rfl rfl ?_
  refine z_calli b (z_runS (As := [.int 5]) (st := []) b (c_X12_isRow_8 S ) cf_X12_isRow wm_X12_452 ws_X12_isRow dX12_after_1 rfl (Nat.le_of_ble_eq_true rfl) ⟨by decide, by decide, by decide, by decide⟩) (fun r21478 u21479 h21477 => ?_)
  obtain ⟨rfl, rfl⟩ := h21477
  refine z_if_ne_t (tgt := 9) b dX12_after_4 (by decide) (by decide) ?_
  refine z_aload_n b dX12_after_9 rfl rfl ?_
  refine z_iload_n b dX12_after_10 rfl rfl ?_
  refine z_iconst (v := 3) b dX12_after_11 (by decide) ?_
  refine z_iconst (v := 0) b dX12_after_12 (by decide) ?_
  refine z_calli b (z_runV (q0 := 0) (As := [.int 5, .int 3, .int 0]) (st := []) b (c_X12_goes_12 S h_l_0 h_a_38_5) cf_X12_goes (mw_0 cy a S) rfl wm_X12_464 wi_X12_goes ws_X12_goes dX12_after_13 rfl (Nat.le_of_ble_eq_true rfl) ⟨by decide, by decide, by decide, by decide⟩) (fun r21481 u21482 h21480 => ?_)
  obtain ⟨rfl, rfl⟩ := h21480
  refine z_pop b dX12_after_16 rfl ?_
  refine z_aload_n b dX12_after_17 rfl rfl ?_
  refine z_aload_n b dX12_after_18 rfl rfl ?_
  refine z_get (q0 := 0) (k9 := 68) (v := .long 1649317774848) b (mw_0 cy a (si (sl S 2 1649317774848) 24 (-1))) rfl in_X12 (by decide) wf_X12_458 rfl dX12_after_19 ?_
  refine z_callv b (z_runV (q0 := 0) (As := [.long 1649317774848]) (st := []) b (c_X12_takes (si (sl S 2 1649317774848) 24 (-1)) h_a_4_7 h_a_1_7 h_a_4_6 h_a_1_6 h_a_3_6 h_a_3_2 h_a_2_2 h_a_0_2 h_a_4_3 h_a_1_3 h_a_4_5 h_a_1_5 h_a_3_5 h_a_3_7 h_a_2_1 h_a_0_1 h_a_4_2 h_a_1_2 h_a_4_1 h_a_1_1 h_a_3_1 h_a_3_3 h_a_2_0 h_a_0_0 h_i_0) cf_X12_takes (mw_0 cy a (si (sl S 2 1649317774848) 24 (-1))) rfl wm_X12_174 wi_X12_takes ws_X12_takes dX12_after_22 rfl (Nat.le_of_ble_eq_true rfl) ⟨by decide, by decide, by decide, by decide⟩) (fun u21485 h21483 => ?_)
  obtain rfl := h21483
  refine z_iload_n b dX12_after_25 rfl rfl ?_
  refine z_calli b (z_runS (As := [.int 16]) (st := []) b (c_X12_isOne_21 (si (sl S 2 1649317774848) 24 (-1)) ) cf_X12_isOne wm_X12_170 ws_X12_isOne dX12_after_26 rfl (Nat.le_of_ble_eq_true rfl) ⟨by decide, by decide, by decide, by decide⟩) (fun r21487 u21488 h21486 => ?_)
  obtain ⟨rfl, rfl⟩ := h21486
  refine z_if_eq_t (tgt := 39) b dX12_after_29 (by decide) (by decide) ?_
  refine z_iload_n b dX12_after_39 rfl rfl ?_
  refine z_bipush (v := 50) b dX12_after_40 (by decide) ?_
  refine z_icmp_ne_t (tgt := 50) b dX12_after_42 (by decide) (by decide) ?_
  refine z_iload_n b dX12_after_50 rfl rfl ?_
  refine z_bipush (v := 40) b dX12_after_51 (by decide) ?_
  refine z_bipush (v := 42) b dX12_after_53 (by decide) ?_
  refine z_calli b (z_runS (As := [.int 16, .int 40, .int 42]) (st := []) b (c_X12_isIn_108 (si (sl S 2 1649317774848) 24 (-1)) ) cf_X12_isIn wm_X12_1 ws_X12_isIn dX12_after_55 rfl (Nat.le_of_ble_eq_true rfl) ⟨by decide, by decide, by decide, by decide⟩) (fun r21490 u21491 h21489 => ?_)
  obtain ⟨rfl, rfl⟩ := h21489
  refine z_if_eq_t (tgt := 71) b dX12_after_58 (by decide) (by decide) ?_
  refine z_iload_n b dX12_after_71 rfl rfl ?_
  refine z_bipush (v := 10) b dX12_after_72 (by decide) ?_
  refine z_irem (v := 6) b dX12_after_74 (by decide) (by decide) ?_
  refine z_istore_n (lv' := [(3, .int 6), (0, .ref (a 0)), (1, .int 5), (2, .int 16)]) b dX12_after_75 rfl (by decide) rfl ?_
  refine z_iload_n b dX12_after_76 rfl rfl ?_
  refine z_bipush (v := 10) b dX12_after_77 (by decide) ?_
  refine z_bipush (v := 38) b dX12_after_79 (by decide) ?_
  refine z_calli b (z_runS (As := [.int 16, .int 10, .int 38]) (st := []) b (c_X12_isIn_109 (si (sl S 2 1649317774848) 24 (-1)) ) cf_X12_isIn wm_X12_1 ws_X12_isIn dX12_after_81 rfl (Nat.le_of_ble_eq_true rfl) ⟨by decide, by decide, by decide, by decide⟩) (fun r21493 u21494 h21492 => ?_)
  obtain ⟨rfl, rfl⟩ := h21492
  refine z_if_eq_f (tgt := 102) b dX12_after_84 (by decide) (by decide) ?_
  refine z_iload_n b dX12_after_87 rfl rfl ?_
  refine z_bipush (v := 9) b dX12_after_88 (by decide) ?_
  refine z_icmp_eq_f (tgt := 102) b dX12_after_90 (by decide) (by decide) ?_
  refine z_iload_n b dX12_after_93 rfl rfl ?_
  refine z_iconst (v := 3) b dX12_after_94 (by decide) ?_
  refine z_idiv (v := 2) b dX12_after_95 (by decide) (by decide) ?_
  refine z_iload_n b dX12_after_96 rfl rfl ?_
  refine z_iconst (v := 3) b dX12_after_97 (by decide) ?_
  refine z_irem (v := 0) b dX12_after_98 (by decide) (by decide) ?_
  refine z_icmp_ne_t (tgt := 104) b dX12_after_99 (by decide) (by decide) ?_
  refine z_iload_n b dX12_after_104 rfl rfl ?_
  refine z_bipush (v := 20) b dX12_after_105 (by decide) ?_
  refine z_icmp_ge_f (tgt := 119) b dX12_after_107 (by decide) (by decide) ?_
  refine z_aload_n b dX12_after_110 rfl rfl ?_
  refine z_get (q0 := 0) (k9 := 1) (v := .ref (a 2)) b (mw_0 cy a (si (sl S 2 1649317774848) 24 (-1))) rfl in_X12 (by decide) wf_X12_17 rfl dX12_after_111 ?_
  refine z_iload_n b dX12_after_114 rfl rfl ?_
  refine y_iald (q0 := 2) (j := 6) (v := (ar (si (sl S 2 1649317774848) 24 (-1)) 1 6)) b (mw_2 cy a (si (sl S 2 1649317774848) 24 (-1))) (by decide) rfl dX12_after_115 ?_
  refine z_eqi h_a_1_6 ?_
  refine z_goto (tgt := 151) b dX12_after_116 (by decide) ?_
  exact z_iret (u := (si (sl S 2 1649317774848) 24 (-1))) b rfl dX12_after_151 ⟨rfl, rfl⟩ rfl (by decide) (by decide)

set_option maxHeartbeats 4000000 in
set_option maxRecDepth 100000 in
theorem c_X11_after_292 {l : Launch} {D : va_G} {cy : Nat → ClassId} {T0 tB tE : Nat} {a : Nat → Nat} {rw : Nat → Option Nat} (S : GS)  (h_i_14 : fi S 14 = (-1)) (h_i_37 : fi S 37 = 0) (h_a_4_17 : ar S 4 17 = 0) (hrw : ∀ i, i < 6 → rw i = some (a (36 + 2 * i))) : Ct l D cy T0 tB tE yX11_after cX11_after 3 (some .int) 3 86 0 0 (cw cy tE a rw S) [.ref (a 0), .int 5, .int 17] (QI D (U := GS) (fun r u => 0 = r ∧ (sa S 8 (va_cpy (ar S 4) (ar S 8) 0 0 51)) = u) (cw cy tE a rw)) := by
  refine Ct.ofZ RX11 "after" [(0, .ref (a 0)), (1, .int 5), (2, .int 17)] rfl rfl rfl rfl (Nat.le_of_ble_eq_true rfl) ?_
  intro p e R s m args below meth c A b
  refine z_iload_n b dX11_after_0 rfl rfl ?_
  refine z_calli b (z_runS (As := [.int 5]) (st := []) b (c_X11_isRow_8 S ) cf_X11_isRow wm_X11_169 ws_X11_isRow dX11_after_1 rfl (Nat.le_of_ble_eq_true rfl) ⟨by decide, by decide, by decide, by decide⟩) (fun r21496 u21497 h21495 => ?_)
  obtain ⟨rfl, rfl⟩ := h21495
  refine z_if_eq_f (tgt := 14) b dX11_after_4 (by decide) (by decide) ?_
  refine z_iload_n b dX11_after_7 rfl rfl ?_
  refine z_calli b (z_runS (As := [.int 17]) (st := []) b (c_X9_has_20 S ) cf_X9_has wm_X11_191 ws_X9_has dX11_after_8 rfl (Nat.le_of_ble_eq_true rfl) ⟨by decide, by decide, by decide, by decide⟩) (fun r21499 u21500 h21498 => ?_)
  obtain ⟨rfl, rfl⟩ := h21498
  refine z_if_ne_t (tgt := 16) b dX11_after_11 (by decide) (by decide) ?_
  refine z_aload_n b dX11_after_16 rfl rfl ?_
  refine z_get (q0 := 0) (k9 := 5) (v := .ref (a 16)) b (cw_0 cy tE a rw S) rfl in_X11 (by decide) wf_X11_43 rfl dX11_after_17 ?_
  refine z_aload_n b dX11_after_20 rfl rfl ?_
  refine z_get (q0 := 0) (k9 := 7) (v := .ref (a 35)) b (cw_0 cy tE a rw S) rfl in_X11 (by decide) wf_X11_58 rfl dX11_after_21 ?_
  refine z_iload_n b dX11_after_24 rfl rfl ?_
  refine y_aald (q0 := 35) (t0 := 4) (j := 5) (v := .ref (a 46)) b (cw_35 cy tE a rw S) rfl (by decide) (by rw [hrw 5 (by decide)]; rfl) dX11_after_25 ?_
  refine z_aload_n b dX11_after_26 rfl rfl ?_
  refine z_get (q0 := 0) (k9 := 4) (v := .ref (a 14)) b (cw_0 cy tE a rw S) rfl in_X11 (by decide) wf_X11_34 rfl dX11_after_27 ?_
  refine z_iconst (v := 3) b dX11_after_30 (by decide) ?_
  refine z_iconst (v := 0) b dX11_after_31 (by decide) ?_
  refine z_calli b (z_runV (q0 := 16) (As := [.ref (a 46), .ref (a 14), .int 3, .int 0]) (st := []) b (c_X2_follow_12 S h_i_14 h_i_37) cf_X2_follow (cw_16 cy tE a rw S) rfl wm_X11_184 wi_X2_follow ws_X2_follow dX11_after_32 rfl (Nat.le_of_ble_eq_true rfl) ⟨by decide, by decide, by decide, by decide⟩) (fun r21502 u21503 h21501 => ?_)
  obtain ⟨rfl, rfl⟩ := h21501
  refine z_pop b dX11_after_35 rfl ?_
  refine z_aload_n b dX11_after_36 rfl rfl ?_
  refine z_get (q0 := 0) (k9 := 5) (v := .ref (a 16)) b (cw_0 cy tE a rw (sa S 8 (va_cpy (ar S 4) (ar S 8) 0 0 51))) rfl in_X11 (by decide) wf_X11_43 rfl dX11_after_37 ?_
  refine z_get (q0 := 16) (k9 := 3) (v := .ref (a 23)) b (cw_16 cy tE a rw (sa S 8 (va_cpy (ar S 4) (ar S 8) 0 0 51))) rfl in_X2 (by decide) wf_X11_194 rfl dX11_after_40 ?_
  refine z_iload_n b dX11_after_43 rfl rfl ?_
  refine z_calli b (z_runV (q0 := 23) (As := [.int 17]) (st := []) b (c_X9_get_18 (sa S 8 (va_cpy (ar S 4) (ar S 8) 0 0 51)) h_a_4_17) cf_X9_get (cw_23 cy tE a rw (sa S 8 (va_cpy (ar S 4) (ar S 8) 0 0 51))) rfl wm_X11_197 wi_X9_get ws_X9_get dX11_after_44 rfl (Nat.le_of_ble_eq_true rfl) ⟨by decide, by decide, by decide, by decide⟩) (fun r21505 u21506 h21504 => ?_)
  obtain ⟨rfl, rfl⟩ := h21504
  exact z_iret (u := (sa S 8 (va_cpy (ar S 4) (ar S 8) 0 0 51))) b rfl dX11_after_47 ⟨rfl, rfl⟩ rfl (by decide) (by decide)

set_option maxHeartbeats 4000000 in
set_option maxRecDepth 100000 in
theorem c_X12_after_292 {l : Launch} {D : va_G} {cy : Nat → ClassId} {T0 tB tE : Nat} {a : Nat → Nat} (S : GS)  (h_l_0 : fl S 0 = 1649317774848) (h_a_38_5 : ar S 38 5 = 0) (h_a_4_7 : ar S 4 7 = 0) (h_a_1_7 : ar S 1 7 = 0) (h_a_4_6 : ar S 4 6 = 0) (h_a_1_6 : ar S 1 6 = 0) (h_a_3_6 : ar S 3 6 = 0) (h_a_3_2 : ar S 3 2 = 0) (h_a_2_2 : ar S 2 2 = 3) (h_a_0_2 : ar S 0 2 = 0) (h_a_4_3 : ar S 4 3 = 0) (h_a_1_3 : ar S 1 3 = 0) (h_a_4_5 : ar S 4 5 = 0) (h_a_1_5 : ar S 1 5 = 0) (h_a_3_5 : ar S 3 5 = 0) (h_a_3_7 : ar S 3 7 = 0) (h_a_2_1 : ar S 2 1 = 3) (h_a_0_1 : ar S 0 1 = 0) (h_a_4_2 : ar S 4 2 = 0) (h_a_1_2 : ar S 1 2 = 0) (h_a_4_1 : ar S 4 1 = 0) (h_a_1_1 : ar S 1 1 = 0) (h_a_3_1 : ar S 3 1 = 0) (h_a_3_3 : ar S 3 3 = 0) (h_a_2_0 : ar S 2 0 = 3) (h_a_0_0 : ar S 0 0 = 0) (h_i_0 : fi S 0 = 0) : Ct l D cy T0 tB tE yX12_after cX12_after 4 (some .int) 2 47 0 0 (mw cy a S) [.ref (a 0), .int 5, .int 17] (QI D (U := GS) (fun r u => 0 = r ∧ (si (sl S 2 1649317774848) 24 (-1)) = u) (mw cy a)) := by
  refine Ct.ofZ RX12 "after" [(0, .ref (a 0)), (1, .int 5), (2, .int 17)] rfl rfl rfl rfl (Nat.le_of_ble_eq_true rfl) ?_
  intro p e R s m args below meth c A b
  refine z_iload_n b dX12_after_0 rfl rfl ?_
  refine z_calli b (z_runS (As := [.int 5]) (st := []) b (c_X12_isRow_8 S ) cf_X12_isRow wm_X12_452 ws_X12_isRow dX12_after_1 rfl (Nat.le_of_ble_eq_true rfl) ⟨by decide, by decide, by decide, by decide⟩) (fun r21508 u21509 h21507 => ?_)
  obtain ⟨rfl, rfl⟩ := h21507
  refine z_if_ne_t (tgt := 9) b dX12_after_4 (by decide) (by decide) ?_
  refine z_aload_n b dX12_after_9 rfl rfl ?_
  refine z_iload_n b dX12_after_10 rfl rfl ?_
  refine z_iconst (v := 3) b dX12_after_11 (by decide) ?_
  refine z_iconst (v := 0) b dX12_after_12 (by decide) ?_
  refine z_calli b (z_runV (q0 := 0) (As := [.int 5, .int 3, .int 0]) (st := []) b (c_X12_goes_12 S h_l_0 h_a_38_5) cf_X12_goes (mw_0 cy a S) rfl wm_X12_464 wi_X12_goes ws_X12_goes dX12_after_13 rfl (Nat.le_of_ble_eq_true rfl) ⟨by decide, by decide, by decide, by decide⟩) (fun r21511 u21512 h21510 => ?_)
  obtain ⟨rfl, rfl⟩ := h21510
  refine z_pop b dX12_after_16 rfl ?_
  refine z_aload_n b dX12_after_17 rfl rfl ?_
  refine z_aload_n b dX12_after_18 rfl rfl ?_
  refine z_get (q0 := 0) (k9 := 68) (v := .long 1649317774848) b (mw_0 cy a (si (sl S 2 1649317774848) 24 (-1))) rfl in_X12 (by decide) wf_X12_458 rfl dX12_after_19 ?_
  refine z_callv b (z_runV (q0 := 0) (As := [.long 1649317774848]) (st := []) b (c_X12_takes (si (sl S 2 1649317774848) 24 (-1)) h_a_4_7 h_a_1_7 h_a_4_6 h_a_1_6 h_a_3_6 h_a_3_2 h_a_2_2 h_a_0_2 h_a_4_3 h_a_1_3 h_a_4_5 h_a_1_5 h_a_3_5 h_a_3_7 h_a_2_1 h_a_0_1 h_a_4_2 h_a_1_2 h_a_4_1 h_a_1_1 h_a_3_1 h_a_3_3 h_a_2_0 h_a_0_0 h_i_0) cf_X12_takes (mw_0 cy a (si (sl S 2 1649317774848) 24 (-1))) rfl wm_X12_174 wi_X12_takes ws_X12_takes dX12_after_22 rfl (Nat.le_of_ble_eq_true rfl) ⟨by decide, by decide, by decide, by decide⟩) (fun u21515 h21513 => ?_)
  obtain rfl := h21513
  refine z_iload_n b dX12_after_25 rfl rfl ?_
  refine z_calli b (z_runS (As := [.int 17]) (st := []) b (c_X12_isOne_22 (si (sl S 2 1649317774848) 24 (-1)) ) cf_X12_isOne wm_X12_170 ws_X12_isOne dX12_after_26 rfl (Nat.le_of_ble_eq_true rfl) ⟨by decide, by decide, by decide, by decide⟩) (fun r21517 u21518 h21516 => ?_)
  obtain ⟨rfl, rfl⟩ := h21516
  refine z_if_eq_t (tgt := 39) b dX12_after_29 (by decide) (by decide) ?_
  refine z_iload_n b dX12_after_39 rfl rfl ?_
  refine z_bipush (v := 50) b dX12_after_40 (by decide) ?_
  refine z_icmp_ne_t (tgt := 50) b dX12_after_42 (by decide) (by decide) ?_
  refine z_iload_n b dX12_after_50 rfl rfl ?_
  refine z_bipush (v := 40) b dX12_after_51 (by decide) ?_
  refine z_bipush (v := 42) b dX12_after_53 (by decide) ?_
  refine z_calli b (z_runS (As := [.int 17, .int 40, .int 42]) (st := []) b (c_X12_isIn_111 (si (sl S 2 1649317774848) 24 (-1)) ) cf_X12_isIn wm_X12_1 ws_X12_isIn dX12_after_55 rfl (Nat.le_of_ble_eq_true rfl) ⟨by decide, by decide, by decide, by decide⟩) (fun r21520 u21521 h21519 => ?_)
  obtain ⟨rfl, rfl⟩ := h21519
  refine z_if_eq_t (tgt := 71) b dX12_after_58 (by decide) (by decide) ?_
  refine z_iload_n b dX12_after_71 rfl rfl ?_
  refine z_bipush (v := 10) b dX12_after_72 (by decide) ?_
  refine z_irem (v := 7) b dX12_after_74 (by decide) (by decide) ?_
  refine z_istore_n (lv' := [(3, .int 7), (0, .ref (a 0)), (1, .int 5), (2, .int 17)]) b dX12_after_75 rfl (by decide) rfl ?_
  refine z_iload_n b dX12_after_76 rfl rfl ?_
  refine z_bipush (v := 10) b dX12_after_77 (by decide) ?_
  refine z_bipush (v := 38) b dX12_after_79 (by decide) ?_
  refine z_calli b (z_runS (As := [.int 17, .int 10, .int 38]) (st := []) b (c_X12_isIn_112 (si (sl S 2 1649317774848) 24 (-1)) ) cf_X12_isIn wm_X12_1 ws_X12_isIn dX12_after_81 rfl (Nat.le_of_ble_eq_true rfl) ⟨by decide, by decide, by decide, by decide⟩) (fun r21523 u21524 h21522 => ?_)
  obtain ⟨rfl, rfl⟩ := h21522
  refine z_if_eq_f (tgt := 102) b dX12_after_84 (by decide) (by decide) ?_
  refine z_iload_n b dX12_after_87 rfl rfl ?_
  refine z_bipush (v := 9) b dX12_after_88 (by decide) ?_
  refine z_icmp_eq_f (tgt := 102) b dX12_after_90 (by decide) (by decide) ?_
  refine z_iload_n b dX12_after_93 rfl rfl ?_
  refine z_iconst (v := 3) b dX12_after_94 (by decide) ?_
  refine z_idiv (v := 2) b dX12_after_95 (by decide) (by decide) ?_
  refine z_iload_n b dX12_after_96 rfl rfl ?_
  refine z_iconst (v := 3) b dX12_after_97 (by decide) ?_
  refine z_irem (v := 1) b dX12_after_98 (by decide) (by decide) ?_
  refine z_icmp_ne_t (tgt := 104) b dX12_after_99 (by decide) (by decide) ?_
  refine z_iload_n b dX12_after_104 rfl rfl ?_
  refine z_bipush (v := 20) b dX12_after_105 (by decide) ?_
  refine z_icmp_ge_f (tgt := 119) b dX12_after_107 (by decide) (by decide) ?_
  refine z_aload_n b dX12_after_110 rfl rfl ?_
  refine z_get (q0 := 0) (k9 := 1) (v := .ref (a 2)) b (mw_0 cy a (si (sl S 2 1649317774848) 24 (-1))) rfl in_X12 (by decide) wf_X12_17 rfl dX12_after_111 ?_
  refine z_iload_n b dX12_after_114 rfl rfl ?_
  refine y_iald (q0 := 2) (j := 7) (v := (ar (si (sl S 2 1649317774848) 24 (-1)) 1 7)) b (mw_2 cy a (si (sl S 2 1649317774848) 24 (-1))) (by decide) rfl dX12_after_115 ?_
  refine z_eqi h_a_1_7 ?_
  refine z_goto (tgt := 151) b dX12_after_116 (by decide) ?_
  exact z_iret (u := (si (sl S 2 1649317774848) 24 (-1))) b rfl dX12_after_151 ⟨rfl, rfl⟩ rfl (by decide) (by decide)

set_option maxHeartbeats 4000000 in
set_option maxRecDepth 100000 in
theorem c_X11_after_293 {l : Launch} {D : va_G} {cy : Nat → ClassId} {T0 tB tE : Nat} {a : Nat → Nat} {rw : Nat → Option Nat} (S : GS)   : Ct l D cy T0 tB tE yX11_after cX11_after 3 (some .int) 3 62 0 0 (cw cy tE a rw S) [.ref (a 0), .int 5, .int 18] (QI D (U := GS) (fun r u => (-1) = r ∧ S = u) (cw cy tE a rw)) := by
  refine Ct.ofZ RX11 "after" [(0, .ref (a 0)), (1, .int 5), (2, .int 18)] rfl rfl rfl rfl (Nat.le_of_ble_eq_true rfl) ?_
  intro p e R s m args below meth c A b
  refine z_iload_n b dX11_after_0 rfl rfl ?_
  refine z_calli b (z_runS (As := [.int 5]) (st := []) b (c_X11_isRow_8 S ) cf_X11_isRow wm_X11_169 ws_X11_isRow dX11_after_1 rfl (Nat.le_of_ble_eq_true rfl) ⟨by decide, by decide, by decide, by decide⟩) (fun r21526 u21527 h21525 => ?_)
  obtain ⟨rfl, rfl⟩ := h21525
  refine z_if_eq_f (tgt := 14) b dX11_after_4 (by decide) (by decide) ?_
  refine z_iload_n b dX11_after_7 rfl rfl ?_
  refine z_calli b (z_runS (As := [.int 18]) (st := []) b (c_X9_has_21 S ) cf_X9_has wm_X11_191 ws_X9_has dX11_after_8 rfl (Nat.le_of_ble_eq_true rfl) ⟨by decide, by decide, by decide, by decide⟩) (fun r21529 u21530 h21528 => ?_)
  obtain ⟨rfl, rfl⟩ := h21528
  refine z_if_ne_f (tgt := 16) b dX11_after_11 (by decide) (by decide) ?_
  refine z_iconst (v := (-1)) b dX11_after_14 (by decide) ?_
  exact z_iret (u := S) b rfl dX11_after_15 ⟨rfl, rfl⟩ rfl (by decide) (by decide)

set_option maxHeartbeats 4000000 in
set_option maxRecDepth 100000 in
theorem c_X12_after_293 {l : Launch} {D : va_G} {cy : Nat → ClassId} {T0 tB tE : Nat} {a : Nat → Nat} (S : GS)  (h_l_0 : fl S 0 = 1649317774848) (h_a_38_5 : ar S 38 5 = 0) (h_a_4_7 : ar S 4 7 = 0) (h_a_1_7 : ar S 1 7 = 0) (h_a_4_6 : ar S 4 6 = 0) (h_a_1_6 : ar S 1 6 = 0) (h_a_3_6 : ar S 3 6 = 0) (h_a_3_2 : ar S 3 2 = 0) (h_a_2_2 : ar S 2 2 = 3) (h_a_0_2 : ar S 0 2 = 0) (h_a_4_3 : ar S 4 3 = 0) (h_a_1_3 : ar S 1 3 = 0) (h_a_4_5 : ar S 4 5 = 0) (h_a_1_5 : ar S 1 5 = 0) (h_a_3_5 : ar S 3 5 = 0) (h_a_3_7 : ar S 3 7 = 0) (h_a_2_1 : ar S 2 1 = 3) (h_a_0_1 : ar S 0 1 = 0) (h_a_4_2 : ar S 4 2 = 0) (h_a_1_2 : ar S 1 2 = 0) (h_a_4_1 : ar S 4 1 = 0) (h_a_1_1 : ar S 1 1 = 0) (h_a_3_1 : ar S 3 1 = 0) (h_a_3_3 : ar S 3 3 = 0) (h_a_2_0 : ar S 2 0 = 3) (h_a_0_0 : ar S 0 0 = 0) (h_i_0 : fi S 0 = 0) : Ct l D cy T0 tB tE yX12_after cX12_after 4 (some .int) 2 47 0 0 (mw cy a S) [.ref (a 0), .int 5, .int 18] (QI D (U := GS) (fun r u => (-1) = r ∧ (si (sl S 2 1649317774848) 24 (-1)) = u) (mw cy a)) := by
  refine Ct.ofZ RX12 "after" [(0, .ref (a 0)), (1, .int 5), (2, .int 18)] rfl rfl rfl rfl (Nat.le_of_ble_eq_true rfl) ?_
  intro p e R s m args below meth c A b
  refine z_iload_n b dX12_after_0 rfl rfl ?_
  refine z_calli b (z_runS (As := [.int 5]) (st := []) b (c_X12_isRow_8 S ) cf_X12_isRow wm_X12_452 ws_X12_isRow dX12_after_1 rfl (Nat.le_of_ble_eq_true rfl) ⟨by decide, by decide, by decide, by decide⟩) (fun r21532 u21533 h21531 => ?_)
  obtain ⟨rfl, rfl⟩ := h21531
  refine z_if_ne_t (tgt := 9) b dX12_after_4 (by decide) (by decide) ?_
  refine z_aload_n b dX12_after_9 rfl rfl ?_
  refine z_iload_n b dX12_after_10 rfl rfl ?_
  refine z_iconst (v := 3) b dX12_after_11 (by decide) ?_
  refine z_iconst (v := 0) b dX12_after_12 (by decide) ?_
  refine z_calli b (z_runV (q0 := 0) (As := [.int 5, .int 3, .int 0]) (st := []) b (c_X12_goes_12 S h_l_0 h_a_38_5) cf_X12_goes (mw_0 cy a S) rfl wm_X12_464 wi_X12_goes ws_X12_goes dX12_after_13 rfl (Nat.le_of_ble_eq_true rfl) ⟨by decide, by decide, by decide, by decide⟩) (fun r21535 u21536 h21534 => ?_)
  obtain ⟨rfl, rfl⟩ := h21534
  refine z_pop b dX12_after_16 rfl ?_
  refine z_aload_n b dX12_after_17 rfl rfl ?_
  refine z_aload_n b dX12_after_18 rfl rfl ?_
  refine z_get (q0 := 0) (k9 := 68) (v := .long 1649317774848) b (mw_0 cy a (si (sl S 2 1649317774848) 24 (-1))) rfl in_X12 (by decide) wf_X12_458 rfl dX12_after_19 ?_
  refine z_callv b (z_runV (q0 := 0) (As := [.long 1649317774848]) (st := []) b (c_X12_takes (si (sl S 2 1649317774848) 24 (-1)) h_a_4_7 h_a_1_7 h_a_4_6 h_a_1_6 h_a_3_6 h_a_3_2 h_a_2_2 h_a_0_2 h_a_4_3 h_a_1_3 h_a_4_5 h_a_1_5 h_a_3_5 h_a_3_7 h_a_2_1 h_a_0_1 h_a_4_2 h_a_1_2 h_a_4_1 h_a_1_1 h_a_3_1 h_a_3_3 h_a_2_0 h_a_0_0 h_i_0) cf_X12_takes (mw_0 cy a (si (sl S 2 1649317774848) 24 (-1))) rfl wm_X12_174 wi_X12_takes ws_X12_takes dX12_after_22 rfl (Nat.le_of_ble_eq_true rfl) ⟨by decide, by decide, by decide, by decide⟩) (fun u21539 h21537 => ?_)
  obtain rfl := h21537
  refine z_iload_n b dX12_after_25 rfl rfl ?_
  refine z_calli b (z_runS (As := [.int 18]) (st := []) b (c_X12_isOne_23 (si (sl S 2 1649317774848) 24 (-1)) ) cf_X12_isOne wm_X12_170 ws_X12_isOne dX12_after_26 rfl (Nat.le_of_ble_eq_true rfl) ⟨by decide, by decide, by decide, by decide⟩) (fun r21541 u21542 h21540 => ?_)
  obtain ⟨rfl, rfl⟩ := h21540
  refine z_if_eq_t (tgt := 39) b dX12_after_29 (by decide) (by decide) ?_
  refine z_iload_n b dX12_after_39 rfl rfl ?_
  refine z_bipush (v := 50) b dX12_after_40 (by decide) ?_
  refine z_icmp_ne_t (tgt := 50) b dX12_after_42 (by decide) (by decide) ?_
  refine z_iload_n b dX12_after_50 rfl rfl ?_
  refine z_bipush (v := 40) b dX12_after_51 (by decide) ?_
  refine z_bipush (v := 42) b dX12_after_53 (by decide) ?_
  refine z_calli b (z_runS (As := [.int 18, .int 40, .int 42]) (st := []) b (c_X12_isIn_114 (si (sl S 2 1649317774848) 24 (-1)) ) cf_X12_isIn wm_X12_1 ws_X12_isIn dX12_after_55 rfl (Nat.le_of_ble_eq_true rfl) ⟨by decide, by decide, by decide, by decide⟩) (fun r21544 u21545 h21543 => ?_)
  obtain ⟨rfl, rfl⟩ := h21543
  refine z_if_eq_t (tgt := 71) b dX12_after_58 (by decide) (by decide) ?_
  refine z_iload_n b dX12_after_71 rfl rfl ?_
  refine z_bipush (v := 10) b dX12_after_72 (by decide) ?_
  refine z_irem (v := 8) b dX12_after_74 (by decide) (by decide) ?_
  refine z_istore_n (lv' := [(3, .int 8), (0, .ref (a 0)), (1, .int 5), (2, .int 18)]) b dX12_after_75 rfl (by decide) rfl ?_
  refine z_iload_n b dX12_after_76 rfl rfl ?_
  refine z_bipush (v := 10) b dX12_after_77 (by decide) ?_
  refine z_bipush (v := 38) b dX12_after_79 (by decide) ?_
  refine z_calli b (z_runS (As := [.int 18, .int 10, .int 38]) (st := []) b (c_X12_isIn_115 (si (sl S 2 1649317774848) 24 (-1)) ) cf_X12_isIn wm_X12_1 ws_X12_isIn dX12_after_81 rfl (Nat.le_of_ble_eq_true rfl) ⟨by decide, by decide, by decide, by decide⟩) (fun r21547 u21548 h21546 => ?_)
  obtain ⟨rfl, rfl⟩ := h21546
  refine z_if_eq_f (tgt := 102) b dX12_after_84 (by decide) (by decide) ?_
  refine z_iload_n b dX12_after_87 rfl rfl ?_
  refine z_bipush (v := 9) b dX12_after_88 (by decide) ?_
  refine z_icmp_eq_f (tgt := 102) b dX12_after_90 (by decide) (by decide) ?_
  refine z_iload_n b dX12_after_93 rfl rfl ?_
  refine z_iconst (v := 3) b dX12_after_94 (by decide) ?_
  refine z_idiv (v := 2) b dX12_after_95 (by decide) (by decide) ?_
  refine z_iload_n b dX12_after_96 rfl rfl ?_
  refine z_iconst (v := 3) b dX12_after_97 (by decide) ?_
  refine z_irem (v := 2) b dX12_after_98 (by decide) (by decide) ?_
  refine z_icmp_ne_f (tgt := 104) b dX12_after_99 (by decide) (by decide) ?_
  refine z_iconst (v := (-1)) b dX12_after_102 (by decide) ?_
  exact z_iret (u := (si (sl S 2 1649317774848) 24 (-1))) b rfl dX12_after_103 ⟨rfl, rfl⟩ rfl (by decide) (by decide)

set_option maxHeartbeats 4000000 in
set_option maxRecDepth 100000 in
theorem c_X11_after_294 {l : Launch} {D : va_G} {cy : Nat → ClassId} {T0 tB tE : Nat} {a : Nat → Nat} {rw : Nat → Option Nat} (S : GS)   : Ct l D cy T0 tB tE yX11_after cX11_after 3 (some .int) 3 62 0 0 (cw cy tE a rw S) [.ref (a 0), .int 5, .int 19] (QI D (U := GS) (fun r u => (-1) = r ∧ S = u) (cw cy tE a rw)) := by
  refine Ct.ofZ RX11 "after" [(0, .ref (a 0)), (1, .int 5), (2, .int 19)] rfl rfl rfl rfl (Nat.le_of_ble_eq_true rfl) ?_
  intro p e R s m args below meth c A b
  refine z_iload_n b dX11_after_0 rfl rfl ?_
  refine z_calli b (z_runS (As := [.int 5]) (st := []) b (c_X11_isRow_8 S ) cf_X11_isRow wm_X11_169 ws_X11_isRow dX11_after_1 rfl (Nat.le_of_ble_eq_true rfl) ⟨by decide, by decide, by decide, by decide⟩) (fun r21550 u21551 h21549 => ?_)
  obtain ⟨rfl, rfl⟩ := h21549
  refine z_if_eq_f (tgt := 14) b dX11_after_4 (by decide) (by decide) ?_
  refine z_iload_n b dX11_after_7 rfl rfl ?_
  refine z_calli b (z_runS (As := [.int 19]) (st := []) b (c_X9_has_22 S ) cf_X9_has wm_X11_191 ws_X9_has dX11_after_8 rfl (Nat.le_of_ble_eq_true rfl) ⟨by decide, by decide, by decide, by decide⟩) (fun r21553 u21554 h21552 => ?_)
  obtain ⟨rfl, rfl⟩ := h21552
  refine z_if_ne_f (tgt := 16) b dX11_after_11 (by decide) (by decide) ?_
  refine z_iconst (v := (-1)) b dX11_after_14 (by decide) ?_
  exact z_iret (u := S) b rfl dX11_after_15 ⟨rfl, rfl⟩ rfl (by decide) (by decide)

set_option maxHeartbeats 4000000 in
set_option maxRecDepth 100000 in
theorem c_X12_after_294 {l : Launch} {D : va_G} {cy : Nat → ClassId} {T0 tB tE : Nat} {a : Nat → Nat} (S : GS)  (h_l_0 : fl S 0 = 1649317774848) (h_a_38_5 : ar S 38 5 = 0) (h_a_4_7 : ar S 4 7 = 0) (h_a_1_7 : ar S 1 7 = 0) (h_a_4_6 : ar S 4 6 = 0) (h_a_1_6 : ar S 1 6 = 0) (h_a_3_6 : ar S 3 6 = 0) (h_a_3_2 : ar S 3 2 = 0) (h_a_2_2 : ar S 2 2 = 3) (h_a_0_2 : ar S 0 2 = 0) (h_a_4_3 : ar S 4 3 = 0) (h_a_1_3 : ar S 1 3 = 0) (h_a_4_5 : ar S 4 5 = 0) (h_a_1_5 : ar S 1 5 = 0) (h_a_3_5 : ar S 3 5 = 0) (h_a_3_7 : ar S 3 7 = 0) (h_a_2_1 : ar S 2 1 = 3) (h_a_0_1 : ar S 0 1 = 0) (h_a_4_2 : ar S 4 2 = 0) (h_a_1_2 : ar S 1 2 = 0) (h_a_4_1 : ar S 4 1 = 0) (h_a_1_1 : ar S 1 1 = 0) (h_a_3_1 : ar S 3 1 = 0) (h_a_3_3 : ar S 3 3 = 0) (h_a_2_0 : ar S 2 0 = 3) (h_a_0_0 : ar S 0 0 = 0) (h_i_0 : fi S 0 = 0) : Ct l D cy T0 tB tE yX12_after cX12_after 4 (some .int) 2 47 0 0 (mw cy a S) [.ref (a 0), .int 5, .int 19] (QI D (U := GS) (fun r u => (-1) = r ∧ (si (sl S 2 1649317774848) 24 (-1)) = u) (mw cy a)) := by
  refine Ct.ofZ RX12 "after" [(0, .ref (a 0)), (1, .int 5), (2, .int 19)] rfl rfl rfl rfl (Nat.le_of_ble_eq_true rfl) ?_
  intro p e R s m args below meth c A b
  refine z_iload_n b dX12_after_0 rfl rfl ?_
  refine z_calli b (z_runS (As := [.int 5]) (st := []) b (c_X12_isRow_8 S ) cf_X12_isRow wm_X12_452 ws_X12_isRow dX12_after_1 rfl (Nat.le_of_ble_eq_true rfl) ⟨by decide, by decide, by decide, by decide⟩) (fun r21556 u21557 h21555 => ?_)
  obtain ⟨rfl, rfl⟩ := h21555
  refine z_if_ne_t (tgt := 9) b dX12_after_4 (by decide) (by decide) ?_
  refine z_aload_n b dX12_after_9 rfl rfl ?_
  refine z_iload_n b dX12_after_10 rfl rfl ?_
  refine z_iconst (v := 3) b dX12_after_11 (by decide) ?_
  refine z_iconst (v := 0) b dX12_after_12 (by decide) ?_
  refine z_calli b (z_runV (q0 := 0) (As := [.int 5, .int 3, .int 0]) (st := []) b (c_X12_goes_12 S h_l_0 h_a_38_5) cf_X12_goes (mw_0 cy a S) rfl wm_X12_464 wi_X12_goes ws_X12_goes dX12_after_13 rfl (Nat.le_of_ble_eq_true rfl) ⟨by decide, by decide, by decide, by decide⟩) (fun r21559 u21560 h21558 => ?_)
  obtain ⟨rfl, rfl⟩ := h21558
  refine z_pop b dX12_after_16 rfl ?_
  refine z_aload_n b dX12_after_17 rfl rfl ?_
  refine z_aload_n b dX12_after_18 rfl rfl ?_
  refine z_get (q0 := 0) (k9 := 68) (v := .long 1649317774848) b (mw_0 cy a (si (sl S 2 1649317774848) 24 (-1))) rfl in_X12 (by decide) wf_X12_458 rfl dX12_after_19 ?_
  refine z_callv b (z_runV (q0 := 0) (As := [.long 1649317774848]) (st := []) b (c_X12_takes (si (sl S 2 1649317774848) 24 (-1)) h_a_4_7 h_a_1_7 h_a_4_6 h_a_1_6 h_a_3_6 h_a_3_2 h_a_2_2 h_a_0_2 h_a_4_3 h_a_1_3 h_a_4_5 h_a_1_5 h_a_3_5 h_a_3_7 h_a_2_1 h_a_0_1 h_a_4_2 h_a_1_2 h_a_4_1 h_a_1_1 h_a_3_1 h_a_3_3 h_a_2_0 h_a_0_0 h_i_0) cf_X12_takes (mw_0 cy a (si (sl S 2 1649317774848) 24 (-1))) rfl wm_X12_174 wi_X12_takes ws_X12_takes dX12_after_22 rfl (Nat.le_of_ble_eq_true rfl) ⟨by decide, by decide, by decide, by decide⟩) (fun u21563 h21561 => ?_)
  obtain rfl := h21561
  refine z_iload_n b dX12_after_25 rfl rfl ?_
  refine z_calli b (z_runS (As := [.int 19]) (st := []) b (c_X12_isOne_24 (si (sl S 2 1649317774848) 24 (-1)) ) cf_X12_isOne wm_X12_170 ws_X12_isOne dX12_after_26 rfl (Nat.le_of_ble_eq_true rfl) ⟨by decide, by decide, by decide, by decide⟩) (fun r21565 u21566 h21564 => ?_)
  obtain ⟨rfl, rfl⟩ := h21564
  refine z_if_eq_t (tgt := 39) b dX12_after_29 (by decide) (by decide) ?_
  refine z_iload_n b dX12_after_39 rfl rfl ?_
  refine z_bipush (v := 50) b dX12_after_40 (by decide) ?_
  refine z_icmp_ne_t (tgt := 50) b dX12_after_42 (by decide) (by decide) ?_
  refine z_iload_n b dX12_after_50 rfl rfl ?_
  refine z_bipush (v := 40) b dX12_after_51 (by decide) ?_
  refine z_bipush (v := 42) b dX12_after_53 (by decide) ?_
  refine z_calli b (z_runS (As := [.int 19, .int 40, .int 42]) (st := []) b (c_X12_isIn_117 (si (sl S 2 1649317774848) 24 (-1)) ) cf_X12_isIn wm_X12_1 ws_X12_isIn dX12_after_55 rfl (Nat.le_of_ble_eq_true rfl) ⟨by decide, by decide, by decide, by decide⟩) (fun r21568 u21569 h21567 => ?_)
  obtain ⟨rfl, rfl⟩ := h21567
  refine z_if_eq_t (tgt := 71) b dX12_after_58 (by decide) (by decide) ?_
  refine z_iload_n b dX12_after_71 rfl rfl ?_
  refine z_bipush (v := 10) b dX12_after_72 (by decide) ?_
  refine z_irem (v := 9) b dX12_after_74 (by decide) (by decide) ?_
  refine z_istore_n (lv' := [(3, .int 9), (0, .ref (a 0)), (1, .int 5), (2, .int 19)]) b dX12_after_75 rfl (by decide) rfl ?_
  refine z_iload_n b dX12_after_76 rfl rfl ?_
  refine z_bipush (v := 10) b dX12_after_77 (by decide) ?_
  refine z_bipush (v := 38) b dX12_after_79 (by decide) ?_
  refine z_calli b (z_runS (As := [.int 19, .int 10, .int 38]) (st := []) b (c_X12_isIn_118 (si (sl S 2 1649317774848) 24 (-1)) ) cf_X12_isIn wm_X12_1 ws_X12_isIn dX12_after_81 rfl (Nat.le_of_ble_eq_true rfl) ⟨by decide, by decide, by decide, by decide⟩) (fun r21571 u21572 h21570 => ?_)
  obtain ⟨rfl, rfl⟩ := h21570
  refine z_if_eq_f (tgt := 102) b dX12_after_84 (by decide) (by decide) ?_
  refine z_iload_n b dX12_after_87 rfl rfl ?_
  refine z_bipush (v := 9) b dX12_after_88 (by decide) ?_
  refine z_icmp_eq_t (tgt := 102) b dX12_after_90 (by decide) (by decide) ?_
  refine z_iconst (v := (-1)) b dX12_after_102 (by decide) ?_
  exact z_iret (u := (si (sl S 2 1649317774848) 24 (-1))) b rfl dX12_after_103 ⟨rfl, rfl⟩ rfl (by decide) (by decide)

set_option maxHeartbeats 4000000 in
set_option maxRecDepth 100000 in
theorem c_X11_after_295 {l : Launch} {D : va_G} {cy : Nat → ClassId} {T0 tB tE : Nat} {a : Nat → Nat} {rw : Nat → Option Nat} (S : GS)   : Ct l D cy T0 tB tE yX11_after cX11_after 3 (some .int) 3 62 0 0 (cw cy tE a rw S) [.ref (a 0), .int 5, .int 20] (QI D (U := GS) (fun r u => (-1) = r ∧ S = u) (cw cy tE a rw)) := by
  refine Ct.ofZ RX11 "after" [(0, .ref (a 0)), (1, .int 5), (2, .int 20)] rfl rfl rfl rfl (Nat.le_of_ble_eq_true rfl) ?_
  intro p e R s m args below meth c A b
  refine z_iload_n b dX11_after_0 rfl rfl ?_
  refine z_calli b (z_runS (As := [.int 5]) (st := []) b (c_X11_isRow_8 S ) cf_X11_isRow wm_X11_169 ws_X11_isRow dX11_after_1 rfl (Nat.le_of_ble_eq_true rfl) ⟨by decide, by decide, by decide, by decide⟩) (fun r21574 u21575 h21573 => ?_)
  obtain ⟨rfl, rfl⟩ := h21573
  refine z_if_eq_f (tgt := 14) b dX11_after_4 (by decide) (by decide) ?_
  refine z_iload_n b dX11_after_7 rfl rfl ?_
  refine z_calli b (z_runS (As := [.int 20]) (st := []) b (c_X9_has_23 S ) cf_X9_has wm_X11_191 ws_X9_has dX11_after_8 rfl (Nat.le_of_ble_eq_true rfl) ⟨by decide, by decide, by decide, by decide⟩) (fun r21577 u21578 h21576 => ?_)
  obtain ⟨rfl, rfl⟩ := h21576
  refine z_if_ne_f (tgt := 16) b dX11_after_11 (by decide) (by decide) ?_
  refine z_iconst (v := (-1)) b dX11_after_14 (by decide) ?_
  exact z_iret (u := S) b rfl dX11_after_15 ⟨rfl, rfl⟩ rfl (by decide) (by decide)

set_option maxHeartbeats 4000000 in
set_option maxRecDepth 100000 in
theorem c_X12_after_295 {l : Launch} {D : va_G} {cy : Nat → ClassId} {T0 tB tE : Nat} {a : Nat → Nat} (S : GS)  (h_l_0 : fl S 0 = 1649317774848) (h_a_38_5 : ar S 38 5 = 0) (h_a_4_7 : ar S 4 7 = 0) (h_a_1_7 : ar S 1 7 = 0) (h_a_4_6 : ar S 4 6 = 0) (h_a_1_6 : ar S 1 6 = 0) (h_a_3_6 : ar S 3 6 = 0) (h_a_3_2 : ar S 3 2 = 0) (h_a_2_2 : ar S 2 2 = 3) (h_a_0_2 : ar S 0 2 = 0) (h_a_4_3 : ar S 4 3 = 0) (h_a_1_3 : ar S 1 3 = 0) (h_a_4_5 : ar S 4 5 = 0) (h_a_1_5 : ar S 1 5 = 0) (h_a_3_5 : ar S 3 5 = 0) (h_a_3_7 : ar S 3 7 = 0) (h_a_2_1 : ar S 2 1 = 3) (h_a_0_1 : ar S 0 1 = 0) (h_a_4_2 : ar S 4 2 = 0) (h_a_1_2 : ar S 1 2 = 0) (h_a_4_1 : ar S 4 1 = 0) (h_a_1_1 : ar S 1 1 = 0) (h_a_3_1 : ar S 3 1 = 0) (h_a_3_3 : ar S 3 3 = 0) (h_a_2_0 : ar S 2 0 = 3) (h_a_0_0 : ar S 0 0 = 0) (h_i_0 : fi S 0 = 0) : Ct l D cy T0 tB tE yX12_after cX12_after 4 (some .int) 2 47 0 0 (mw cy a S) [.ref (a 0), .int 5, .int 20] (QI D (U := GS) (fun r u => (-1) = r ∧ (si (sl S 2 1649317774848) 24 (-1)) = u) (mw cy a)) := by
  refine Ct.ofZ RX12 "after" [(0, .ref (a 0)), (1, .int 5), (2, .int 20)] rfl rfl rfl rfl (Nat.le_of_ble_eq_true rfl) ?_
  intro p e R s m args below meth c A b
  refine z_iload_n b dX12_after_0 rfl rfl ?_
  refine z_calli b (z_runS (As := [.int 5]) (st := []) b (c_X12_isRow_8 S ) cf_X12_isRow wm_X12_452 ws_X12_isRow dX12_after_1 rfl (Nat.le_of_ble_eq_true rfl) ⟨by decide, by decide, by decide, by decide⟩) (fun r21580 u21581 h21579 => ?_)
  obtain ⟨rfl, rfl⟩ := h21579
  refine z_if_ne_t (tgt := 9) b dX12_after_4 (by decide) (by decide) ?_
  refine z_aload_n b dX12_after_9 rfl rfl ?_
  refine z_iload_n b dX12_after_10 rfl rfl ?_
  refine z_iconst (v := 3) b dX12_after_11 (by decide) ?_
  refine z_iconst (v := 0) b dX12_after_12 (by decide) ?_
  refine z_calli b (z_runV (q0 := 0) (As := [.int 5, .int 3, .int 0]) (st := []) b (c_X12_goes_12 S h_l_0 h_a_38_5) cf_X12_goes (mw_0 cy a S) rfl wm_X12_464 wi_X12_goes ws_X12_goes dX12_after_13 rfl (Nat.le_of_ble_eq_true rfl) ⟨by decide, by decide, by decide, by decide⟩) (fun r21583 u21584 h21582 => ?_)
  obtain ⟨rfl, rfl⟩ := h21582
  refine z_pop b dX12_after_16 rfl ?_
  refine z_aload_n b dX12_after_17 rfl rfl ?_
  refine z_aload_n b dX12_after_18 rfl rfl ?_
  refine z_get (q0 := 0) (k9 := 68) (v := .long 1649317774848) b (mw_0 cy a (si (sl S 2 1649317774848) 24 (-1))) rfl in_X12 (by decide) wf_X12_458 rfl dX12_after_19 ?_
  refine z_callv b (z_runV (q0 := 0) (As := [.long 1649317774848]) (st := []) b (c_X12_takes (si (sl S 2 1649317774848) 24 (-1)) h_a_4_7 h_a_1_7 h_a_4_6 h_a_1_6 h_a_3_6 h_a_3_2 h_a_2_2 h_a_0_2 h_a_4_3 h_a_1_3 h_a_4_5 h_a_1_5 h_a_3_5 h_a_3_7 h_a_2_1 h_a_0_1 h_a_4_2 h_a_1_2 h_a_4_1 h_a_1_1 h_a_3_1 h_a_3_3 h_a_2_0 h_a_0_0 h_i_0) cf_X12_takes (mw_0 cy a (si (sl S 2 1649317774848) 24 (-1))) rfl wm_X12_174 wi_X12_takes ws_X12_takes dX12_after_22 rfl (Nat.le_of_ble_eq_true rfl) ⟨by decide, by decide, by decide, by decide⟩) (fun u21587 h21585 => ?_)
  obtain rfl := h21585
  refine z_iload_n b dX12_after_25 rfl rfl ?_
  refine z_calli b (z_runS (As := [.int 20]) (st := []) b (c_X12_isOne_25 (si (sl S 2 1649317774848) 24 (-1)) ) cf_X12_isOne wm_X12_170 ws_X12_isOne dX12_after_26 rfl (Nat.le_of_ble_eq_true rfl) ⟨by decide, by decide, by decide, by decide⟩) (fun r21589 u21590 h21588 => ?_)
  obtain ⟨rfl, rfl⟩ := h21588
  refine z_if_eq_t (tgt := 39) b dX12_after_29 (by decide) (by decide) ?_
  refine z_iload_n b dX12_after_39 rfl rfl ?_
  refine z_bipush (v := 50) b dX12_after_40 (by decide) ?_
  refine z_icmp_ne_t (tgt := 50) b dX12_after_42 (by decide) (by decide) ?_
  refine z_iload_n b dX12_after_50 rfl rfl ?_
  refine z_bipush (v := 40) b dX12_after_51 (by decide) ?_
  refine z_bipush (v := 42) b dX12_after_53 (by decide) ?_
  refine z_calli b (z_runS (As := [.int 20, .int 40, .int 42]) (st := []) b (c_X12_isIn_120 (si (sl S 2 1649317774848) 24 (-1)) ) cf_X12_isIn wm_X12_1 ws_X12_isIn dX12_after_55 rfl (Nat.le_of_ble_eq_true rfl) ⟨by decide, by decide, by decide, by decide⟩) (fun r21592 u21593 h21591 => ?_)
  obtain ⟨rfl, rfl⟩ := h21591
  refine z_if_eq_t (tgt := 71) b dX12_after_58 (by decide) (by decide) ?_
  refine z_iload_n b dX12_after_71 rfl rfl ?_
  refine z_bipush (v := 10) b dX12_after_72 (by decide) ?_
  refine z_irem (v := 0) b dX12_after_74 (by decide) (by decide) ?_
  refine z_istore_n (lv' := [(3, .int 0), (0, .ref (a 0)), (1, .int 5), (2, .int 20)]) b dX12_after_75 rfl (by decide) rfl ?_
  refine z_iload_n b dX12_after_76 rfl rfl ?_
  refine z_bipush (v := 10) b dX12_after_77 (by decide) ?_
  refine z_bipush (v := 38) b dX12_after_79 (by decide) ?_
  refine z_calli b (z_runS (As := [.int 20, .int 10, .int 38]) (st := []) b (c_X12_isIn_121 (si (sl S 2 1649317774848) 24 (-1)) ) cf_X12_isIn wm_X12_1 ws_X12_isIn dX12_after_81 rfl (Nat.le_of_ble_eq_true rfl) ⟨by decide, by decide, by decide, by decide⟩) (fun r21595 u21596 h21594 => ?_)
  obtain ⟨rfl, rfl⟩ := h21594
  refine z_if_eq_f (tgt := 102) b dX12_after_84 (by decide) (by decide) ?_
  refine z_iload_n b dX12_after_87 rfl rfl ?_
  refine z_bipush (v := 9) b dX12_after_88 (by decide) ?_
  refine z_icmp_eq_f (tgt := 102) b dX12_after_90 (by decide) (by decide) ?_
  refine z_iload_n b dX12_after_93 rfl rfl ?_
  refine z_iconst (v := 3) b dX12_after_94 (by decide) ?_
  refine z_idiv (v := 0) b dX12_after_95 (by decide) (by decide) ?_
  refine z_iload_n b dX12_after_96 rfl rfl ?_
  refine z_iconst (v := 3) b dX12_after_97 (by decide) ?_
  refine z_irem (v := 0) b dX12_after_98 (by decide) (by decide) ?_
  refine z_icmp_ne_f (tgt := 104) b dX12_after_99 (by decide) (by decide) ?_
  refine z_iconst (v := (-1)) b dX12_after_102 (by decide) ?_
  exact z_iret (u := (si (sl S 2 1649317774848) 24 (-1))) b rfl dX12_after_103 ⟨rfl, rfl⟩ rfl (by decide) (by decide)

set_option maxHeartbeats 4000000 in
set_option maxRecDepth 100000 in
theorem c_X11_after_296 {l : Launch} {D : va_G} {cy : Nat → ClassId} {T0 tB tE : Nat} {a : Nat → Nat} {rw : Nat → Option Nat} (S : GS)  (h_i_14 : fi S 14 = (-1)) (h_i_37 : fi S 37 = 0) (h_a_4_21 : ar S 4 21 = 0) (hrw : ∀ i, i < 6 → rw i = some (a (36 + 2 * i))) : Ct l D cy T0 tB tE yX11_after cX11_after 3 (some .int) 3 86 0 0 (cw cy tE a rw S) [.ref (a 0), .int 5, .int 21] (QI D (U := GS) (fun r u => 0 = r ∧ (sa S 8 (va_cpy (ar S 4) (ar S 8) 0 0 51)) = u) (cw cy tE a rw)) := by
  refine Ct.ofZ RX11 "after" [(0, .ref (a 0)), (1, .int 5), (2, .int 21)] rfl rfl rfl rfl (Nat.le_of_ble_eq_true rfl) ?_
  intro p e R s m args below meth c A b
  refine z_iload_n b dX11_after_0 rfl rfl ?_
  refine z_calli b (z_runS (As := [.int 5]) (st := []) b (c_X11_isRow_8 S ) cf_X11_isRow wm_X11_169 ws_X11_isRow dX11_after_1 rfl (Nat.le_of_ble_eq_true rfl) ⟨by decide, by decide, by decide, by decide⟩) (fun r21598 u21599 h21597 => ?_)
  obtain ⟨rfl, rfl⟩ := h21597
  refine z_if_eq_f (tgt := 14) b dX11_after_4 (by decide) (by decide) ?_
  refine z_iload_n b dX11_after_7 rfl rfl ?_
  refine z_calli b (z_runS (As := [.int 21]) (st := []) b (c_X9_has_24 S ) cf_X9_has wm_X11_191 ws_X9_has dX11_after_8 rfl (Nat.le_of_ble_eq_true rfl) ⟨by decide, by decide, by decide, by decide⟩) (fun r21601 u21602 h21600 => ?_)
  obtain ⟨rfl, rfl⟩ := h21600
  refine z_if_ne_t (tgt := 16) b dX11_after_11 (by decide) (by decide) ?_
  refine z_aload_n b dX11_after_16 rfl rfl ?_
  refine z_get (q0 := 0) (k9 := 5) (v := .ref (a 16)) b (cw_0 cy tE a rw S) rfl in_X11 (by decide) wf_X11_43 rfl dX11_after_17 ?_
  refine z_aload_n b dX11_after_20 rfl rfl ?_
  refine z_get (q0 := 0) (k9 := 7) (v := .ref (a 35)) b (cw_0 cy tE a rw S) rfl in_X11 (by decide) wf_X11_58 rfl dX11_after_21 ?_
  refine z_iload_n b dX11_after_24 rfl rfl ?_
  refine y_aald (q0 := 35) (t0 := 4) (j := 5) (v := .ref (a 46)) b (cw_35 cy tE a rw S) rfl (by decide) (by rw [hrw 5 (by decide)]; rfl) dX11_after_25 ?_
  refine z_aload_n b dX11_after_26 rfl rfl ?_
  refine z_get (q0 := 0) (k9 := 4) (v := .ref (a 14)) b (cw_0 cy tE a rw S) rfl in_X11 (by decide) wf_X11_34 rfl dX11_after_27 ?_
  refine z_iconst (v := 3) b dX11_after_30 (by decide) ?_
  refine z_iconst (v := 0) b dX11_after_31 (by decide) ?_
  refine z_calli b (z_runV (q0 := 16) (As := [.ref (a 46), .ref (a 14), .int 3, .int 0]) (st := []) b (c_X2_follow_12 S h_i_14 h_i_37) cf_X2_follow (cw_16 cy tE a rw S) rfl wm_X11_184 wi_X2_follow ws_X2_follow dX11_after_32 rfl (Nat.le_of_ble_eq_true rfl) ⟨by decide, by decide, by decide, by decide⟩) (fun r21604 u21605 h21603 => ?_)
  obtain ⟨rfl, rfl⟩ := h21603
  refine z_pop b dX11_after_35 rfl ?_
  refine z_aload_n b dX11_after_36 rfl rfl ?_
  refine z_get (q0 := 0) (k9 := 5) (v := .ref (a 16)) b (cw_0 cy tE a rw (sa S 8 (va_cpy (ar S 4) (ar S 8) 0 0 51))) rfl in_X11 (by decide) wf_X11_43 rfl dX11_after_37 ?_
  refine z_get (q0 := 16) (k9 := 3) (v := .ref (a 23)) b (cw_16 cy tE a rw (sa S 8 (va_cpy (ar S 4) (ar S 8) 0 0 51))) rfl in_X2 (by decide) wf_X11_194 rfl dX11_after_40 ?_
  refine z_iload_n b dX11_after_43 rfl rfl ?_
  refine z_calli b (z_runV (q0 := 23) (As := [.int 21]) (st := []) b (c_X9_get_19 (sa S 8 (va_cpy (ar S 4) (ar S 8) 0 0 51)) h_a_4_21) cf_X9_get (cw_23 cy tE a rw (sa S 8 (va_cpy (ar S 4) (ar S 8) 0 0 51))) rfl wm_X11_197 wi_X9_get ws_X9_get dX11_after_44 rfl (Nat.le_of_ble_eq_true rfl) ⟨by decide, by decide, by decide, by decide⟩) (fun r21607 u21608 h21606 => ?_)
  obtain ⟨rfl, rfl⟩ := h21606
  exact z_iret (u := (sa S 8 (va_cpy (ar S 4) (ar S 8) 0 0 51))) b rfl dX11_after_47 ⟨rfl, rfl⟩ rfl (by decide) (by decide)

set_option maxHeartbeats 4000000 in
set_option maxRecDepth 100000 in
theorem c_X12_after_296 {l : Launch} {D : va_G} {cy : Nat → ClassId} {T0 tB tE : Nat} {a : Nat → Nat} (S : GS)  (h_l_0 : fl S 0 = 1649317774848) (h_a_38_5 : ar S 38 5 = 0) (h_a_4_7 : ar S 4 7 = 0) (h_a_1_7 : ar S 1 7 = 0) (h_a_4_6 : ar S 4 6 = 0) (h_a_1_6 : ar S 1 6 = 0) (h_a_3_6 : ar S 3 6 = 0) (h_a_3_2 : ar S 3 2 = 0) (h_a_2_2 : ar S 2 2 = 3) (h_a_0_2 : ar S 0 2 = 0) (h_a_4_3 : ar S 4 3 = 0) (h_a_1_3 : ar S 1 3 = 0) (h_a_4_5 : ar S 4 5 = 0) (h_a_1_5 : ar S 1 5 = 0) (h_a_3_5 : ar S 3 5 = 0) (h_a_3_7 : ar S 3 7 = 0) (h_a_2_1 : ar S 2 1 = 3) (h_a_0_1 : ar S 0 1 = 0) (h_a_4_2 : ar S 4 2 = 0) (h_a_1_2 : ar S 1 2 = 0) (h_a_4_1 : ar S 4 1 = 0) (h_a_1_1 : ar S 1 1 = 0) (h_a_3_1 : ar S 3 1 = 0) (h_a_3_3 : ar S 3 3 = 0) (h_a_2_0 : ar S 2 0 = 3) (h_a_0_0 : ar S 0 0 = 0) (h_i_0 : fi S 0 = 0) : Ct l D cy T0 tB tE yX12_after cX12_after 4 (some .int) 2 47 0 0 (mw cy a S) [.ref (a 0), .int 5, .int 21] (QI D (U := GS) (fun r u => 0 = r ∧ (si (sl S 2 1649317774848) 24 (-1)) = u) (mw cy a)) := by
  refine Ct.ofZ RX12 "after" [(0, .ref (a 0)), (1, .int 5), (2, .int 21)] rfl rfl rfl rfl (Nat.le_of_ble_eq_true rfl) ?_
  intro p e R s m args below meth c A b
  refine z_iload_n b dX12_after_0 rfl rfl ?_
  refine z_calli b (z_runS (As := [.int 5]) (st := []) b (c_X12_isRow_8 S ) cf_X12_isRow wm_X12_452 ws_X12_isRow dX12_after_1 rfl (Nat.le_of_ble_eq_true rfl) ⟨by decide, by decide, by decide, by decide⟩) (fun r21610 u21611 h21609 => ?_)
  obtain ⟨rfl, rfl⟩ := h21609
  refine z_if_ne_t (tgt := 9) b dX12_after_4 (by decide) (by decide) ?_
  refine z_aload_n b dX12_after_9 rfl rfl ?_
  refine z_iload_n b dX12_after_10 rfl rfl ?_
  refine z_iconst (v := 3) b dX12_after_11 (by decide) ?_
  refine z_iconst (v := 0) b dX12_after_12 (by decide) ?_
  refine z_calli b (z_runV (q0 := 0) (As := [.int 5, .int 3, .int 0]) (st := []) b (c_X12_goes_12 S h_l_0 h_a_38_5) cf_X12_goes (mw_0 cy a S) rfl wm_X12_464 wi_X12_goes ws_X12_goes dX12_after_13 rfl (Nat.le_of_ble_eq_true rfl) ⟨by decide, by decide, by decide, by decide⟩) (fun r21613 u21614 h21612 => ?_)
  obtain ⟨rfl, rfl⟩ := h21612
  refine z_pop b dX12_after_16 rfl ?_
  refine z_aload_n b dX12_after_17 rfl rfl ?_
  refine z_aload_n b dX12_after_18 rfl rfl ?_
  refine z_get (q0 := 0) (k9 := 68) (v := .long 1649317774848) b (mw_0 cy a (si (sl S 2 1649317774848) 24 (-1))) rfl in_X12 (by decide) wf_X12_458 rfl dX12_after_19 ?_
  refine z_callv b (z_runV (q0 := 0) (As := [.long 1649317774848]) (st := []) b (c_X12_takes (si (sl S 2 1649317774848) 24 (-1)) h_a_4_7 h_a_1_7 h_a_4_6 h_a_1_6 h_a_3_6 h_a_3_2 h_a_2_2 h_a_0_2 h_a_4_3 h_a_1_3 h_a_4_5 h_a_1_5 h_a_3_5 h_a_3_7 h_a_2_1 h_a_0_1 h_a_4_2 h_a_1_2 h_a_4_1 h_a_1_1 h_a_3_1 h_a_3_3 h_a_2_0 h_a_0_0 h_i_0) cf_X12_takes (mw_0 cy a (si (sl S 2 1649317774848) 24 (-1))) rfl wm_X12_174 wi_X12_takes ws_X12_takes dX12_after_22 rfl (Nat.le_of_ble_eq_true rfl) ⟨by decide, by decide, by decide, by decide⟩) (fun u21617 h21615 => ?_)
  obtain rfl := h21615
  refine z_iload_n b dX12_after_25 rfl rfl ?_
  refine z_calli b (z_runS (As := [.int 21]) (st := []) b (c_X12_isOne_26 (si (sl S 2 1649317774848) 24 (-1)) ) cf_X12_isOne wm_X12_170 ws_X12_isOne dX12_after_26 rfl (Nat.le_of_ble_eq_true rfl) ⟨by decide, by decide, by decide, by decide⟩) (fun r21619 u21620 h21618 => ?_)
  obtain ⟨rfl, rfl⟩ := h21618
  refine z_if_eq_t (tgt := 39) b dX12_after_29 (by decide) (by decide) ?_
  refine z_iload_n b dX12_after_39 rfl rfl ?_
  refine z_bipush (v := 50) b dX12_after_40 (by decide) ?_
  refine z_icmp_ne_t (tgt := 50) b dX12_after_42 (by decide) (by decide) ?_
  refine z_iload_n b dX12_after_50 rfl rfl ?_
  refine z_bipush (v := 40) b dX12_after_51 (by decide) ?_
  refine z_bipush (v := 42) b dX12_after_53 (by decide) ?_
  refine z_calli b (z_runS (As := [.int 21, .int 40, .int 42]) (st := []) b (c_X12_isIn_123 (si (sl S 2 1649317774848) 24 (-1)) ) cf_X12_isIn wm_X12_1 ws_X12_isIn dX12_after_55 rfl (Nat.le_of_ble_eq_true rfl) ⟨by decide, by decide, by decide, by decide⟩) (fun r21622 u21623 h21621 => ?_)
  obtain ⟨rfl, rfl⟩ := h21621
  refine z_if_eq_t (tgt := 71) b dX12_after_58 (by decide) (by decide) ?_
  refine z_iload_n b dX12_after_71 rfl rfl ?_
  refine z_bipush (v := 10) b dX12_after_72 (by decide) ?_
  refine z_irem (v := 1) b dX12_after_74 (by decide) (by decide) ?_
  refine z_istore_n (lv' := [(3, .int 1), (0, .ref (a 0)), (1, .int 5), (2, .int 21)]) b dX12_after_75 rfl (by decide) rfl ?_
  refine z_iload_n b dX12_after_76 rfl rfl ?_
  refine z_bipush (v := 10) b dX12_after_77 (by decide) ?_
  refine z_bipush (v := 38) b dX12_after_79 (by decide) ?_
  refine z_calli b (z_runS (As := [.int 21, .int 10, .int 38]) (st := []) b (c_X12_isIn_124 (si (sl S 2 1649317774848) 24 (-1)) ) cf_X12_isIn wm_X12_1 ws_X12_isIn dX12_after_81 rfl (Nat.le_of_ble_eq_true rfl) ⟨by decide, by decide, by decide, by decide⟩) (fun r21625 u21626 h21624 => ?_)
  obtain ⟨rfl, rfl⟩ := h21624
  refine z_if_eq_f (tgt := 102) b dX12_after_84 (by decide) (by decide) ?_
  refine z_iload_n b dX12_after_87 rfl rfl ?_
  refine z_bipush (v := 9) b dX12_after_88 (by decide) ?_
  refine z_icmp_eq_f (tgt := 102) b dX12_after_90 (by decide) (by decide) ?_
  refine z_iload_n b dX12_after_93 rfl rfl ?_
  refine z_iconst (v := 3) b dX12_after_94 (by decide) ?_
  refine z_idiv (v := 0) b dX12_after_95 (by decide) (by decide) ?_
  refine z_iload_n b dX12_after_96 rfl rfl ?_
  refine z_iconst (v := 3) b dX12_after_97 (by decide) ?_
  refine z_irem (v := 1) b dX12_after_98 (by decide) (by decide) ?_
  refine z_icmp_ne_t (tgt := 104) b dX12_after_99 (by decide) (by decide) ?_
  refine z_iload_n b dX12_after_104 rfl rfl ?_
  refine z_bipush (v := 20) b dX12_after_105 (by decide) ?_
  refine z_icmp_ge_t (tgt := 119) b dX12_after_107 (by decide) (by decide) ?_
  refine z_iload_n b dX12_after_119 rfl rfl ?_
  refine z_bipush (v := 30) b dX12_after_120 (by decide) ?_
  refine z_icmp_ge_f (tgt := 137) b dX12_after_122 (by decide) (by decide) ?_
  refine z_aload_n b dX12_after_125 rfl rfl ?_
  refine z_get (q0 := 0) (k9 := 3) (v := .ref (a 4)) b (mw_0 cy a (si (sl S 2 1649317774848) 24 (-1))) rfl in_X12 (by decide) wf_X12_23 rfl dX12_after_126 ?_
  refine z_iload_n b dX12_after_129 rfl rfl ?_
  refine y_zald (q0 := 4) (j := 1) (v := (ar (si (sl S 2 1649317774848) 24 (-1)) 3 1)) b (mw_4 cy a (si (sl S 2 1649317774848) 24 (-1))) (by decide) rfl dX12_after_130 ?_
  refine z_eqi h_a_3_1 ?_
  refine z_if_eq_t (tgt := 150) b dX12_after_131 (by decide) (by decide) ?_
  refine z_iconst (v := 0) b dX12_after_150 (by decide) ?_
  exact z_iret (u := (si (sl S 2 1649317774848) 24 (-1))) b rfl dX12_after_151 ⟨rfl, rfl⟩ rfl (by decide) (by decide)

set_option maxHeartbeats 4000000 in
set_option maxRecDepth 100000 in
theorem c_X11_after_297 {l : Launch} {D : va_G} {cy : Nat → ClassId} {T0 tB tE : Nat} {a : Nat → Nat} {rw : Nat → Option Nat} (S : GS)  (h_i_14 : fi S 14 = (-1)) (h_i_37 : fi S 37 = 0) (h_a_4_22 : ar S 4 22 = 0) (hrw : ∀ i, i < 6 → rw i = some (a (36 + 2 * i))) : Ct l D cy T0 tB tE yX11_after cX11_after 3 (some .int) 3 86 0 0 (cw cy tE a rw S) [.ref (a 0), .int 5, .int 22] (QI D (U := GS) (fun r u => 0 = r ∧ (sa S 8 (va_cpy (ar S 4) (ar S 8) 0 0 51)) = u) (cw cy tE a rw)) := by
  refine Ct.ofZ RX11 "after" [(0, .ref (a 0)), (1, .int 5), (2, .int 22)] rfl rfl rfl rfl (Nat.le_of_ble_eq_true rfl) ?_
  intro p e R s m args below meth c A b
  refine z_iload_n b dX11_after_0 rfl rfl ?_
  refine z_calli b (z_runS (As := [.int 5]) (st := []) b (c_X11_isRow_8 S ) cf_X11_isRow wm_X11_169 ws_X11_isRow dX11_after_1 rfl (Nat.le_of_ble_eq_true rfl) ⟨by decide, by decide, by decide, by decide⟩) (fun r21628 u21629 h21627 => ?_)
  obtain ⟨rfl, rfl⟩ := h21627
  refine z_if_eq_f (tgt := 14) b dX11_after_4 (by decide) (by decide) ?_
  refine z_iload_n b dX11_after_7 rfl rfl ?_
  refine z_calli b (z_runS (As := [.int 22]) (st := []) b (c_X9_has_25 S ) cf_X9_has wm_X11_191 ws_X9_has dX11_after_8 rfl (Nat.le_of_ble_eq_true rfl) ⟨by decide, by decide, by decide, by decide⟩) (fun r21631 u21632 h21630 => ?_)
  obtain ⟨rfl, rfl⟩ := h21630
  refine z_if_ne_t (tgt := 16) b dX11_after_11 (by decide) (by decide) ?_
  refine z_aload_n b dX11_after_16 rfl rfl ?_
  refine z_get (q0 := 0) (k9 := 5) (v := .ref (a 16)) b (cw_0 cy tE a rw S) rfl in_X11 (by decide) wf_X11_43 rfl dX11_after_17 ?_
  refine z_aload_n b dX11_after_20 rfl rfl ?_
  refine z_get (q0 := 0) (k9 := 7) (v := .ref (a 35)) b (cw_0 cy tE a rw S) rfl in_X11 (by decide) wf_X11_58 rfl dX11_after_21 ?_
  refine z_iload_n b dX11_after_24 rfl rfl ?_
  refine y_aald (q0 := 35) (t0 := 4) (j := 5) (v := .ref (a 46)) b (cw_35 cy tE a rw S) rfl (by decide) (by rw [hrw 5 (by decide)]; rfl) dX11_after_25 ?_
  refine z_aload_n b dX11_after_26 rfl rfl ?_
  refine z_get (q0 := 0) (k9 := 4) (v := .ref (a 14)) b (cw_0 cy tE a rw S) rfl in_X11 (by decide) wf_X11_34 rfl dX11_after_27 ?_
  refine z_iconst (v := 3) b dX11_after_30 (by decide) ?_
  refine z_iconst (v := 0) b dX11_after_31 (by decide) ?_
  refine z_calli b (z_runV (q0 := 16) (As := [.ref (a 46), .ref (a 14), .int 3, .int 0]) (st := []) b (c_X2_follow_12 S h_i_14 h_i_37) cf_X2_follow (cw_16 cy tE a rw S) rfl wm_X11_184 wi_X2_follow ws_X2_follow dX11_after_32 rfl (Nat.le_of_ble_eq_true rfl) ⟨by decide, by decide, by decide, by decide⟩) (fun r21634 u21635 h21633 => ?_)
  obtain ⟨rfl, rfl⟩ := h21633
  refine z_pop b dX11_after_35 rfl ?_
  refine z_aload_n b dX11_after_36 rfl rfl ?_
  refine z_get (q0 := 0) (k9 := 5) (v := .ref (a 16)) b (cw_0 cy tE a rw (sa S 8 (va_cpy (ar S 4) (ar S 8) 0 0 51))) rfl in_X11 (by decide) wf_X11_43 rfl dX11_after_37 ?_
  refine z_get (q0 := 16) (k9 := 3) (v := .ref (a 23)) b (cw_16 cy tE a rw (sa S 8 (va_cpy (ar S 4) (ar S 8) 0 0 51))) rfl in_X2 (by decide) wf_X11_194 rfl dX11_after_40 ?_
  refine z_iload_n b dX11_after_43 rfl rfl ?_
  refine z_calli b (z_runV (q0 := 23) (As := [.int 22]) (st := []) b (c_X9_get_20 (sa S 8 (va_cpy (ar S 4) (ar S 8) 0 0 51)) h_a_4_22) cf_X9_get (cw_23 cy tE a rw (sa S 8 (va_cpy (ar S 4) (ar S 8) 0 0 51))) rfl wm_X11_197 wi_X9_get ws_X9_get dX11_after_44 rfl (Nat.le_of_ble_eq_true rfl) ⟨by decide, by decide, by decide, by decide⟩) (fun r21637 u21638 h21636 => ?_)
  obtain ⟨rfl, rfl⟩ := h21636
  exact z_iret (u := (sa S 8 (va_cpy (ar S 4) (ar S 8) 0 0 51))) b rfl dX11_after_47 ⟨rfl, rfl⟩ rfl (by decide) (by decide)

set_option maxHeartbeats 4000000 in
set_option maxRecDepth 100000 in
theorem c_X12_after_297 {l : Launch} {D : va_G} {cy : Nat → ClassId} {T0 tB tE : Nat} {a : Nat → Nat} (S : GS)  (h_l_0 : fl S 0 = 1649317774848) (h_a_38_5 : ar S 38 5 = 0) (h_a_4_7 : ar S 4 7 = 0) (h_a_1_7 : ar S 1 7 = 0) (h_a_4_6 : ar S 4 6 = 0) (h_a_1_6 : ar S 1 6 = 0) (h_a_3_6 : ar S 3 6 = 0) (h_a_3_2 : ar S 3 2 = 0) (h_a_2_2 : ar S 2 2 = 3) (h_a_0_2 : ar S 0 2 = 0) (h_a_4_3 : ar S 4 3 = 0) (h_a_1_3 : ar S 1 3 = 0) (h_a_4_5 : ar S 4 5 = 0) (h_a_1_5 : ar S 1 5 = 0) (h_a_3_5 : ar S 3 5 = 0) (h_a_3_7 : ar S 3 7 = 0) (h_a_2_1 : ar S 2 1 = 3) (h_a_0_1 : ar S 0 1 = 0) (h_a_4_2 : ar S 4 2 = 0) (h_a_1_2 : ar S 1 2 = 0) (h_a_4_1 : ar S 4 1 = 0) (h_a_1_1 : ar S 1 1 = 0) (h_a_3_1 : ar S 3 1 = 0) (h_a_3_3 : ar S 3 3 = 0) (h_a_2_0 : ar S 2 0 = 3) (h_a_0_0 : ar S 0 0 = 0) (h_i_0 : fi S 0 = 0) : Ct l D cy T0 tB tE yX12_after cX12_after 4 (some .int) 2 47 0 0 (mw cy a S) [.ref (a 0), .int 5, .int 22] (QI D (U := GS) (fun r u => 0 = r ∧ (si (sl S 2 1649317774848) 24 (-1)) = u) (mw cy a)) := by
  refine Ct.ofZ RX12 "after" [(0, .ref (a 0)), (1, .int 5), (2, .int 22)] rfl rfl rfl rfl (Nat.le_of_ble_eq_true rfl) ?_
  intro p e R s m args below meth c A b
  refine z_iload_n b dX12_after_0 rfl rfl ?_
  refine z_calli b (z_runS (As := [.int 5]) (st := []) b (c_X12_isRow_8 S ) cf_X12_isRow wm_X12_452 ws_X12_isRow dX12_after_1 rfl (Nat.le_of_ble_eq_true rfl) ⟨by decide, by decide, by decide, by decide⟩) (fun r21640 u21641 h21639 => ?_)
  obtain ⟨rfl, rfl⟩ := h21639
  refine z_if_ne_t (tgt := 9) b dX12_after_4 (by decide) (by decide) ?_
  refine z_aload_n b dX12_after_9 rfl rfl ?_
  refine z_iload_n b dX12_after_10 rfl rfl ?_
  refine z_iconst (v := 3) b dX12_after_11 (by decide) ?_
  refine z_iconst (v := 0) b dX12_after_12 (by decide) ?_
  refine z_calli b (z_runV (q0 := 0) (As := [.int 5, .int 3, .int 0]) (st := []) b (c_X12_goes_12 S h_l_0 h_a_38_5) cf_X12_goes (mw_0 cy a S) rfl wm_X12_464 wi_X12_goes ws_X12_goes dX12_after_13 rfl (Nat.le_of_ble_eq_true rfl) ⟨by decide, by decide, by decide, by decide⟩) (fun r21643 u21644 h21642 => ?_)
  obtain ⟨rfl, rfl⟩ := h21642
  refine z_pop b dX12_after_16 rfl ?_
  refine z_aload_n b dX12_after_17 rfl rfl ?_
  refine z_aload_n b dX12_after_18 rfl rfl ?_
  refine z_get (q0 := 0) (k9 := 68) (v := .long 1649317774848) b (mw_0 cy a (si (sl S 2 1649317774848) 24 (-1))) rfl in_X12 (by decide) wf_X12_458 rfl dX12_after_19 ?_
  refine z_callv b (z_runV (q0 := 0) (As := [.long 1649317774848]) (st := []) b (c_X12_takes (si (sl S 2 1649317774848) 24 (-1)) h_a_4_7 h_a_1_7 h_a_4_6 h_a_1_6 h_a_3_6 h_a_3_2 h_a_2_2 h_a_0_2 h_a_4_3 h_a_1_3 h_a_4_5 h_a_1_5 h_a_3_5 h_a_3_7 h_a_2_1 h_a_0_1 h_a_4_2 h_a_1_2 h_a_4_1 h_a_1_1 h_a_3_1 h_a_3_3 h_a_2_0 h_a_0_0 h_i_0) cf_X12_takes (mw_0 cy a (si (sl S 2 1649317774848) 24 (-1))) rfl wm_X12_174 wi_X12_takes ws_X12_takes dX12_after_22 rfl (Nat.le_of_ble_eq_true rfl) ⟨by decide, by decide, by decide, by decide⟩) (fun u21647 h21645 => ?_)
  obtain rfl := h21645
  refine z_iload_n b dX12_after_25 rfl rfl ?_
  refine z_calli b (z_runS (As := [.int 22]) (st := []) b (c_X12_isOne_27 (si (sl S 2 1649317774848) 24 (-1)) ) cf_X12_isOne wm_X12_170 ws_X12_isOne dX12_after_26 rfl (Nat.le_of_ble_eq_true rfl) ⟨by decide, by decide, by decide, by decide⟩) (fun r21649 u21650 h21648 => ?_)
  obtain ⟨rfl, rfl⟩ := h21648
  refine z_if_eq_t (tgt := 39) b dX12_after_29 (by decide) (by decide) ?_
  refine z_iload_n b dX12_after_39 rfl rfl ?_
  refine z_bipush (v := 50) b dX12_after_40 (by decide) ?_
  refine z_icmp_ne_t (tgt := 50) b dX12_after_42 (by decide) (by decide) ?_
  refine z_iload_n b dX12_after_50 rfl rfl ?_
  refine z_bipush (v := 40) b dX12_after_51 (by decide) ?_
  refine z_bipush (v := 42) b dX12_after_53 (by decide) ?_
  refine z_calli b (z_runS (As := [.int 22, .int 40, .int 42]) (st := []) b (c_X12_isIn_126 (si (sl S 2 1649317774848) 24 (-1)) ) cf_X12_isIn wm_X12_1 ws_X12_isIn dX12_after_55 rfl (Nat.le_of_ble_eq_true rfl) ⟨by decide, by decide, by decide, by decide⟩) (fun r21652 u21653 h21651 => ?_)
  obtain ⟨rfl, rfl⟩ := h21651
  refine z_if_eq_t (tgt := 71) b dX12_after_58 (by decide) (by decide) ?_
  refine z_iload_n b dX12_after_71 rfl rfl ?_
  refine z_bipush (v := 10) b dX12_after_72 (by decide) ?_
  refine z_irem (v := 2) b dX12_after_74 (by decide) (by decide) ?_
  refine z_istore_n (lv' := [(3, .int 2), (0, .ref (a 0)), (1, .int 5), (2, .int 22)]) b dX12_after_75 rfl (by decide) rfl ?_
  refine z_iload_n b dX12_after_76 rfl rfl ?_
  refine z_bipush (v := 10) b dX12_after_77 (by decide) ?_
  refine z_bipush (v := 38) b dX12_after_79 (by decide) ?_
  refine z_calli b (z_runS (As := [.int 22, .int 10, .int 38]) (st := []) b (c_X12_isIn_127 (si (sl S 2 1649317774848) 24 (-1)) ) cf_X12_isIn wm_X12_1 ws_X12_isIn dX12_after_81 rfl (Nat.le_of_ble_eq_true rfl) ⟨by decide, by decide, by decide, by decide⟩) (fun r21655 u21656 h21654 => ?_)
  obtain ⟨rfl, rfl⟩ := h21654
  refine z_if_eq_f (tgt := 102) b dX12_after_84 (by decide) (by decide) ?_
  refine z_iload_n b dX12_after_87 rfl rfl ?_
  refine z_bipush (v := 9) b dX12_after_88 (by decide) ?_
  refine z_icmp_eq_f (tgt := 102) b dX12_after_90 (by decide) (by decide) ?_
  refine z_iload_n b dX12_after_93 rfl rfl ?_
  refine z_iconst (v := 3) b dX12_after_94 (by decide) ?_
  refine z_idiv (v := 0) b dX12_after_95 (by decide) (by decide) ?_
  refine z_iload_n b dX12_after_96 rfl rfl ?_
  refine z_iconst (v := 3) b dX12_after_97 (by decide) ?_
  refine z_irem (v := 2) b dX12_after_98 (by decide) (by decide) ?_
  refine z_icmp_ne_t (tgt := 104) b dX12_after_99 (by decide) (by decide) ?_
  refine z_iload_n b dX12_after_104 rfl rfl ?_
  refine z_bipush (v := 20) b dX12_after_105 (by decide) ?_
  refine z_icmp_ge_t (tgt := 119) b dX12_after_107 (by decide) (by decide) ?_
  refine z_iload_n b dX12_after_119 rfl rfl ?_
  refine z_bipush (v := 30) b dX12_after_120 (by decide) ?_
  refine z_icmp_ge_f (tgt := 137) b dX12_after_122 (by decide) (by decide) ?_
  refine z_aload_n b dX12_after_125 rfl rfl ?_
  refine z_get (q0 := 0) (k9 := 3) (v := .ref (a 4)) b (mw_0 cy a (si (sl S 2 1649317774848) 24 (-1))) rfl in_X12 (by decide) wf_X12_23 rfl dX12_after_126 ?_
  refine z_iload_n b dX12_after_129 rfl rfl ?_
  refine y_zald (q0 := 4) (j := 2) (v := (ar (si (sl S 2 1649317774848) 24 (-1)) 3 2)) b (mw_4 cy a (si (sl S 2 1649317774848) 24 (-1))) (by decide) rfl dX12_after_130 ?_
  refine z_eqi h_a_3_2 ?_
  refine z_if_eq_t (tgt := 150) b dX12_after_131 (by decide) (by decide) ?_
  refine z_iconst (v := 0) b dX12_after_150 (by decide) ?_
  exact z_iret (u := (si (sl S 2 1649317774848) 24 (-1))) b rfl dX12_after_151 ⟨rfl, rfl⟩ rfl (by decide) (by decide)

set_option maxHeartbeats 4000000 in
set_option maxRecDepth 100000 in
theorem c_X11_after_298 {l : Launch} {D : va_G} {cy : Nat → ClassId} {T0 tB tE : Nat} {a : Nat → Nat} {rw : Nat → Option Nat} (S : GS)  (h_i_14 : fi S 14 = (-1)) (h_i_37 : fi S 37 = 0) (h_a_4_23 : ar S 4 23 = 0) (hrw : ∀ i, i < 6 → rw i = some (a (36 + 2 * i))) : Ct l D cy T0 tB tE yX11_after cX11_after 3 (some .int) 3 86 0 0 (cw cy tE a rw S) [.ref (a 0), .int 5, .int 23] (QI D (U := GS) (fun r u => 0 = r ∧ (sa S 8 (va_cpy (ar S 4) (ar S 8) 0 0 51)) = u) (cw cy tE a rw)) := by
  refine Ct.ofZ RX11 "after" [(0, .ref (a 0)), (1, .int 5), (2, .int 23)] rfl rfl rfl rfl (Nat.le_of_ble_eq_true rfl) ?_
  intro p e R s m args below meth c A b
  refine z_iload_n b dX11_after_0 rfl rfl ?_
  refine z_calli b (z_runS (As := [.int 5]) (st := []) b (c_X11_isRow_8 S ) cf_X11_isRow wm_X11_169 ws_X11_isRow dX11_after_1 rfl (Nat.le_of_ble_eq_true rfl) ⟨by decide, by decide, by decide, by decide⟩) (fun r21658 u21659 h21657 => ?_)
  obtain ⟨rfl, rfl⟩ := h21657
  refine z_if_eq_f (tgt := 14) b dX11_after_4 (by decide) (by decide) ?_
  refine z_iload_n b dX11_after_7 rfl rfl ?_
  refine z_calli b (z_runS (As := [.int 23]) (st := []) b (c_X9_has_26 S ) cf_X9_has wm_X11_191 ws_X9_has dX11_after_8 rfl (Nat.le_of_ble_eq_true rfl) ⟨by decide, by decide, by decide, by decide⟩) (fun r21661 u21662 h21660 => ?_)
  obtain ⟨rfl, rfl⟩ := h21660
  refine z_if_ne_t (tgt := 16) b dX11_after_11 (by decide) (by decide) ?_
  refine z_aload_n b dX11_after_16 rfl rfl ?_
  refine z_get (q0 := 0) (k9 := 5) (v := .ref (a 16)) b (cw_0 cy tE a rw S) rfl in_X11 (by decide) wf_X11_43 rfl dX11_after_17 ?_
  refine z_aload_n b dX11_after_20 rfl rfl ?_
  refine z_get (q0 := 0) (k9 := 7) (v := .ref (a 35)) b (cw_0 cy tE a rw S) rfl in_X11 (by decide) wf_X11_58 rfl dX11_after_21 ?_
  refine z_iload_n b dX11_after_24 rfl rfl ?_
  refine y_aald (q0 := 35) (t0 := 4) (j := 5) (v := .ref (a 46)) b (cw_35 cy tE a rw S) rfl (by decide) (by rw [hrw 5 (by decide)]; rfl) dX11_after_25 ?_
  refine z_aload_n b dX11_after_26 rfl rfl ?_
  refine z_get (q0 := 0) (k9 := 4) (v := .ref (a 14)) b (cw_0 cy tE a rw S) rfl in_X11 (by decide) wf_X11_34 rfl dX11_after_27 ?_
  refine z_iconst (v := 3) b dX11_after_30 (by decide) ?_
  refine z_iconst (v := 0) b dX11_after_31 (by decide) ?_
  refine z_calli b (z_runV (q0 := 16) (As := [.ref (a 46), .ref (a 14), .int 3, .int 0]) (st := []) b (c_X2_follow_12 S h_i_14 h_i_37) cf_X2_follow (cw_16 cy tE a rw S) rfl wm_X11_184 wi_X2_follow ws_X2_follow dX11_after_32 rfl (Nat.le_of_ble_eq_true rfl) ⟨by decide, by decide, by decide, by decide⟩) (fun r21664 u21665 h21663 => ?_)
  obtain ⟨rfl, rfl⟩ := h21663
  refine z_pop b dX11_after_35 rfl ?_
  refine z_aload_n b dX11_after_36 rfl rfl ?_
  refine z_get (q0 := 0) (k9 := 5) (v := .ref (a 16)) b (cw_0 cy tE a rw (sa S 8 (va_cpy (ar S 4) (ar S 8) 0 0 51))) rfl in_X11 (by decide) wf_X11_43 rfl dX11_after_37 ?_
  refine z_get (q0 := 16) (k9 := 3) (v := .ref (a 23)) b (cw_16 cy tE a rw (sa S 8 (va_cpy (ar S 4) (ar S 8) 0 0 51))) rfl in_X2 (by decide) wf_X11_194 rfl dX11_after_40 ?_
  refine z_iload_n b dX11_after_43 rfl rfl ?_
  refine z_calli b (z_runV (q0 := 23) (As := [.int 23]) (st := []) b (c_X9_get_21 (sa S 8 (va_cpy (ar S 4) (ar S 8) 0 0 51)) h_a_4_23) cf_X9_get (cw_23 cy tE a rw (sa S 8 (va_cpy (ar S 4) (ar S 8) 0 0 51))) rfl wm_X11_197 wi_X9_get ws_X9_get dX11_after_44 rfl (Nat.le_of_ble_eq_true rfl) ⟨by decide, by decide, by decide, by decide⟩) (fun r21667 u21668 h21666 => ?_)
  obtain ⟨rfl, rfl⟩ := h21666
  exact z_iret (u := (sa S 8 (va_cpy (ar S 4) (ar S 8) 0 0 51))) b rfl dX11_after_47 ⟨rfl, rfl⟩ rfl (by decide) (by decide)

set_option maxHeartbeats 4000000 in
set_option maxRecDepth 100000 in
theorem c_X12_after_298 {l : Launch} {D : va_G} {cy : Nat → ClassId} {T0 tB tE : Nat} {a : Nat → Nat} (S : GS)  (h_l_0 : fl S 0 = 1649317774848) (h_a_38_5 : ar S 38 5 = 0) (h_a_4_7 : ar S 4 7 = 0) (h_a_1_7 : ar S 1 7 = 0) (h_a_4_6 : ar S 4 6 = 0) (h_a_1_6 : ar S 1 6 = 0) (h_a_3_6 : ar S 3 6 = 0) (h_a_3_2 : ar S 3 2 = 0) (h_a_2_2 : ar S 2 2 = 3) (h_a_0_2 : ar S 0 2 = 0) (h_a_4_3 : ar S 4 3 = 0) (h_a_1_3 : ar S 1 3 = 0) (h_a_4_5 : ar S 4 5 = 0) (h_a_1_5 : ar S 1 5 = 0) (h_a_3_5 : ar S 3 5 = 0) (h_a_3_7 : ar S 3 7 = 0) (h_a_2_1 : ar S 2 1 = 3) (h_a_0_1 : ar S 0 1 = 0) (h_a_4_2 : ar S 4 2 = 0) (h_a_1_2 : ar S 1 2 = 0) (h_a_4_1 : ar S 4 1 = 0) (h_a_1_1 : ar S 1 1 = 0) (h_a_3_1 : ar S 3 1 = 0) (h_a_3_3 : ar S 3 3 = 0) (h_a_2_0 : ar S 2 0 = 3) (h_a_0_0 : ar S 0 0 = 0) (h_i_0 : fi S 0 = 0) : Ct l D cy T0 tB tE yX12_after cX12_after 4 (some .int) 2 47 0 0 (mw cy a S) [.ref (a 0), .int 5, .int 23] (QI D (U := GS) (fun r u => 0 = r ∧ (si (sl S 2 1649317774848) 24 (-1)) = u) (mw cy a)) := by
  refine Ct.ofZ RX12 "after" [(0, .ref (a 0)), (1, .int 5), (2, .int 23)] rfl rfl rfl rfl (Nat.le_of_ble_eq_true rfl) ?_
  intro p e R s m args below meth c A b
  refine z_iload_n b dX12_after_0 rfl rfl ?_
  refine z_calli b (z_runS (As := [.int 5]) (st := []) b (c_X12_isRow_8 S ) cf_X12_isRow wm_X12_452 ws_X12_isRow dX12_after_1 rfl (Nat.le_of_ble_eq_true rfl) ⟨by decide, by decide, by decide, by decide⟩) (fun r21670 u21671 h21669 => ?_)
  obtain ⟨rfl, rfl⟩ := h21669
  refine z_if_ne_t (tgt := 9) b dX12_after_4 (by decide) (by decide) ?_
  refine z_aload_n b dX12_after_9 rfl rfl ?_
  refine z_iload_n b dX12_after_10 rfl rfl ?_
  refine z_iconst (v := 3) b dX12_after_11 (by decide) ?_
  refine z_iconst (v := 0) b dX12_after_12 (by decide) ?_
  refine z_calli b (z_runV (q0 := 0) (As := [.int 5, .int 3, .int 0]) (st := []) b (c_X12_goes_12 S h_l_0 h_a_38_5) cf_X12_goes (mw_0 cy a S) rfl wm_X12_464 wi_X12_goes ws_X12_goes dX12_after_13 rfl (Nat.le_of_ble_eq_true rfl) ⟨by decide, by decide, by decide, by decide⟩) (fun r21673 u21674 h21672 => ?_)
  obtain ⟨rfl, rfl⟩ := h21672
  refine z_pop b dX12_after_16 rfl ?_
  refine z_aload_n b dX12_after_17 rfl rfl ?_
  refine z_aload_n b dX12_after_18 rfl rfl ?_
  refine z_get (q0 := 0) (k9 := 68) (v := .long 1649317774848) b (mw_0 cy a (si (sl S 2 1649317774848) 24 (-1))) rfl in_X12 (by decide) wf_X12_458 rfl dX12_after_19 ?_
  refine z_callv b (z_runV (q0 := 0) (As := [.long 1649317774848]) (st := []) b (c_X12_takes (si (sl S 2 1649317774848) 24 (-1)) h_a_4_7 h_a_1_7 h_a_4_6 h_a_1_6 h_a_3_6 h_a_3_2 h_a_2_2 h_a_0_2 h_a_4_3 h_a_1_3 h_a_4_5 h_a_1_5 h_a_3_5 h_a_3_7 h_a_2_1 h_a_0_1 h_a_4_2 h_a_1_2 h_a_4_1 h_a_1_1 h_a_3_1 h_a_3_3 h_a_2_0 h_a_0_0 h_i_0) cf_X12_takes (mw_0 cy a (si (sl S 2 1649317774848) 24 (-1))) rfl wm_X12_174 wi_X12_takes ws_X12_takes dX12_after_22 rfl (Nat.le_of_ble_eq_true rfl) ⟨by decide, by decide, by decide, by decide⟩) (fun u21677 h21675 => ?_)
  obtain rfl := h21675
  refine z_iload_n b dX12_after_25 rfl rfl ?_
  refine z_calli b (z_runS (As := [.int 23]) (st := []) b (c_X12_isOne_28 (si (sl S 2 1649317774848) 24 (-1)) ) cf_X12_isOne wm_X12_170 ws_X12_isOne dX12_after_26 rfl (Nat.le_of_ble_eq_true rfl) ⟨by decide, by decide, by decide, by decide⟩) (fun r21679 u21680 h21678 => ?_)
  obtain ⟨rfl, rfl⟩ := h21678
  refine z_if_eq_t (tgt := 39) b dX12_after_29 (by decide) (by decide) ?_
  refine z_iload_n b dX12_after_39 rfl rfl ?_
  refine z_bipush (v := 50) b dX12_after_40 (by decide) ?_
  refine z_icmp_ne_t (tgt := 50) b dX12_after_42 (by decide) (by decide) ?_
  refine z_iload_n b dX12_after_50 rfl rfl ?_
  refine z_bipush (v := 40) b dX12_after_51 (by decide) ?_
  refine z_bipush (v := 42) b dX12_after_53 (by decide) ?_
  refine z_calli b (z_runS (As := [.int 23, .int 40, .int 42]) (st := []) b (c_X12_isIn_129 (si (sl S 2 1649317774848) 24 (-1)) ) cf_X12_isIn wm_X12_1 ws_X12_isIn dX12_after_55 rfl (Nat.le_of_ble_eq_true rfl) ⟨by decide, by decide, by decide, by decide⟩) (fun r21682 u21683 h21681 => ?_)
  obtain ⟨rfl, rfl⟩ := h21681
  refine z_if_eq_t (tgt := 71) b dX12_after_58 (by decide) (by decide) ?_
  refine z_iload_n b dX12_after_71 rfl rfl ?_
  refine z_bipush (v := 10) b dX12_after_72 (by decide) ?_
  refine z_irem (v := 3) b dX12_after_74 (by decide) (by decide) ?_
  refine z_istore_n (lv' := [(3, .int 3), (0, .ref (a 0)), (1, .int 5), (2, .int 23)]) b dX12_after_75 rfl (by decide) rfl ?_
  refine z_iload_n b dX12_after_76 rfl rfl ?_
  refine z_bipush (v := 10) b dX12_after_77 (by decide) ?_
  refine z_bipush (v := 38) b dX12_after_79 (by decide) ?_
  refine z_calli b (z_runS (As := [.int 23, .int 10, .int 38]) (st := []) b (c_X12_isIn_130 (si (sl S 2 1649317774848) 24 (-1)) ) cf_X12_isIn wm_X12_1 ws_X12_isIn dX12_after_81 rfl (Nat.le_of_ble_eq_true rfl) ⟨by decide, by decide, by decide, by decide⟩) (fun r21685 u21686 h21684 => ?_)
  obtain ⟨rfl, rfl⟩ := h21684
  refine z_if_eq_f (tgt := 102) b dX12_after_84 (by decide) (by decide) ?_
  refine z_iload_n b dX12_after_87 rfl rfl ?_
  refine z_bipush (v := 9) b dX12_after_88 (by decide) ?_
  refine z_icmp_eq_f (tgt := 102) b dX12_after_90 (by decide) (by decide) ?_
  refine z_iload_n b dX12_after_93 rfl rfl ?_
  refine z_iconst (v := 3) b dX12_after_94 (by decide) ?_
  refine z_idiv (v := 1) b dX12_after_95 (by decide) (by decide) ?_
  refine z_iload_n b dX12_after_96 rfl rfl ?_
  refine z_iconst (v := 3) b dX12_after_97 (by decide) ?_
  refine z_irem (v := 0) b dX12_after_98 (by decide) (by decide) ?_
  refine z_icmp_ne_t (tgt := 104) b dX12_after_99 (by decide) (by decide) ?_
  refine z_iload_n b dX12_after_104 rfl rfl ?_
  refine z_bipush (v := 20) b dX12_after_105 (by decide) ?_
  refine z_icmp_ge_t (tgt := 119) b dX12_after_107 (by decide) (by decide) ?_
  refine z_iload_n b dX12_after_119 rfl rfl ?_
  refine z_bipush (v := 30) b dX12_after_120 (by decide) ?_
  refine z_icmp_ge_f (tgt := 137) b dX12_after_122 (by decide) (by decide) ?_
  refine z_aload_n b dX12_after_125 rfl rfl ?_
  refine z_get (q0 := 0) (k9 := 3) (v := .ref (a 4)) b (mw_0 cy a (si (sl S 2 1649317774848) 24 (-1))) rfl in_X12 (by decide) wf_X12_23 rfl dX12_after_126 ?_
  refine z_iload_n b dX12_after_129 rfl rfl ?_
  refine y_zald (q0 := 4) (j := 3) (v := (ar (si (sl S 2 1649317774848) 24 (-1)) 3 3)) b (mw_4 cy a (si (sl S 2 1649317774848) 24 (-1))) (by decide) rfl dX12_after_130 ?_
  refine z_eqi h_a_3_3 ?_
  refine z_if_eq_t (tgt := 150) b dX12_after_131 (by decide) (by decide) ?_
  refine z_iconst (v := 0) b dX12_after_150 (by decide) ?_
  exact z_iret (u := (si (sl S 2 1649317774848) 24 (-1))) b rfl dX12_after_151 ⟨rfl, rfl⟩ rfl (by decide) (by decide)

set_option maxHeartbeats 4000000 in
set_option maxRecDepth 100000 in
theorem c_X11_after_299 {l : Launch} {D : va_G} {cy : Nat → ClassId} {T0 tB tE : Nat} {a : Nat → Nat} {rw : Nat → Option Nat} (S : GS)   : Ct l D cy T0 tB tE yX11_after cX11_after 3 (some .int) 3 62 0 0 (cw cy tE a rw S) [.ref (a 0), .int 5, .int 24] (QI D (U := GS) (fun r u => (-1) = r ∧ S = u) (cw cy tE a rw)) := by
  refine Ct.ofZ RX11 "after" [(0, .ref (a 0)), (1, .int 5), (2, .int 24)] rfl rfl rfl rfl (Nat.le_of_ble_eq_true rfl) ?_
  intro p e R s m args below meth c A b
  refine z_iload_n b dX11_after_0 rfl rfl ?_
  refine z_calli b (z_runS (As := [.int 5]) (st := []) b (c_X11_isRow_8 S ) cf_X11_isRow wm_X11_169 ws_X11_isRow dX11_after_1 rfl (Nat.le_of_ble_eq_true rfl) ⟨by decide, by decide, by decide, by decide⟩) (fun r21688 u21689 h21687 => ?_)
  obtain ⟨rfl, rfl⟩ := h21687
  refine z_if_eq_f (tgt := 14) b dX11_after_4 (by decide) (by decide) ?_
  refine z_iload_n b dX11_after_7 rfl rfl ?_
  refine z_calli b (z_runS (As := [.int 24]) (st := []) b (c_X9_has_27 S ) cf_X9_has wm_X11_191 ws_X9_has dX11_after_8 rfl (Nat.le_of_ble_eq_true rfl) ⟨by decide, by decide, by decide, by decide⟩) (fun r21691 u21692 h21690 => ?_)
  obtain ⟨rfl, rfl⟩ := h21690
  refine z_if_ne_f (tgt := 16) b dX11_after_11 (by decide) (by decide) ?_
  refine z_iconst (v := (-1)) b dX11_after_14 (by decide) ?_
  exact z_iret (u := S) b rfl dX11_after_15 ⟨rfl, rfl⟩ rfl (by decide) (by decide)

set_option maxHeartbeats 4000000 in
set_option maxRecDepth 100000 in
theorem c_X12_after_299 {l : Launch} {D : va_G} {cy : Nat → ClassId} {T0 tB tE : Nat} {a : Nat → Nat} (S : GS)  (h_l_0 : fl S 0 = 1649317774848) (h_a_38_5 : ar S 38 5 = 0) (h_a_4_7 : ar S 4 7 = 0) (h_a_1_7 : ar S 1 7 = 0) (h_a_4_6 : ar S 4 6 = 0) (h_a_1_6 : ar S 1 6 = 0) (h_a_3_6 : ar S 3 6 = 0) (h_a_3_2 : ar S 3 2 = 0) (h_a_2_2 : ar S 2 2 = 3) (h_a_0_2 : ar S 0 2 = 0) (h_a_4_3 : ar S 4 3 = 0) (h_a_1_3 : ar S 1 3 = 0) (h_a_4_5 : ar S 4 5 = 0) (h_a_1_5 : ar S 1 5 = 0) (h_a_3_5 : ar S 3 5 = 0) (h_a_3_7 : ar S 3 7 = 0) (h_a_2_1 : ar S 2 1 = 3) (h_a_0_1 : ar S 0 1 = 0) (h_a_4_2 : ar S 4 2 = 0) (h_a_1_2 : ar S 1 2 = 0) (h_a_4_1 : ar S 4 1 = 0) (h_a_1_1 : ar S 1 1 = 0) (h_a_3_1 : ar S 3 1 = 0) (h_a_3_3 : ar S 3 3 = 0) (h_a_2_0 : ar S 2 0 = 3) (h_a_0_0 : ar S 0 0 = 0) (h_i_0 : fi S 0 = 0) : Ct l D cy T0 tB tE yX12_after cX12_after 4 (some .int) 2 47 0 0 (mw cy a S) [.ref (a 0), .int 5, .int 24] (QI D (U := GS) (fun r u => (-1) = r ∧ (si (sl S 2 1649317774848) 24 (-1)) = u) (mw cy a)) := by
  refine Ct.ofZ RX12 "after" [(0, .ref (a 0)), (1, .int 5), (2, .int 24)] rfl rfl rfl rfl (Nat.le_of_ble_eq_true rfl) ?_
  intro p e R s m args below meth c A b
  refine z_iload_n b dX12_after_0 rfl rfl ?_
  refine z_calli b (z_runS (As := [.int 5]) (st := []) b (c_X12_isRow_8 S ) cf_X12_isRow wm_X12_452 ws_X12_isRow dX12_after_1 rfl (Nat.le_of_ble_eq_true rfl) ⟨by decide, by decide, by decide, by decide⟩) (fun r21694 u21695 h21693 => ?_)
  obtain ⟨rfl, rfl⟩ := h21693
  refine z_if_ne_t (tgt := 9) b dX12_after_4 (by decide) (by decide) ?_
  refine z_aload_n b dX12_after_9 rfl rfl ?_
  refine z_iload_n b dX12_after_10 rfl rfl ?_
  refine z_iconst (v := 3) b dX12_after_11 (by decide) ?_
  refine z_iconst (v := 0) b dX12_after_12 (by decide) ?_
  refine z_calli b (z_runV (q0 := 0) (As := [.int 5, .int 3, .int 0]) (st := []) b (c_X12_goes_12 S h_l_0 h_a_38_5) cf_X12_goes (mw_0 cy a S) rfl wm_X12_464 wi_X12_goes ws_X12_goes dX12_after_13 rfl (Nat.le_of_ble_eq_true rfl) ⟨by decide, by decide, by decide, by decide⟩) (fun r21697 u21698 h21696 => ?_)
  obtain ⟨rfl, rfl⟩ := h21696
  refine z_pop b dX12_after_16 rfl ?_
  refine z_aload_n b dX12_after_17 rfl rfl ?_
  refine z_aload_n b dX12_after_18 rfl rfl ?_
  refine z_get (q0 := 0) (k9 := 68) (v := .long 1649317774848) b (mw_0 cy a (si (sl S 2 1649317774848) 24 (-1))) rfl in_X12 (by decide) wf_X12_458 rfl dX12_after_19 ?_
  refine z_callv b (z_runV (q0 := 0) (As := [.long 1649317774848]) (st := []) b (c_X12_takes (si (sl S 2 1649317774848) 24 (-1)) h_a_4_7 h_a_1_7 h_a_4_6 h_a_1_6 h_a_3_6 h_a_3_2 h_a_2_2 h_a_0_2 h_a_4_3 h_a_1_3 h_a_4_5 h_a_1_5 h_a_3_5 h_a_3_7 h_a_2_1 h_a_0_1 h_a_4_2 h_a_1_2 h_a_4_1 h_a_1_1 h_a_3_1 h_a_3_3 h_a_2_0 h_a_0_0 h_i_0) cf_X12_takes (mw_0 cy a (si (sl S 2 1649317774848) 24 (-1))) rfl wm_X12_174 wi_X12_takes ws_X12_takes dX12_after_22 rfl (Nat.le_of_ble_eq_true rfl) ⟨by decide, by decide, by decide, by decide⟩) (fun u21701 h21699 => ?_)
  obtain rfl := h21699
  refine z_iload_n b dX12_after_25 rfl rfl ?_
  refine z_calli b (z_runS (As := [.int 24]) (st := []) b (c_X12_isOne_29 (si (sl S 2 1649317774848) 24 (-1)) ) cf_X12_isOne wm_X12_170 ws_X12_isOne dX12_after_26 rfl (Nat.le_of_ble_eq_true rfl) ⟨by decide, by decide, by decide, by decide⟩) (fun r21703 u21704 h21702 => ?_)
  obtain ⟨rfl, rfl⟩ := h21702
  refine z_if_eq_t (tgt := 39) b dX12_after_29 (by decide) (by decide) ?_
  refine z_iload_n b dX12_after_39 rfl rfl ?_
  refine z_bipush (v := 50) b dX12_after_40 (by decide) ?_
  refine z_icmp_ne_t (tgt := 50) b dX12_after_42 (by decide) (by decide) ?_
  refine z_iload_n b dX12_after_50 rfl rfl ?_
  refine z_bipush (v := 40) b dX12_after_51 (by decide) ?_
  refine z_bipush (v := 42) b dX12_after_53 (by decide) ?_
  refine z_calli b (z_runS (As := [.int 24, .int 40, .int 42]) (st := []) b (c_X12_isIn_132 (si (sl S 2 1649317774848) 24 (-1)) ) cf_X12_isIn wm_X12_1 ws_X12_isIn dX12_after_55 rfl (Nat.le_of_ble_eq_true rfl) ⟨by decide, by decide, by decide, by decide⟩) (fun r21706 u21707 h21705 => ?_)
  obtain ⟨rfl, rfl⟩ := h21705
  refine z_if_eq_t (tgt := 71) b dX12_after_58 (by decide) (by decide) ?_
  refine z_iload_n b dX12_after_71 rfl rfl ?_
  refine z_bipush (v := 10) b dX12_after_72 (by decide) ?_
  refine z_irem (v := 4) b dX12_after_74 (by decide) (by decide) ?_
  refine z_istore_n (lv' := [(3, .int 4), (0, .ref (a 0)), (1, .int 5), (2, .int 24)]) b dX12_after_75 rfl (by decide) rfl ?_
  refine z_iload_n b dX12_after_76 rfl rfl ?_
  refine z_bipush (v := 10) b dX12_after_77 (by decide) ?_
  refine z_bipush (v := 38) b dX12_after_79 (by decide) ?_
  refine z_calli b (z_runS (As := [.int 24, .int 10, .int 38]) (st := []) b (c_X12_isIn_133 (si (sl S 2 1649317774848) 24 (-1)) ) cf_X12_isIn wm_X12_1 ws_X12_isIn dX12_after_81 rfl (Nat.le_of_ble_eq_true rfl) ⟨by decide, by decide, by decide, by decide⟩) (fun r21709 u21710 h21708 => ?_)
  obtain ⟨rfl, rfl⟩ := h21708
  refine z_if_eq_f (tgt := 102) b dX12_after_84 (by decide) (by decide) ?_
  refine z_iload_n b dX12_after_87 rfl rfl ?_
  refine z_bipush (v := 9) b dX12_after_88 (by decide) ?_
  refine z_icmp_eq_f (tgt := 102) b dX12_after_90 (by decide) (by decide) ?_
  refine z_iload_n b dX12_after_93 rfl rfl ?_
  refine z_iconst (v := 3) b dX12_after_94 (by decide) ?_
  refine z_idiv (v := 1) b dX12_after_95 (by decide) (by decide) ?_
  refine z_iload_n b dX12_after_96 rfl rfl ?_
  refine z_iconst (v := 3) b dX12_after_97 (by decide) ?_
  refine z_irem (v := 1) b dX12_after_98 (by decide) (by decide) ?_
  refine z_icmp_ne_f (tgt := 104) b dX12_after_99 (by decide) (by decide) ?_
  refine z_iconst (v := (-1)) b dX12_after_102 (by decide) ?_
  exact z_iret (u := (si (sl S 2 1649317774848) 24 (-1))) b rfl dX12_after_103 ⟨rfl, rfl⟩ rfl (by decide) (by decide)

set_option maxHeartbeats 4000000 in
set_option maxRecDepth 100000 in
theorem c_X11_after_300 {l : Launch} {D : va_G} {cy : Nat → ClassId} {T0 tB tE : Nat} {a : Nat → Nat} {rw : Nat → Option Nat} (S : GS)  (h_i_14 : fi S 14 = (-1)) (h_i_37 : fi S 37 = 0) (h_a_4_25 : ar S 4 25 = 0) (hrw : ∀ i, i < 6 → rw i = some (a (36 + 2 * i))) : Ct l D cy T0 tB tE yX11_after cX11_after 3 (some .int) 3 86 0 0 (cw cy tE a rw S) [.ref (a 0), .int 5, .int 25] (QI D (U := GS) (fun r u => 0 = r ∧ (sa S 8 (va_cpy (ar S 4) (ar S 8) 0 0 51)) = u) (cw cy tE a rw)) := by
  refine Ct.ofZ RX11 "after" [(0, .ref (a 0)), (1, .int 5), (2, .int 25)] rfl rfl rfl rfl (Nat.le_of_ble_eq_true rfl) ?_
  intro p e R s m args below meth c A b
  refine z_iload_n b dX11_after_0 rfl rfl ?_
  refine z_calli b (z_runS (As := [.int 5]) (st := []) b (c_X11_isRow_8 S ) cf_X11_isRow wm_X11_169 ws_X11_isRow dX11_after_1 rfl (Nat.le_of_ble_eq_true rfl) ⟨by decide, by decide, by decide, by decide⟩) (fun r21712 u21713 h21711 => ?_)
  obtain ⟨rfl, rfl⟩ := h21711
  refine z_if_eq_f (tgt := 14) b dX11_after_4 (by decide) (by decide) ?_
  refine z_iload_n b dX11_after_7 rfl rfl ?_
  refine z_calli b (z_runS (As := [.int 25]) (st := []) b (c_X9_has_28 S ) cf_X9_has wm_X11_191 ws_X9_has dX11_after_8 rfl (Nat.le_of_ble_eq_true rfl) ⟨by decide, by decide, by decide, by decide⟩) (fun r21715 u21716 h21714 => ?_)
  obtain ⟨rfl, rfl⟩ := h21714
  refine z_if_ne_t (tgt := 16) b dX11_after_11 (by decide) (by decide) ?_
  refine z_aload_n b dX11_after_16 rfl rfl ?_
  refine z_get (q0 := 0) (k9 := 5) (v := .ref (a 16)) b (cw_0 cy tE a rw S) rfl in_X11 (by decide) wf_X11_43 rfl dX11_after_17 ?_
  refine z_aload_n b dX11_after_20 rfl rfl ?_
  refine z_get (q0 := 0) (k9 := 7) (v := .ref (a 35)) b (cw_0 cy tE a rw S) rfl in_X11 (by decide) wf_X11_58 rfl dX11_after_21 ?_
  refine z_iload_n b dX11_after_24 rfl rfl ?_
  refine y_aald (q0 := 35) (t0 := 4) (j := 5) (v := .ref (a 46)) b (cw_35 cy tE a rw S) rfl (by decide) (by rw [hrw 5 (by decide)]; rfl) dX11_after_25 ?_
  refine z_aload_n b dX11_after_26 rfl rfl ?_
  refine z_get (q0 := 0) (k9 := 4) (v := .ref (a 14)) b (cw_0 cy tE a rw S) rfl in_X11 (by decide) wf_X11_34 rfl dX11_after_27 ?_
  refine z_iconst (v := 3) b dX11_after_30 (by decide) ?_
  refine z_iconst (v := 0) b dX11_after_31 (by decide) ?_
  refine z_calli b (z_runV (q0 := 16) (As := [.ref (a 46), .ref (a 14), .int 3, .int 0]) (st := []) b (c_X2_follow_12 S h_i_14 h_i_37) cf_X2_follow (cw_16 cy tE a rw S) rfl wm_X11_184 wi_X2_follow ws_X2_follow dX11_after_32 rfl (Nat.le_of_ble_eq_true rfl) ⟨by decide, by decide, by decide, by decide⟩) (fun r21718 u21719 h21717 => ?_)
  obtain ⟨rfl, rfl⟩ := h21717
  refine z_pop b dX11_after_35 rfl ?_
  refine z_aload_n b dX11_after_36 rfl rfl ?_
  refine z_get (q0 := 0) (k9 := 5) (v := .ref (a 16)) b (cw_0 cy tE a rw (sa S 8 (va_cpy (ar S 4) (ar S 8) 0 0 51))) rfl in_X11 (by decide) wf_X11_43 rfl dX11_after_37 ?_
  refine z_get (q0 := 16) (k9 := 3) (v := .ref (a 23)) b (cw_16 cy tE a rw (sa S 8 (va_cpy (ar S 4) (ar S 8) 0 0 51))) rfl in_X2 (by decide) wf_X11_194 rfl dX11_after_40 ?_
  refine z_iload_n b dX11_after_43 rfl rfl ?_
  refine z_calli b (z_runV (q0 := 23) (As := [.int 25]) (st := []) b (c_X9_get_22 (sa S 8 (va_cpy (ar S 4) (ar S 8) 0 0 51)) h_a_4_25) cf_X9_get (cw_23 cy tE a rw (sa S 8 (va_cpy (ar S 4) (ar S 8) 0 0 51))) rfl wm_X11_197 wi_X9_get ws_X9_get dX11_after_44 rfl (Nat.le_of_ble_eq_true rfl) ⟨by decide, by decide, by decide, by decide⟩) (fun r21721 u21722 h21720 => ?_)
  obtain ⟨rfl, rfl⟩ := h21720
  exact z_iret (u := (sa S 8 (va_cpy (ar S 4) (ar S 8) 0 0 51))) b rfl dX11_after_47 ⟨rfl, rfl⟩ rfl (by decide) (by decide)

set_option maxHeartbeats 4000000 in
set_option maxRecDepth 100000 in
theorem c_X12_after_300 {l : Launch} {D : va_G} {cy : Nat → ClassId} {T0 tB tE : Nat} {a : Nat → Nat} (S : GS)  (h_l_0 : fl S 0 = 1649317774848) (h_a_38_5 : ar S 38 5 = 0) (h_a_4_7 : ar S 4 7 = 0) (h_a_1_7 : ar S 1 7 = 0) (h_a_4_6 : ar S 4 6 = 0) (h_a_1_6 : ar S 1 6 = 0) (h_a_3_6 : ar S 3 6 = 0) (h_a_3_2 : ar S 3 2 = 0) (h_a_2_2 : ar S 2 2 = 3) (h_a_0_2 : ar S 0 2 = 0) (h_a_4_3 : ar S 4 3 = 0) (h_a_1_3 : ar S 1 3 = 0) (h_a_4_5 : ar S 4 5 = 0) (h_a_1_5 : ar S 1 5 = 0) (h_a_3_5 : ar S 3 5 = 0) (h_a_3_7 : ar S 3 7 = 0) (h_a_2_1 : ar S 2 1 = 3) (h_a_0_1 : ar S 0 1 = 0) (h_a_4_2 : ar S 4 2 = 0) (h_a_1_2 : ar S 1 2 = 0) (h_a_4_1 : ar S 4 1 = 0) (h_a_1_1 : ar S 1 1 = 0) (h_a_3_1 : ar S 3 1 = 0) (h_a_3_3 : ar S 3 3 = 0) (h_a_2_0 : ar S 2 0 = 3) (h_a_0_0 : ar S 0 0 = 0) (h_i_0 : fi S 0 = 0) : Ct l D cy T0 tB tE yX12_after cX12_after 4 (some .int) 2 47 0 0 (mw cy a S) [.ref (a 0), .int 5, .int 25] (QI D (U := GS) (fun r u => 0 = r ∧ (si (sl S 2 1649317774848) 24 (-1)) = u) (mw cy a)) := by
  refine Ct.ofZ RX12 "after" [(0, .ref (a 0)), (1, .int 5), (2, .int 25)] rfl rfl rfl rfl (Nat.le_of_ble_eq_true rfl) ?_
  intro p e R s m args below meth c A b
  refine z_iload_n b dX12_after_0 rfl rfl ?_
  refine z_calli b (z_runS (As := [.int 5]) (st := []) b (c_X12_isRow_8 S ) cf_X12_isRow wm_X12_452 ws_X12_isRow dX12_after_1 rfl (Nat.le_of_ble_eq_true rfl) ⟨by decide, by decide, by decide, by decide⟩) (fun r21724 u21725 h21723 => ?_)
  obtain ⟨rfl, rfl⟩ := h21723
  refine z_if_ne_t (tgt := 9) b dX12_after_4 (by decide) (by decide) ?_
  refine z_aload_n b dX12_after_9 rfl rfl ?_
  refine z_iload_n b dX12_after_10 rfl rfl ?_
  refine z_iconst (v := 3) b dX12_after_11 (by decide) ?_
  refine z_iconst (v := 0) b dX12_after_12 (by decide) ?_
  refine z_calli b (z_runV (q0 := 0) (As := [.int 5, .int 3, .int 0]) (st := []) b (c_X12_goes_12 S h_l_0 h_a_38_5) cf_X12_goes (mw_0 cy a S) rfl wm_X12_464 wi_X12_goes ws_X12_goes dX12_after_13 rfl (Nat.le_of_ble_eq_true rfl) ⟨by decide, by decide, by decide, by decide⟩) (fun r21727 u21728 h21726 => ?_)
  obtain ⟨rfl, rfl⟩ := h21726
  refine z_pop b dX12_after_16 rfl ?_
  refine z_aload_n b dX12_after_17 rfl rfl ?_
  refine z_aload_n b dX12_after_18 rfl rfl ?_
  refine z_get (q0 := 0) (k9 := 68) (v := .long 1649317774848) b (mw_0 cy a (si (sl S 2 1649317774848) 24 (-1))) rfl in_X12 (by decide) wf_X12_458 rfl dX12_after_19 ?_
  refine z_callv b (z_runV (q0 := 0) (As := [.long 1649317774848]) (st := []) b (c_X12_takes (si (sl S 2 1649317774848) 24 (-1)) h_a_4_7 h_a_1_7 h_a_4_6 h_a_1_6 h_a_3_6 h_a_3_2 h_a_2_2 h_a_0_2 h_a_4_3 h_a_1_3 h_a_4_5 h_a_1_5 h_a_3_5 h_a_3_7 h_a_2_1 h_a_0_1 h_a_4_2 h_a_1_2 h_a_4_1 h_a_1_1 h_a_3_1 h_a_3_3 h_a_2_0 h_a_0_0 h_i_0) cf_X12_takes (mw_0 cy a (si (sl S 2 1649317774848) 24 (-1))) rfl wm_X12_174 wi_X12_takes ws_X12_takes dX12_after_22 rfl (Nat.le_of_ble_eq_true rfl) ⟨by decide, by decide, by decide, by decide⟩) (fun u21731 h21729 => ?_)
  obtain rfl := h21729
  refine z_iload_n b dX12_after_25 rfl rfl ?_
  refine z_calli b (z_runS (As := [.int 25]) (st := []) b (c_X12_isOne_30 (si (sl S 2 1649317774848) 24 (-1)) ) cf_X12_isOne wm_X12_170 ws_X12_isOne dX12_after_26 rfl (Nat.le_of_ble_eq_true rfl) ⟨by decide, by decide, by decide, by decide⟩) (fun r21733 u21734 h21732 => ?_)
  obtain ⟨rfl, rfl⟩ := h21732
  refine z_if_eq_t (tgt := 39) b dX12_after_29 (by decide) (by decide) ?_
  refine z_iload_n b dX12_after_39 rfl rfl ?_
  refine z_bipush (v := 50) b dX12_after_40 (by decide) ?_
  refine z_icmp_ne_t (tgt := 50) b dX12_after_42 (by decide) (by decide) ?_
  refine z_iload_n b dX12_after_50 rfl rfl ?_
  refine z_bipush (v := 40) b dX12_after_51 (by decide) ?_
  refine z_bipush (v := 42) b dX12_after_53 (by decide) ?_
  refine z_calli b (z_runS (As := [.int 25, .int 40, .int 42]) (st := []) b (c_X12_isIn_135 (si (sl S 2 1649317774848) 24 (-1)) ) cf_X12_isIn wm_X12_1 ws_X12_isIn dX12_after_55 rfl (Nat.le_of_ble_eq_true rfl) ⟨by decide, by decide, by decide, by decide⟩) (fun r21736 u21737 h21735 => ?_)
  obtain ⟨rfl, rfl⟩ := h21735
  refine z_if_eq_t (tgt := 71) b dX12_after_58 (by decide) (by decide) ?_
  refine z_iload_n b dX12_after_71 rfl rfl ?_
  refine z_bipush (v := 10) b dX12_after_72 (by decide) ?_
  refine z_irem (v := 5) b dX12_after_74 (by decide) (by decide) ?_
  refine z_istore_n (lv' := [(3, .int 5), (0, .ref (a 0)), (1, .int 5), (2, .int 25)]) b dX12_after_75 rfl (by decide) rfl ?_
  refine z_iload_n b dX12_after_76 rfl rfl ?_
  refine z_bipush (v := 10) b dX12_after_77 (by decide) ?_
  refine z_bipush (v := 38) b dX12_after_79 (by decide) ?_
  refine z_calli b (z_runS (As := [.int 25, .int 10, .int 38]) (st := []) b (c_X12_isIn_136 (si (sl S 2 1649317774848) 24 (-1)) ) cf_X12_isIn wm_X12_1 ws_X12_isIn dX12_after_81 rfl (Nat.le_of_ble_eq_true rfl) ⟨by decide, by decide, by decide, by decide⟩) (fun r21739 u21740 h21738 => ?_)
  obtain ⟨rfl, rfl⟩ := h21738
  refine z_if_eq_f (tgt := 102) b dX12_after_84 (by decide) (by decide) ?_
  refine z_iload_n b dX12_after_87 rfl rfl ?_
  refine z_bipush (v := 9) b dX12_after_88 (by decide) ?_
  refine z_icmp_eq_f (tgt := 102) b dX12_after_90 (by decide) (by decide) ?_
  refine z_iload_n b dX12_after_93 rfl rfl ?_
  refine z_iconst (v := 3) b dX12_after_94 (by decide) ?_
  refine z_idiv (v := 1) b dX12_after_95 (by decide) (by decide) ?_
  refine z_iload_n b dX12_after_96 rfl rfl ?_
  refine z_iconst (v := 3) b dX12_after_97 (by decide) ?_
  refine z_irem (v := 2) b dX12_after_98 (by decide) (by decide) ?_
  refine z_icmp_ne_t (tgt := 104) b dX12_after_99 (by decide) (by decide) ?_
  refine z_iload_n b dX12_after_104 rfl rfl ?_
  refine z_bipush (v := 20) b dX12_after_105 (by decide) ?_
  refine z_icmp_ge_t (tgt := 119) b dX12_after_107 (by decide) (by decide) ?_
  refine z_iload_n b dX12_after_119 rfl rfl ?_
  refine z_bipush (v := 30) b dX12_after_120 (by decide) ?_
  refine z_icmp_ge_f (tgt := 137) b dX12_after_122 (by decide) (by decide) ?_
  refine z_aload_n b dX12_after_125 rfl rfl ?_
  refine z_get (q0 := 0) (k9 := 3) (v := .ref (a 4)) b (mw_0 cy a (si (sl S 2 1649317774848) 24 (-1))) rfl in_X12 (by decide) wf_X12_23 rfl dX12_after_126 ?_
  refine z_iload_n b dX12_after_129 rfl rfl ?_
  refine y_zald (q0 := 4) (j := 5) (v := (ar (si (sl S 2 1649317774848) 24 (-1)) 3 5)) b (mw_4 cy a (si (sl S 2 1649317774848) 24 (-1))) (by decide) rfl dX12_after_130 ?_
  refine z_eqi h_a_3_5 ?_
  refine z_if_eq_t (tgt := 150) b dX12_after_131 (by decide) (by decide) ?_
  refine z_iconst (v := 0) b dX12_after_150 (by decide) ?_
  exact z_iret (u := (si (sl S 2 1649317774848) 24 (-1))) b rfl dX12_after_151 ⟨rfl, rfl⟩ rfl (by decide) (by decide)

set_option maxHeartbeats 4000000 in
set_option maxRecDepth 100000 in
theorem c_X11_after_301 {l : Launch} {D : va_G} {cy : Nat → ClassId} {T0 tB tE : Nat} {a : Nat → Nat} {rw : Nat → Option Nat} (S : GS)  (h_i_14 : fi S 14 = (-1)) (h_i_37 : fi S 37 = 0) (h_a_4_26 : ar S 4 26 = 0) (hrw : ∀ i, i < 6 → rw i = some (a (36 + 2 * i))) : Ct l D cy T0 tB tE yX11_after cX11_after 3 (some .int) 3 86 0 0 (cw cy tE a rw S) [.ref (a 0), .int 5, .int 26] (QI D (U := GS) (fun r u => 0 = r ∧ (sa S 8 (va_cpy (ar S 4) (ar S 8) 0 0 51)) = u) (cw cy tE a rw)) := by
  refine Ct.ofZ RX11 "after" [(0, .ref (a 0)), (1, .int 5), (2, .int 26)] rfl rfl rfl rfl (Nat.le_of_ble_eq_true rfl) ?_
  intro p e R s m args below meth c A b
  refine z_iload_n b dX11_after_0 rfl rfl ?_
  refine z_calli b (z_runS (As := [.int 5]) (st := []) b (c_X11_isRow_8 S ) cf_X11_isRow wm_X11_169 ws_X11_isRow dX11_after_1 rfl (Nat.le_of_ble_eq_true rfl) ⟨by decide, by decide, by decide, by decide⟩) (fun r21742 u21743 h21741 => ?_)
  obtain ⟨rfl, rfl⟩ := h21741
  refine z_if_eq_f (tgt := 14) b dX11_after_4 (by decide) (by decide) ?_
  refine z_iload_n b dX11_after_7 rfl rfl ?_
  refine z_calli b (z_runS (As := [.int 26]) (st := []) b (c_X9_has_29 S ) cf_X9_has wm_X11_191 ws_X9_has dX11_after_8 rfl (Nat.le_of_ble_eq_true rfl) ⟨by decide, by decide, by decide, by decide⟩) (fun r21745 u21746 h21744 => ?_)
  obtain ⟨rfl, rfl⟩ := h21744
  refine z_if_ne_t (tgt := 16) b dX11_after_11 (by decide) (by decide) ?_
  refine z_aload_n b dX11_after_16 rfl rfl ?_
  refine z_get (q0 := 0) (k9 := 5) (v := .ref (a 16)) b (cw_0 cy tE a rw S) rfl in_X11 (by decide) wf_X11_43 rfl dX11_after_17 ?_
  refine z_aload_n b dX11_after_20 rfl rfl ?_
  refine z_get (q0 := 0) (k9 := 7) (v := .ref (a 35)) b (cw_0 cy tE a rw S) rfl in_X11 (by decide) wf_X11_58 rfl dX11_after_21 ?_
  refine z_iload_n b dX11_after_24 rfl rfl ?_
  refine y_aald (q0 := 35) (t0 := 4) (j := 5) (v := .ref (a 46)) b (cw_35 cy tE a rw S) rfl (by decide) (by rw [hrw 5 (by decide)]; rfl) dX11_after_25 ?_
  refine z_aload_n b dX11_after_26 rfl rfl ?_
  refine z_get (q0 := 0) (k9 := 4) (v := .ref (a 14)) b (cw_0 cy tE a rw S) rfl in_X11 (by decide) wf_X11_34 rfl dX11_after_27 ?_
  refine z_iconst (v := 3) b dX11_after_30 (by decide) ?_
  refine z_iconst (v := 0) b dX11_after_31 (by decide) ?_
  refine z_calli b (z_runV (q0 := 16) (As := [.ref (a 46), .ref (a 14), .int 3, .int 0]) (st := []) b (c_X2_follow_12 S h_i_14 h_i_37) cf_X2_follow (cw_16 cy tE a rw S) rfl wm_X11_184 wi_X2_follow ws_X2_follow dX11_after_32 rfl (Nat.le_of_ble_eq_true rfl) ⟨by decide, by decide, by decide, by decide⟩) (fun r21748 u21749 h21747 => ?_)
  obtain ⟨rfl, rfl⟩ := h21747
  refine z_pop b dX11_after_35 rfl ?_
  refine z_aload_n b dX11_after_36 rfl rfl ?_
  refine z_get (q0 := 0) (k9 := 5) (v := .ref (a 16)) b (cw_0 cy tE a rw (sa S 8 (va_cpy (ar S 4) (ar S 8) 0 0 51))) rfl in_X11 (by decide) wf_X11_43 rfl dX11_after_37 ?_
  refine z_get (q0 := 16) (k9 := 3) (v := .ref (a 23)) b (cw_16 cy tE a rw (sa S 8 (va_cpy (ar S 4) (ar S 8) 0 0 51))) rfl in_X2 (by decide) wf_X11_194 rfl dX11_after_40 ?_
  refine z_iload_n b dX11_after_43 rfl rfl ?_
  refine z_calli b (z_runV (q0 := 23) (As := [.int 26]) (st := []) b (c_X9_get_23 (sa S 8 (va_cpy (ar S 4) (ar S 8) 0 0 51)) h_a_4_26) cf_X9_get (cw_23 cy tE a rw (sa S 8 (va_cpy (ar S 4) (ar S 8) 0 0 51))) rfl wm_X11_197 wi_X9_get ws_X9_get dX11_after_44 rfl (Nat.le_of_ble_eq_true rfl) ⟨by decide, by decide, by decide, by decide⟩) (fun r21751 u21752 h21750 => ?_)
  obtain ⟨rfl, rfl⟩ := h21750
  exact z_iret (u := (sa S 8 (va_cpy (ar S 4) (ar S 8) 0 0 51))) b rfl dX11_after_47 ⟨rfl, rfl⟩ rfl (by decide) (by decide)

set_option maxHeartbeats 4000000 in
set_option maxRecDepth 100000 in
theorem c_X12_after_301 {l : Launch} {D : va_G} {cy : Nat → ClassId} {T0 tB tE : Nat} {a : Nat → Nat} (S : GS)  (h_l_0 : fl S 0 = 1649317774848) (h_a_38_5 : ar S 38 5 = 0) (h_a_4_7 : ar S 4 7 = 0) (h_a_1_7 : ar S 1 7 = 0) (h_a_4_6 : ar S 4 6 = 0) (h_a_1_6 : ar S 1 6 = 0) (h_a_3_6 : ar S 3 6 = 0) (h_a_3_2 : ar S 3 2 = 0) (h_a_2_2 : ar S 2 2 = 3) (h_a_0_2 : ar S 0 2 = 0) (h_a_4_3 : ar S 4 3 = 0) (h_a_1_3 : ar S 1 3 = 0) (h_a_4_5 : ar S 4 5 = 0) (h_a_1_5 : ar S 1 5 = 0) (h_a_3_5 : ar S 3 5 = 0) (h_a_3_7 : ar S 3 7 = 0) (h_a_2_1 : ar S 2 1 = 3) (h_a_0_1 : ar S 0 1 = 0) (h_a_4_2 : ar S 4 2 = 0) (h_a_1_2 : ar S 1 2 = 0) (h_a_4_1 : ar S 4 1 = 0) (h_a_1_1 : ar S 1 1 = 0) (h_a_3_1 : ar S 3 1 = 0) (h_a_3_3 : ar S 3 3 = 0) (h_a_2_0 : ar S 2 0 = 3) (h_a_0_0 : ar S 0 0 = 0) (h_i_0 : fi S 0 = 0) : Ct l D cy T0 tB tE yX12_after cX12_after 4 (some .int) 2 47 0 0 (mw cy a S) [.ref (a 0), .int 5, .int 26] (QI D (U := GS) (fun r u => 0 = r ∧ (si (sl S 2 1649317774848) 24 (-1)) = u) (mw cy a)) := by
  refine Ct.ofZ RX12 "after" [(0, .ref (a 0)), (1, .int 5), (2, .int 26)] rfl rfl rfl rfl (Nat.le_of_ble_eq_true rfl) ?_
  intro p e R s m args below meth c A b
  refine z_iload_n b dX12_after_0 rfl rfl ?_
  refine z_calli b (z_runS (As := [.int 5]) (st := []) b (c_X12_isRow_8 S ) cf_X12_isRow wm_X12_452 ws_X12_isRow dX12_after_1 rfl (Nat.le_of_ble_eq_true rfl) ⟨by decide, by decide, by decide, by decide⟩) (fun r21754 u21755 h21753 => ?_)
  obtain ⟨rfl, rfl⟩ := h21753
  refine z_if_ne_t (tgt := 9) b dX12_after_4 (by decide) (by decide) ?_
  refine z_aload_n b dX12_after_9 rfl rfl ?_
  refine z_iload_n b dX12_after_10 rfl rfl ?_
  refine z_iconst (v := 3) b dX12_after_11 (by decide) ?_
  refine z_iconst (v := 0) b dX12_after_12 (by decide) ?_
  refine z_calli b (z_runV (q0 := 0) (As := [.int 5, .int 3, .int 0]) (st := []) b (c_X12_goes_12 S h_l_0 h_a_38_5) cf_X12_goes (mw_0 cy a S) rfl wm_X12_464 wi_X12_goes ws_X12_goes dX12_after_13 rfl (Nat.le_of_ble_eq_true rfl) ⟨by decide, by decide, by decide, by decide⟩) (fun r21757 u21758 h21756 => ?_)
  obtain ⟨rfl, rfl⟩ := h21756
  refine z_pop b dX12_after_16 rfl ?_
  refine z_aload_n b dX12_after_17 rfl rfl ?_
  refine z_aload_n b dX12_after_18 rfl rfl ?_
  refine z_get (q0 := 0) (k9 := 68) (v := .long 1649317774848) b (mw_0 cy a (si (sl S 2 1649317774848) 24 (-1))) rfl in_X12 (by decide) wf_X12_458 rfl dX12_after_19 ?_
  refine z_callv b (z_runV (q0 := 0) (As := [.long 1649317774848]) (st := []) b (c_X12_takes (si (sl S 2 1649317774848) 24 (-1)) h_a_4_7 h_a_1_7 h_a_4_6 h_a_1_6 h_a_3_6 h_a_3_2 h_a_2_2 h_a_0_2 h_a_4_3 h_a_1_3 h_a_4_5 h_a_1_5 h_a_3_5 h_a_3_7 h_a_2_1 h_a_0_1 h_a_4_2 h_a_1_2 h_a_4_1 h_a_1_1 h_a_3_1 h_a_3_3 h_a_2_0 h_a_0_0 h_i_0) cf_X12_takes (mw_0 cy a (si (sl S 2 1649317774848) 24 (-1))) rfl wm_X12_174 wi_X12_takes ws_X12_takes dX12_after_22 rfl (Nat.le_of_ble_eq_true rfl) ⟨by decide, by decide, by decide, by decide⟩) (fun u21761 h21759 => ?_)
  obtain rfl := h21759
  refine z_iload_n b dX12_after_25 rfl rfl ?_
  refine z_calli b (z_runS (As := [.int 26]) (st := []) b (c_X12_isOne_31 (si (sl S 2 1649317774848) 24 (-1)) ) cf_X12_isOne wm_X12_170 ws_X12_isOne dX12_after_26 rfl (Nat.le_of_ble_eq_true rfl) ⟨by decide, by decide, by decide, by decide⟩) (fun r21763 u21764 h21762 => ?_)
  obtain ⟨rfl, rfl⟩ := h21762
  refine z_if_eq_t (tgt := 39) b dX12_after_29 (by decide) (by decide) ?_
  refine z_iload_n b dX12_after_39 rfl rfl ?_
  refine z_bipush (v := 50) b dX12_after_40 (by decide) ?_
  refine z_icmp_ne_t (tgt := 50) b dX12_after_42 (by decide) (by decide) ?_
  refine z_iload_n b dX12_after_50 rfl rfl ?_
  refine z_bipush (v := 40) b dX12_after_51 (by decide) ?_
  refine z_bipush (v := 42) b dX12_after_53 (by decide) ?_
  refine z_calli b (z_runS (As := [.int 26, .int 40, .int 42]) (st := []) b (c_X12_isIn_138 (si (sl S 2 1649317774848) 24 (-1)) ) cf_X12_isIn wm_X12_1 ws_X12_isIn dX12_after_55 rfl (Nat.le_of_ble_eq_true rfl) ⟨by decide, by decide, by decide, by decide⟩) (fun r21766 u21767 h21765 => ?_)
  obtain ⟨rfl, rfl⟩ := h21765
  refine z_if_eq_t (tgt := 71) b dX12_after_58 (by decide) (by decide) ?_
  refine z_iload_n b dX12_after_71 rfl rfl ?_
  refine z_bipush (v := 10) b dX12_after_72 (by decide) ?_
  refine z_irem (v := 6) b dX12_after_74 (by decide) (by decide) ?_
  refine z_istore_n (lv' := [(3, .int 6), (0, .ref (a 0)), (1, .int 5), (2, .int 26)]) b dX12_after_75 rfl (by decide) rfl ?_
  refine z_iload_n b dX12_after_76 rfl rfl ?_
  refine z_bipush (v := 10) b dX12_after_77 (by decide) ?_
  refine z_bipush (v := 38) b dX12_after_79 (by decide) ?_
  refine z_calli b (z_runS (As := [.int 26, .int 10, .int 38]) (st := []) b (c_X12_isIn_139 (si (sl S 2 1649317774848) 24 (-1)) ) cf_X12_isIn wm_X12_1 ws_X12_isIn dX12_after_81 rfl (Nat.le_of_ble_eq_true rfl) ⟨by decide, by decide, by decide, by decide⟩) (fun r21769 u21770 h21768 => ?_)
  obtain ⟨rfl, rfl⟩ := h21768
  refine z_if_eq_f (tgt := 102) b dX12_after_84 (by decide) (by decide) ?_
  refine z_iload_n b dX12_after_87 rfl rfl ?_
  refine z_bipush (v := 9) b dX12_after_88 (by decide) ?_
  refine z_icmp_eq_f (tgt := 102) b dX12_after_90 (by decide) (by decide) ?_
  refine z_iload_n b dX12_after_93 rfl rfl ?_
  refine z_iconst (v := 3) b dX12_after_94 (by decide) ?_
  refine z_idiv (v := 2) b dX12_after_95 (by decide) (by decide) ?_
  refine z_iload_n b dX12_after_96 rfl rfl ?_
  refine z_iconst (v := 3) b dX12_after_97 (by decide) ?_
  refine z_irem (v := 0) b dX12_after_98 (by decide) (by decide) ?_
  refine z_icmp_ne_t (tgt := 104) b dX12_after_99 (by decide) (by decide) ?_
  refine z_iload_n b dX12_after_104 rfl rfl ?_
  refine z_bipush (v := 20) b dX12_after_105 (by decide) ?_
  refine z_icmp_ge_t (tgt := 119) b dX12_after_107 (by decide) (by decide) ?_
  refine z_iload_n b dX12_after_119 rfl rfl ?_
  refine z_bipush (v := 30) b dX12_after_120 (by decide) ?_
  refine z_icmp_ge_f (tgt := 137) b dX12_after_122 (by decide) (by decide) ?_
  refine z_aload_n b dX12_after_125 rfl rfl ?_
  refine z_get (q0 := 0) (k9 := 3) (v := .ref (a 4)) b (mw_0 cy a (si (sl S 2 1649317774848) 24 (-1))) rfl in_X12 (by decide) wf_X12_23 rfl dX12_after_126 ?_
  refine z_iload_n b dX12_after_129 rfl rfl ?_
  refine y_zald (q0 := 4) (j := 6) (v := (ar (si (sl S 2 1649317774848) 24 (-1)) 3 6)) b (mw_4 cy a (si (sl S 2 1649317774848) 24 (-1))) (by decide) rfl dX12_after_130 ?_
  refine z_eqi h_a_3_6 ?_
  refine z_if_eq_t (tgt := 150) b dX12_after_131 (by decide) (by decide) ?_
  refine z_iconst (v := 0) b dX12_after_150 (by decide) ?_
  exact z_iret (u := (si (sl S 2 1649317774848) 24 (-1))) b rfl dX12_after_151 ⟨rfl, rfl⟩ rfl (by decide) (by decide)

set_option maxHeartbeats 4000000 in
set_option maxRecDepth 100000 in
theorem c_X11_after_302 {l : Launch} {D : va_G} {cy : Nat → ClassId} {T0 tB tE : Nat} {a : Nat → Nat} {rw : Nat → Option Nat} (S : GS)  (h_i_14 : fi S 14 = (-1)) (h_i_37 : fi S 37 = 0) (h_a_4_27 : ar S 4 27 = 0) (hrw : ∀ i, i < 6 → rw i = some (a (36 + 2 * i))) : Ct l D cy T0 tB tE yX11_after cX11_after 3 (some .int) 3 86 0 0 (cw cy tE a rw S) [.ref (a 0), .int 5, .int 27] (QI D (U := GS) (fun r u => 0 = r ∧ (sa S 8 (va_cpy (ar S 4) (ar S 8) 0 0 51)) = u) (cw cy tE a rw)) := by
  refine Ct.ofZ RX11 "after" [(0, .ref (a 0)), (1, .int 5), (2, .int 27)] rfl rfl rfl rfl (Nat.le_of_ble_eq_true rfl) ?_
  intro p e R s m args below meth c A b
  refine z_iload_n b dX11_after_0 rfl rfl ?_
  refine z_calli b (z_runS (As := [.int 5]) (st := []) b (c_X11_isRow_8 S ) cf_X11_isRow wm_X11_169 ws_X11_isRow dX11_after_1 rfl (Nat.le_of_ble_eq_true rfl) ⟨by decide, by decide, by decide, by decide⟩) (fun r21772 u21773 h21771 => ?_)
  obtain ⟨rfl, rfl⟩ := h21771
  refine z_if_eq_f (tgt := 14) b dX11_after_4 (by decide) (by decide) ?_
  refine z_iload_n b dX11_after_7 rfl rfl ?_
  refine z_calli b (z_runS (As := [.int 27]) (st := []) b (c_X9_has_30 S ) cf_X9_has wm_X11_191 ws_X9_has dX11_after_8 rfl (Nat.le_of_ble_eq_true rfl) ⟨by decide, by decide, by decide, by decide⟩) (fun r21775 u21776 h21774 => ?_)
  obtain ⟨rfl, rfl⟩ := h21774
  refine z_if_ne_t (tgt := 16) b dX11_after_11 (by decide) (by decide) ?_
  refine z_aload_n b dX11_after_16 rfl rfl ?_
  refine z_get (q0 := 0) (k9 := 5) (v := .ref (a 16)) b (cw_0 cy tE a rw S) rfl in_X11 (by decide) wf_X11_43 rfl dX11_after_17 ?_
  refine z_aload_n b dX11_after_20 rfl rfl ?_
  refine z_get (q0 := 0) (k9 := 7) (v := .ref (a 35)) b (cw_0 cy tE a rw S) rfl in_X11 (by decide) wf_X11_58 rfl dX11_after_21 ?_
  refine z_iload_n b dX11_after_24 rfl rfl ?_
  refine y_aald (q0 := 35) (t0 := 4) (j := 5) (v := .ref (a 46)) b (cw_35 cy tE a rw S) rfl (by decide) (by rw [hrw 5 (by decide)]; rfl) dX11_after_25 ?_
  refine z_aload_n b dX11_after_26 rfl rfl ?_
  refine z_get (q0 := 0) (k9 := 4) (v := .ref (a 14)) b (cw_0 cy tE a rw S) rfl in_X11 (by decide) wf_X11_34 rfl dX11_after_27 ?_
  refine z_iconst (v := 3) b dX11_after_30 (by decide) ?_
  refine z_iconst (v := 0) b dX11_after_31 (by decide) ?_
  refine z_calli b (z_runV (q0 := 16) (As := [.ref (a 46), .ref (a 14), .int 3, .int 0]) (st := []) b (c_X2_follow_12 S h_i_14 h_i_37) cf_X2_follow (cw_16 cy tE a rw S) rfl wm_X11_184 wi_X2_follow ws_X2_follow dX11_after_32 rfl (Nat.le_of_ble_eq_true rfl) ⟨by decide, by decide, by decide, by decide⟩) (fun r21778 u21779 h21777 => ?_)
  obtain ⟨rfl, rfl⟩ := h21777
  refine z_pop b dX11_after_35 rfl ?_
  refine z_aload_n b dX11_after_36 rfl rfl ?_
  refine z_get (q0 := 0) (k9 := 5) (v := .ref (a 16)) b (cw_0 cy tE a rw (sa S 8 (va_cpy (ar S 4) (ar S 8) 0 0 51))) rfl in_X11 (by decide) wf_X11_43 rfl dX11_after_37 ?_
  refine z_get (q0 := 16) (k9 := 3) (v := .ref (a 23)) b (cw_16 cy tE a rw (sa S 8 (va_cpy (ar S 4) (ar S 8) 0 0 51))) rfl in_X2 (by decide) wf_X11_194 rfl dX11_after_40 ?_
  refine z_iload_n b dX11_after_43 rfl rfl ?_
  refine z_calli b (z_runV (q0 := 23) (As := [.int 27]) (st := []) b (c_X9_get_24 (sa S 8 (va_cpy (ar S 4) (ar S 8) 0 0 51)) h_a_4_27) cf_X9_get (cw_23 cy tE a rw (sa S 8 (va_cpy (ar S 4) (ar S 8) 0 0 51))) rfl wm_X11_197 wi_X9_get ws_X9_get dX11_after_44 rfl (Nat.le_of_ble_eq_true rfl) ⟨by decide, by decide, by decide, by decide⟩) (fun r21781 u21782 h21780 => ?_)
  obtain ⟨rfl, rfl⟩ := h21780
  exact z_iret (u := (sa S 8 (va_cpy (ar S 4) (ar S 8) 0 0 51))) b rfl dX11_after_47 ⟨rfl, rfl⟩ rfl (by decide) (by decide)

set_option maxHeartbeats 4000000 in
set_option maxRecDepth 100000 in
theorem c_X12_after_302 {l : Launch} {D : va_G} {cy : Nat → ClassId} {T0 tB tE : Nat} {a : Nat → Nat} (S : GS)  (h_l_0 : fl S 0 = 1649317774848) (h_a_38_5 : ar S 38 5 = 0) (h_a_4_7 : ar S 4 7 = 0) (h_a_1_7 : ar S 1 7 = 0) (h_a_4_6 : ar S 4 6 = 0) (h_a_1_6 : ar S 1 6 = 0) (h_a_3_6 : ar S 3 6 = 0) (h_a_3_2 : ar S 3 2 = 0) (h_a_2_2 : ar S 2 2 = 3) (h_a_0_2 : ar S 0 2 = 0) (h_a_4_3 : ar S 4 3 = 0) (h_a_1_3 : ar S 1 3 = 0) (h_a_4_5 : ar S 4 5 = 0) (h_a_1_5 : ar S 1 5 = 0) (h_a_3_5 : ar S 3 5 = 0) (h_a_3_7 : ar S 3 7 = 0) (h_a_2_1 : ar S 2 1 = 3) (h_a_0_1 : ar S 0 1 = 0) (h_a_4_2 : ar S 4 2 = 0) (h_a_1_2 : ar S 1 2 = 0) (h_a_4_1 : ar S 4 1 = 0) (h_a_1_1 : ar S 1 1 = 0) (h_a_3_1 : ar S 3 1 = 0) (h_a_3_3 : ar S 3 3 = 0) (h_a_2_0 : ar S 2 0 = 3) (h_a_0_0 : ar S 0 0 = 0) (h_i_0 : fi S 0 = 0) : Ct l D cy T0 tB tE yX12_after cX12_after 4 (some .int) 2 47 0 0 (mw cy a S) [.ref (a 0), .int 5, .int 27] (QI D (U := GS) (fun r u => 0 = r ∧ (si (sl S 2 1649317774848) 24 (-1)) = u) (mw cy a)) := by
  refine Ct.ofZ RX12 "after" [(0, .ref (a 0)), (1, .int 5), (2, .int 27)] rfl rfl rfl rfl (Nat.le_of_ble_eq_true rfl) ?_
  intro p e R s m args below meth c A b
  refine z_iload_n b dX12_after_0 rfl rfl ?_
  refine z_calli b (z_runS (As := [.int 5]) (st := []) b (c_X12_isRow_8 S ) cf_X12_isRow wm_X12_452 ws_X12_isRow dX12_after_1 rfl (Nat.le_of_ble_eq_true rfl) ⟨by decide, by decide, by decide, by decide⟩) (fun r21784 u21785 h21783 => ?_)
  obtain ⟨rfl, rfl⟩ := h21783
  refine z_if_ne_t (tgt := 9) b dX12_after_4 (by decide) (by decide) ?_
  refine z_aload_n b dX12_after_9 rfl rfl ?_
  refine z_iload_n b dX12_after_10 rfl rfl ?_
  refine z_iconst (v := 3) b dX12_after_11 (by decide) ?_
  refine z_iconst (v := 0) b dX12_after_12 (by decide) ?_
  refine z_calli b (z_runV (q0 := 0) (As := [.int 5, .int 3, .int 0]) (st := []) b (c_X12_goes_12 S h_l_0 h_a_38_5) cf_X12_goes (mw_0 cy a S) rfl wm_X12_464 wi_X12_goes ws_X12_goes dX12_after_13 rfl (Nat.le_of_ble_eq_true rfl) ⟨by decide, by decide, by decide, by decide⟩) (fun r21787 u21788 h21786 => ?_)
  obtain ⟨rfl, rfl⟩ := h21786
  refine z_pop b dX12_after_16 rfl ?_
  refine z_aload_n b dX12_after_17 rfl rfl ?_
  refine z_aload_n b dX12_after_18 rfl rfl ?_
  refine z_get (q0 := 0) (k9 := 68) (v := .long 1649317774848) b (mw_0 cy a (si (sl S 2 1649317774848) 24 (-1))) rfl in_X12 (by decide) wf_X12_458 rfl dX12_after_19 ?_
  refine z_callv b (z_runV (q0 := 0) (As := [.long 1649317774848]) (st := []) b (c_X12_takes (si (sl S 2 1649317774848) 24 (-1)) h_a_4_7 h_a_1_7 h_a_4_6 h_a_1_6 h_a_3_6 h_a_3_2 h_a_2_2 h_a_0_2 h_a_4_3 h_a_1_3 h_a_4_5 h_a_1_5 h_a_3_5 h_a_3_7 h_a_2_1 h_a_0_1 h_a_4_2 h_a_1_2 h_a_4_1 h_a_1_1 h_a_3_1 h_a_3_3 h_a_2_0 h_a_0_0 h_i_0) cf_X12_takes (mw_0 cy a (si (sl S 2 1649317774848) 24 (-1))) rfl wm_X12_174 wi_X12_takes ws_X12_takes dX12_after_22 rfl (Nat.le_of_ble_eq_true rfl) ⟨by decide, by decide, by decide, by decide⟩) (fun u21791 h21789 => ?_)
  obtain rfl := h21789
  refine z_iload_n b dX12_after_25 rfl rfl ?_
  refine z_calli b (z_runS (As := [.int 27]) (st := []) b (c_X12_isOne_32 (si (sl S 2 1649317774848) 24 (-1)) ) cf_X12_isOne wm_X12_170 ws_X12_isOne dX12_after_26 rfl (Nat.le_of_ble_eq_true rfl) ⟨by decide, by decide, by decide, by decide⟩) (fun r21793 u21794 h21792 => ?_)
  obtain ⟨rfl, rfl⟩ := h21792
  refine z_if_eq_t (tgt := 39) b dX12_after_29 (by decide) (by decide) ?_
  refine z_iload_n b dX12_after_39 rfl rfl ?_
  refine z_bipush (v := 50) b dX12_after_40 (by decide) ?_
  refine z_icmp_ne_t (tgt := 50) b dX12_after_42 (by decide) (by decide) ?_
  refine z_iload_n b dX12_after_50 rfl rfl ?_
  refine z_bipush (v := 40) b dX12_after_51 (by decide) ?_
  refine z_bipush (v := 42) b dX12_after_53 (by decide) ?_
  refine z_calli b (z_runS (As := [.int 27, .int 40, .int 42]) (st := []) b (c_X12_isIn_141 (si (sl S 2 1649317774848) 24 (-1)) ) cf_X12_isIn wm_X12_1 ws_X12_isIn dX12_after_55 rfl (Nat.le_of_ble_eq_true rfl) ⟨by decide, by decide, by decide, by decide⟩) (fun r21796 u21797 h21795 => ?_)
  obtain ⟨rfl, rfl⟩ := h21795
  refine z_if_eq_t (tgt := 71) b dX12_after_58 (by decide) (by decide) ?_
  refine z_iload_n b dX12_after_71 rfl rfl ?_
  refine z_bipush (v := 10) b dX12_after_72 (by decide) ?_
  refine z_irem (v := 7) b dX12_after_74 (by decide) (by decide) ?_
  refine z_istore_n (lv' := [(3, .int 7), (0, .ref (a 0)), (1, .int 5), (2, .int 27)]) b dX12_after_75 rfl (by decide) rfl ?_
  refine z_iload_n b dX12_after_76 rfl rfl ?_
  refine z_bipush (v := 10) b dX12_after_77 (by decide) ?_
  refine z_bipush (v := 38) b dX12_after_79 (by decide) ?_
  refine z_calli b (z_runS (As := [.int 27, .int 10, .int 38]) (st := []) b (c_X12_isIn_142 (si (sl S 2 1649317774848) 24 (-1)) ) cf_X12_isIn wm_X12_1 ws_X12_isIn dX12_after_81 rfl (Nat.le_of_ble_eq_true rfl) ⟨by decide, by decide, by decide, by decide⟩) (fun r21799 u21800 h21798 => ?_)
  obtain ⟨rfl, rfl⟩ := h21798
  refine z_if_eq_f (tgt := 102) b dX12_after_84 (by decide) (by decide) ?_
  refine z_iload_n b dX12_after_87 rfl rfl ?_
  refine z_bipush (v := 9) b dX12_after_88 (by decide) ?_
  refine z_icmp_eq_f (tgt := 102) b dX12_after_90 (by decide) (by decide) ?_
  refine z_iload_n b dX12_after_93 rfl rfl ?_
  refine z_iconst (v := 3) b dX12_after_94 (by decide) ?_
  refine z_idiv (v := 2) b dX12_after_95 (by decide) (by decide) ?_
  refine z_iload_n b dX12_after_96 rfl rfl ?_
  refine z_iconst (v := 3) b dX12_after_97 (by decide) ?_
  refine z_irem (v := 1) b dX12_after_98 (by decide) (by decide) ?_
  refine z_icmp_ne_t (tgt := 104) b dX12_after_99 (by decide) (by decide) ?_
  refine z_iload_n b dX12_after_104 rfl rfl ?_
  refine z_bipush (v := 20) b dX12_after_105 (by decide) ?_
  refine z_icmp_ge_t (tgt := 119) b dX12_after_107 (by decide) (by decide) ?_
  refine z_iload_n b dX12_after_119 rfl rfl ?_
  refine z_bipush (v := 30) b dX12_after_120 (by decide) ?_
  refine z_icmp_ge_f (tgt := 137) b dX12_after_122 (by decide) (by decide) ?_
  refine z_aload_n b dX12_after_125 rfl rfl ?_
  refine z_get (q0 := 0) (k9 := 3) (v := .ref (a 4)) b (mw_0 cy a (si (sl S 2 1649317774848) 24 (-1))) rfl in_X12 (by decide) wf_X12_23 rfl dX12_after_126 ?_
  refine z_iload_n b dX12_after_129 rfl rfl ?_
  refine y_zald (q0 := 4) (j := 7) (v := (ar (si (sl S 2 1649317774848) 24 (-1)) 3 7)) b (mw_4 cy a (si (sl S 2 1649317774848) 24 (-1))) (by decide) rfl dX12_after_130 ?_
  refine z_eqi h_a_3_7 ?_
  refine z_if_eq_t (tgt := 150) b dX12_after_131 (by decide) (by decide) ?_
  refine z_iconst (v := 0) b dX12_after_150 (by decide) ?_
  exact z_iret (u := (si (sl S 2 1649317774848) 24 (-1))) b rfl dX12_after_151 ⟨rfl, rfl⟩ rfl (by decide) (by decide)

set_option maxHeartbeats 4000000 in
set_option maxRecDepth 100000 in
theorem c_X11_after_303 {l : Launch} {D : va_G} {cy : Nat → ClassId} {T0 tB tE : Nat} {a : Nat → Nat} {rw : Nat → Option Nat} (S : GS)   : Ct l D cy T0 tB tE yX11_after cX11_after 3 (some .int) 3 62 0 0 (cw cy tE a rw S) [.ref (a 0), .int 5, .int 28] (QI D (U := GS) (fun r u => (-1) = r ∧ S = u) (cw cy tE a rw)) := by
  refine Ct.ofZ RX11 "after" [(0, .ref (a 0)), (1, .int 5), (2, .int 28)] rfl rfl rfl rfl (Nat.le_of_ble_eq_true rfl) ?_
  intro p e R s m args below meth c A b
  refine z_iload_n b dX11_after_0 rfl rfl ?_
  refine z_calli b (z_runS (As := [.int 5]) (st := []) b (c_X11_isRow_8 S ) cf_X11_isRow wm_X11_169 ws_X11_isRow dX11_after_1 rfl (Nat.le_of_ble_eq_true rfl) ⟨by decide, by decide, by decide, by decide⟩) (fun r21802 u21803 h21801 => ?_)
  obtain ⟨rfl, rfl⟩ := h21801
  refine z_if_eq_f (tgt := 14) b dX11_after_4 (by decide) (by decide) ?_
  refine z_iload_n b dX11_after_7 rfl rfl ?_
  refine z_calli b (z_runS (As := [.int 28]) (st := []) b (c_X9_has_31 S ) cf_X9_has wm_X11_191 ws_X9_has dX11_after_8 rfl (Nat.le_of_ble_eq_true rfl) ⟨by decide, by decide, by decide, by decide⟩) (fun r21805 u21806 h21804 => ?_)
  obtain ⟨rfl, rfl⟩ := h21804
  refine z_if_ne_f (tgt := 16) b dX11_after_11 (by decide) (by decide) ?_
  refine z_iconst (v := (-1)) b dX11_after_14 (by decide) ?_
  exact z_iret (u := S) b rfl dX11_after_15 ⟨rfl, rfl⟩ rfl (by decide) (by decide)

set_option maxHeartbeats 4000000 in
set_option maxRecDepth 100000 in
theorem c_X12_after_303 {l : Launch} {D : va_G} {cy : Nat → ClassId} {T0 tB tE : Nat} {a : Nat → Nat} (S : GS)  (h_l_0 : fl S 0 = 1649317774848) (h_a_38_5 : ar S 38 5 = 0) (h_a_4_7 : ar S 4 7 = 0) (h_a_1_7 : ar S 1 7 = 0) (h_a_4_6 : ar S 4 6 = 0) (h_a_1_6 : ar S 1 6 = 0) (h_a_3_6 : ar S 3 6 = 0) (h_a_3_2 : ar S 3 2 = 0) (h_a_2_2 : ar S 2 2 = 3) (h_a_0_2 : ar S 0 2 = 0) (h_a_4_3 : ar S 4 3 = 0) (h_a_1_3 : ar S 1 3 = 0) (h_a_4_5 : ar S 4 5 = 0) (h_a_1_5 : ar S 1 5 = 0) (h_a_3_5 : ar S 3 5 = 0) (h_a_3_7 : ar S 3 7 = 0) (h_a_2_1 : ar S 2 1 = 3) (h_a_0_1 : ar S 0 1 = 0) (h_a_4_2 : ar S 4 2 = 0) (h_a_1_2 : ar S 1 2 = 0) (h_a_4_1 : ar S 4 1 = 0) (h_a_1_1 : ar S 1 1 = 0) (h_a_3_1 : ar S 3 1 = 0) (h_a_3_3 : ar S 3 3 = 0) (h_a_2_0 : ar S 2 0 = 3) (h_a_0_0 : ar S 0 0 = 0) (h_i_0 : fi S 0 = 0) : Ct l D cy T0 tB tE yX12_after cX12_after 4 (some .int) 2 47 0 0 (mw cy a S) [.ref (a 0), .int 5, .int 28] (QI D (U := GS) (fun r u => (-1) = r ∧ (si (sl S 2 1649317774848) 24 (-1)) = u) (mw cy a)) := by
  refine Ct.ofZ RX12 "after" [(0, .ref (a 0)), (1, .int 5), (2, .int 28)] rfl rfl rfl rfl (Nat.le_of_ble_eq_true rfl) ?_
  intro p e R s m args below meth c A b
  refine z_iload_n b dX12_after_0 rfl rfl ?_
  refine z_calli b (z_runS (As := [.int 5]) (st := []) b (c_X12_isRow_8 S ) cf_X12_isRow wm_X12_452 ws_X12_isRow dX12_after_1 rfl (Nat.le_of_ble_eq_true rfl) ⟨by decide, by decide, by decide, by decide⟩) (fun r21808 u21809 h21807 => ?_)
  obtain ⟨rfl, rfl⟩ := h21807
  refine z_if_ne_t (tgt := 9) b dX12_after_4 (by decide) (by decide) ?_
  refine z_aload_n b dX12_after_9 rfl rfl ?_
  refine z_iload_n b dX12_after_10 rfl rfl ?_
  refine z_iconst (v := 3) b dX12_after_11 (by decide) ?_
  refine z_iconst (v := 0) b dX12_after_12 (by decide) ?_
  refine z_calli b (z_runV (q0 := 0) (As := [.int 5, .int 3, .int 0]) (st := []) b (c_X12_goes_12 S h_l_0 h_a_38_5) cf_X12_goes (mw_0 cy a S) rfl wm_X12_464 wi_X12_goes ws_X12_goes dX12_after_13 rfl (Nat.le_of_ble_eq_true rfl) ⟨by decide, by decide, by decide, by decide⟩) (fun r21811 u21812 h21810 => ?_)
  obtain ⟨rfl, rfl⟩ := h21810
  refine z_pop b dX12_after_16 rfl ?_
  refine z_aload_n b dX12_after_17 rfl rfl ?_
  refine z_aload_n b dX12_after_18 rfl rfl ?_
  refine z_get (q0 := 0) (k9 := 68) (v := .long 1649317774848) b (mw_0 cy a (si (sl S 2 1649317774848) 24 (-1))) rfl in_X12 (by decide) wf_X12_458 rfl dX12_after_19 ?_
  refine z_callv b (z_runV (q0 := 0) (As := [.long 1649317774848]) (st := []) b (c_X12_takes (si (sl S 2 1649317774848) 24 (-1)) h_a_4_7 h_a_1_7 h_a_4_6 h_a_1_6 h_a_3_6 h_a_3_2 h_a_2_2 h_a_0_2 h_a_4_3 h_a_1_3 h_a_4_5 h_a_1_5 h_a_3_5 h_a_3_7 h_a_2_1 h_a_0_1 h_a_4_2 h_a_1_2 h_a_4_1 h_a_1_1 h_a_3_1 h_a_3_3 h_a_2_0 h_a_0_0 h_i_0) cf_X12_takes (mw_0 cy a (si (sl S 2 1649317774848) 24 (-1))) rfl wm_X12_174 wi_X12_takes ws_X12_takes dX12_after_22 rfl (Nat.le_of_ble_eq_true rfl) ⟨by decide, by decide, by decide, by decide⟩) (fun u21815 h21813 => ?_)
  obtain rfl := h21813
  refine z_iload_n b dX12_after_25 rfl rfl ?_
  refine z_calli b (z_runS (As := [.int 28]) (st := []) b (c_X12_isOne_33 (si (sl S 2 1649317774848) 24 (-1)) ) cf_X12_isOne wm_X12_170 ws_X12_isOne dX12_after_26 rfl (Nat.le_of_ble_eq_true rfl) ⟨by decide, by decide, by decide, by decide⟩) (fun r21817 u21818 h21816 => ?_)
  obtain ⟨rfl, rfl⟩ := h21816
  refine z_if_eq_t (tgt := 39) b dX12_after_29 (by decide) (by decide) ?_
  refine z_iload_n b dX12_after_39 rfl rfl ?_
  refine z_bipush (v := 50) b dX12_after_40 (by decide) ?_
  refine z_icmp_ne_t (tgt := 50) b dX12_after_42 (by decide) (by decide) ?_
  refine z_iload_n b dX12_after_50 rfl rfl ?_
  refine z_bipush (v := 40) b dX12_after_51 (by decide) ?_
  refine z_bipush (v := 42) b dX12_after_53 (by decide) ?_
  refine z_calli b (z_runS (As := [.int 28, .int 40, .int 42]) (st := []) b (c_X12_isIn_144 (si (sl S 2 1649317774848) 24 (-1)) ) cf_X12_isIn wm_X12_1 ws_X12_isIn dX12_after_55 rfl (Nat.le_of_ble_eq_true rfl) ⟨by decide, by decide, by decide, by decide⟩) (fun r21820 u21821 h21819 => ?_)
  obtain ⟨rfl, rfl⟩ := h21819
  refine z_if_eq_t (tgt := 71) b dX12_after_58 (by decide) (by decide) ?_
  refine z_iload_n b dX12_after_71 rfl rfl ?_
  refine z_bipush (v := 10) b dX12_after_72 (by decide) ?_
  refine z_irem (v := 8) b dX12_after_74 (by decide) (by decide) ?_
  refine z_istore_n (lv' := [(3, .int 8), (0, .ref (a 0)), (1, .int 5), (2, .int 28)]) b dX12_after_75 rfl (by decide) rfl ?_
  refine z_iload_n b dX12_after_76 rfl rfl ?_
  refine z_bipush (v := 10) b dX12_after_77 (by decide) ?_
  refine z_bipush (v := 38) b dX12_after_79 (by decide) ?_
  refine z_calli b (z_runS (As := [.int 28, .int 10, .int 38]) (st := []) b (c_X12_isIn_145 (si (sl S 2 1649317774848) 24 (-1)) ) cf_X12_isIn wm_X12_1 ws_X12_isIn dX12_after_81 rfl (Nat.le_of_ble_eq_true rfl) ⟨by decide, by decide, by decide, by decide⟩) (fun r21823 u21824 h21822 => ?_)
  obtain ⟨rfl, rfl⟩ := h21822
  refine z_if_eq_f (tgt := 102) b dX12_after_84 (by decide) (by decide) ?_
  refine z_iload_n b dX12_after_87 rfl rfl ?_
  refine z_bipush (v := 9) b dX12_after_88 (by decide) ?_
  refine z_icmp_eq_f (tgt := 102) b dX12_after_90 (by decide) (by decide) ?_
  refine z_iload_n b dX12_after_93 rfl rfl ?_
  refine z_iconst (v := 3) b dX12_after_94 (by decide) ?_
  refine z_idiv (v := 2) b dX12_after_95 (by decide) (by decide) ?_
  refine z_iload_n b dX12_after_96 rfl rfl ?_
  refine z_iconst (v := 3) b dX12_after_97 (by decide) ?_
  refine z_irem (v := 2) b dX12_after_98 (by decide) (by decide) ?_
  refine z_icmp_ne_f (tgt := 104) b dX12_after_99 (by decide) (by decide) ?_
  refine z_iconst (v := (-1)) b dX12_after_102 (by decide) ?_
  exact z_iret (u := (si (sl S 2 1649317774848) 24 (-1))) b rfl dX12_after_103 ⟨rfl, rfl⟩ rfl (by decide) (by decide)

set_option maxHeartbeats 4000000 in
set_option maxRecDepth 100000 in
theorem c_X11_after_304 {l : Launch} {D : va_G} {cy : Nat → ClassId} {T0 tB tE : Nat} {a : Nat → Nat} {rw : Nat → Option Nat} (S : GS)   : Ct l D cy T0 tB tE yX11_after cX11_after 3 (some .int) 3 62 0 0 (cw cy tE a rw S) [.ref (a 0), .int 5, .int 29] (QI D (U := GS) (fun r u => (-1) = r ∧ S = u) (cw cy tE a rw)) := by
  refine Ct.ofZ RX11 "after" [(0, .ref (a 0)), (1, .int 5), (2, .int 29)] rfl rfl rfl rfl (Nat.le_of_ble_eq_true rfl) ?_
  intro p e R s m args below meth c A b
  refine z_iload_n b dX11_after_0 rfl rfl ?_
  refine z_calli b (z_runS (As := [.int 5]) (st := []) b (c_X11_isRow_8 S ) cf_X11_isRow wm_X11_169 ws_X11_isRow dX11_after_1 rfl (Nat.le_of_ble_eq_true rfl) ⟨by decide, by decide, by decide, by decide⟩) (fun r21826 u21827 h21825 => ?_)
  obtain ⟨rfl, rfl⟩ := h21825
  refine z_if_eq_f (tgt := 14) b dX11_after_4 (by decide) (by decide) ?_
  refine z_iload_n b dX11_after_7 rfl rfl ?_
  refine z_calli b (z_runS (As := [.int 29]) (st := []) b (c_X9_has_32 S ) cf_X9_has wm_X11_191 ws_X9_has dX11_after_8 rfl (Nat.le_of_ble_eq_true rfl) ⟨by decide, by decide, by decide, by decide⟩) (fun r21829 u21830 h21828 => ?_)
  obtain ⟨rfl, rfl⟩ := h21828
  refine z_if_ne_f (tgt := 16) b dX11_after_11 (by decide) (by decide) ?_
  refine z_iconst (v := (-1)) b dX11_after_14 (by decide) ?_
  exact z_iret (u := S) b rfl dX11_after_15 ⟨rfl, rfl⟩ rfl (by decide) (by decide)

set_option maxHeartbeats 4000000 in
set_option maxRecDepth 100000 in
theorem c_X12_after_304 {l : Launch} {D : va_G} {cy : Nat → ClassId} {T0 tB tE : Nat} {a : Nat → Nat} (S : GS)  (h_l_0 : fl S 0 = 1649317774848) (h_a_38_5 : ar S 38 5 = 0) (h_a_4_7 : ar S 4 7 = 0) (h_a_1_7 : ar S 1 7 = 0) (h_a_4_6 : ar S 4 6 = 0) (h_a_1_6 : ar S 1 6 = 0) (h_a_3_6 : ar S 3 6 = 0) (h_a_3_2 : ar S 3 2 = 0) (h_a_2_2 : ar S 2 2 = 3) (h_a_0_2 : ar S 0 2 = 0) (h_a_4_3 : ar S 4 3 = 0) (h_a_1_3 : ar S 1 3 = 0) (h_a_4_5 : ar S 4 5 = 0) (h_a_1_5 : ar S 1 5 = 0) (h_a_3_5 : ar S 3 5 = 0) (h_a_3_7 : ar S 3 7 = 0) (h_a_2_1 : ar S 2 1 = 3) (h_a_0_1 : ar S 0 1 = 0) (h_a_4_2 : ar S 4 2 = 0) (h_a_1_2 : ar S 1 2 = 0) (h_a_4_1 : ar S 4 1 = 0) (h_a_1_1 : ar S 1 1 = 0) (h_a_3_1 : ar S 3 1 = 0) (h_a_3_3 : ar S 3 3 = 0) (h_a_2_0 : ar S 2 0 = 3) (h_a_0_0 : ar S 0 0 = 0) (h_i_0 : fi S 0 = 0) : Ct l D cy T0 tB tE yX12_after cX12_after 4 (some .int) 2 47 0 0 (mw cy a S) [.ref (a 0), .int 5, .int 29] (QI D (U := GS) (fun r u => (-1) = r ∧ (si (sl S 2 1649317774848) 24 (-1)) = u) (mw cy a)) := by
  refine Ct.ofZ RX12 "after" [(0, .ref (a 0)), (1, .int 5), (2, .int 29)] rfl rfl rfl rfl (Nat.le_of_ble_eq_true rfl) ?_
  intro p e R s m args below meth c A b
  refine z_iload_n b dX12_after_0 rfl rfl ?_
  refine z_calli b (z_runS (As := [.int 5]) (st := []) b (c_X12_isRow_8 S ) cf_X12_isRow wm_X12_452 ws_X12_isRow dX12_after_1 rfl (Nat.le_of_ble_eq_true rfl) ⟨by decide, by decide, by decide, by decide⟩) (fun r21832 u21833 h21831 => ?_)
  obtain ⟨rfl, rfl⟩ := h21831
  refine z_if_ne_t (tgt := 9) b dX12_after_4 (by decide) (by decide) ?_
  refine z_aload_n b dX12_after_9 rfl rfl ?_
  refine z_iload_n b dX12_after_10 rfl rfl ?_
  refine z_iconst (v := 3) b dX12_after_11 (by decide) ?_
  refine z_iconst (v := 0) b dX12_after_12 (by decide) ?_
  refine z_calli b (z_runV (q0 := 0) (As := [.int 5, .int 3, .int 0]) (st := []) b (c_X12_goes_12 S h_l_0 h_a_38_5) cf_X12_goes (mw_0 cy a S) rfl wm_X12_464 wi_X12_goes ws_X12_goes dX12_after_13 rfl (Nat.le_of_ble_eq_true rfl) ⟨by decide, by decide, by decide, by decide⟩) (fun r21835 u21836 h21834 => ?_)
  obtain ⟨rfl, rfl⟩ := h21834
  refine z_pop b dX12_after_16 rfl ?_
  refine z_aload_n b dX12_after_17 rfl rfl ?_
  refine z_aload_n b dX12_after_18 rfl rfl ?_
  refine z_get (q0 := 0) (k9 := 68) (v := .long 1649317774848) b (mw_0 cy a (si (sl S 2 1649317774848) 24 (-1))) rfl in_X12 (by decide) wf_X12_458 rfl dX12_after_19 ?_
  refine z_callv b (z_runV (q0 := 0) (As := [.long 1649317774848]) (st := []) b (c_X12_takes (si (sl S 2 1649317774848) 24 (-1)) h_a_4_7 h_a_1_7 h_a_4_6 h_a_1_6 h_a_3_6 h_a_3_2 h_a_2_2 h_a_0_2 h_a_4_3 h_a_1_3 h_a_4_5 h_a_1_5 h_a_3_5 h_a_3_7 h_a_2_1 h_a_0_1 h_a_4_2 h_a_1_2 h_a_4_1 h_a_1_1 h_a_3_1 h_a_3_3 h_a_2_0 h_a_0_0 h_i_0) cf_X12_takes (mw_0 cy a (si (sl S 2 1649317774848) 24 (-1))) rfl wm_X12_174 wi_X12_takes ws_X12_takes dX12_after_22 rfl (Nat.le_of_ble_eq_true rfl) ⟨by decide, by decide, by decide, by decide⟩) (fun u21839 h21837 => ?_)
  obtain rfl := h21837
  refine z_iload_n b dX12_after_25 rfl rfl ?_
  refine z_calli b (z_runS (As := [.int 29]) (st := []) b (c_X12_isOne_34 (si (sl S 2 1649317774848) 24 (-1)) ) cf_X12_isOne wm_X12_170 ws_X12_isOne dX12_after_26 rfl (Nat.le_of_ble_eq_true rfl) ⟨by decide, by decide, by decide, by decide⟩) (fun r21841 u21842 h21840 => ?_)
  obtain ⟨rfl, rfl⟩ := h21840
  refine z_if_eq_t (tgt := 39) b dX12_after_29 (by decide) (by decide) ?_
  refine z_iload_n b dX12_after_39 rfl rfl ?_
  refine z_bipush (v := 50) b dX12_after_40 (by decide) ?_
  refine z_icmp_ne_t (tgt := 50) b dX12_after_42 (by decide) (by decide) ?_
  refine z_iload_n b dX12_after_50 rfl rfl ?_
  refine z_bipush (v := 40) b dX12_after_51 (by decide) ?_
  refine z_bipush (v := 42) b dX12_after_53 (by decide) ?_
  refine z_calli b (z_runS (As := [.int 29, .int 40, .int 42]) (st := []) b (c_X12_isIn_147 (si (sl S 2 1649317774848) 24 (-1)) ) cf_X12_isIn wm_X12_1 ws_X12_isIn dX12_after_55 rfl (Nat.le_of_ble_eq_true rfl) ⟨by decide, by decide, by decide, by decide⟩) (fun r21844 u21845 h21843 => ?_)
  obtain ⟨rfl, rfl⟩ := h21843
  refine z_if_eq_t (tgt := 71) b dX12_after_58 (by decide) (by decide) ?_
  refine z_iload_n b dX12_after_71 rfl rfl ?_
  refine z_bipush (v := 10) b dX12_after_72 (by decide) ?_
  refine z_irem (v := 9) b dX12_after_74 (by decide) (by decide) ?_
  refine z_istore_n (lv' := [(3, .int 9), (0, .ref (a 0)), (1, .int 5), (2, .int 29)]) b dX12_after_75 rfl (by decide) rfl ?_
  refine z_iload_n b dX12_after_76 rfl rfl ?_
  refine z_bipush (v := 10) b dX12_after_77 (by decide) ?_
  refine z_bipush (v := 38) b dX12_after_79 (by decide) ?_
  refine z_calli b (z_runS (As := [.int 29, .int 10, .int 38]) (st := []) b (c_X12_isIn_148 (si (sl S 2 1649317774848) 24 (-1)) ) cf_X12_isIn wm_X12_1 ws_X12_isIn dX12_after_81 rfl (Nat.le_of_ble_eq_true rfl) ⟨by decide, by decide, by decide, by decide⟩) (fun r21847 u21848 h21846 => ?_)
  obtain ⟨rfl, rfl⟩ := h21846
  refine z_if_eq_f (tgt := 102) b dX12_after_84 (by decide) (by decide) ?_
  refine z_iload_n b dX12_after_87 rfl rfl ?_
  refine z_bipush (v := 9) b dX12_after_88 (by decide) ?_
  refine z_icmp_eq_t (tgt := 102) b dX12_after_90 (by decide) (by decide) ?_
  refine z_iconst (v := (-1)) b dX12_after_102 (by decide) ?_
  exact z_iret (u := (si (sl S 2 1649317774848) 24 (-1))) b rfl dX12_after_103 ⟨rfl, rfl⟩ rfl (by decide) (by decide)

set_option maxHeartbeats 4000000 in
set_option maxRecDepth 100000 in
theorem c_X11_after_305 {l : Launch} {D : va_G} {cy : Nat → ClassId} {T0 tB tE : Nat} {a : Nat → Nat} {rw : Nat → Option Nat} (S : GS)   : Ct l D cy T0 tB tE yX11_after cX11_after 3 (some .int) 3 62 0 0 (cw cy tE a rw S) [.ref (a 0), .int 5, .int 30] (QI D (U := GS) (fun r u => (-1) = r ∧ S = u) (cw cy tE a rw)) := by
  refine Ct.ofZ RX11 "after" [(0, .ref (a 0)), (1, .int 5), (2, .int 30)] rfl rfl rfl rfl (Nat.le_of_ble_eq_true rfl) ?_
  intro p e R s m args below meth c A b
  refine z_iload_n b dX11_after_0 rfl rfl ?_
  refine z_calli b (z_runS (As := [.int 5]) (st := []) b (c_X11_isRow_8 S ) cf_X11_isRow wm_X11_169 ws_X11_isRow dX11_after_1 rfl (Nat.le_of_ble_eq_true rfl) ⟨by decide, by decide, by decide, by decide⟩) (fun r21850 u21851 h21849 => ?_)
  obtain ⟨rfl, rfl⟩ := h21849
  refine z_if_eq_f (tgt := 14) b dX11_after_4 (by decide) (by decide) ?_
  refine z_iload_n b dX11_after_7 rfl rfl ?_
  refine z_calli b (z_runS (As := [.int 30]) (st := []) b (c_X9_has_33 S ) cf_X9_has wm_X11_191 ws_X9_has dX11_after_8 rfl (Nat.le_of_ble_eq_true rfl) ⟨by decide, by decide, by decide, by decide⟩) (fun r21853 u21854 h21852 => ?_)
  obtain ⟨rfl, rfl⟩ := h21852
  refine z_if_ne_f (tgt := 16) b dX11_after_11 (by decide) (by decide) ?_
  refine z_iconst (v := (-1)) b dX11_after_14 (by decide) ?_
  exact z_iret (u := S) b rfl dX11_after_15 ⟨rfl, rfl⟩ rfl (by decide) (by decide)

set_option maxHeartbeats 4000000 in
set_option maxRecDepth 100000 in
theorem c_X12_after_305 {l : Launch} {D : va_G} {cy : Nat → ClassId} {T0 tB tE : Nat} {a : Nat → Nat} (S : GS)  (h_l_0 : fl S 0 = 1649317774848) (h_a_38_5 : ar S 38 5 = 0) (h_a_4_7 : ar S 4 7 = 0) (h_a_1_7 : ar S 1 7 = 0) (h_a_4_6 : ar S 4 6 = 0) (h_a_1_6 : ar S 1 6 = 0) (h_a_3_6 : ar S 3 6 = 0) (h_a_3_2 : ar S 3 2 = 0) (h_a_2_2 : ar S 2 2 = 3) (h_a_0_2 : ar S 0 2 = 0) (h_a_4_3 : ar S 4 3 = 0) (h_a_1_3 : ar S 1 3 = 0) (h_a_4_5 : ar S 4 5 = 0) (h_a_1_5 : ar S 1 5 = 0) (h_a_3_5 : ar S 3 5 = 0) (h_a_3_7 : ar S 3 7 = 0) (h_a_2_1 : ar S 2 1 = 3) (h_a_0_1 : ar S 0 1 = 0) (h_a_4_2 : ar S 4 2 = 0) (h_a_1_2 : ar S 1 2 = 0) (h_a_4_1 : ar S 4 1 = 0) (h_a_1_1 : ar S 1 1 = 0) (h_a_3_1 : ar S 3 1 = 0) (h_a_3_3 : ar S 3 3 = 0) (h_a_2_0 : ar S 2 0 = 3) (h_a_0_0 : ar S 0 0 = 0) (h_i_0 : fi S 0 = 0) : Ct l D cy T0 tB tE yX12_after cX12_after 4 (some .int) 2 47 0 0 (mw cy a S) [.ref (a 0), .int 5, .int 30] (QI D (U := GS) (fun r u => (-1) = r ∧ (si (sl S 2 1649317774848) 24 (-1)) = u) (mw cy a)) := by
  refine Ct.ofZ RX12 "after" [(0, .ref (a 0)), (1, .int 5), (2, .int 30)] rfl rfl rfl rfl (Nat.le_of_ble_eq_true rfl) ?_
  intro p e R s m args below meth c A b
  refine z_iload_n b dX12_after_0 rfl rfl ?_
  refine z_calli b (z_runS (As := [.int 5]) (st := []) b (c_X12_isRow_8 S ) cf_X12_isRow wm_X12_452 ws_X12_isRow dX12_after_1 rfl (Nat.le_of_ble_eq_true rfl) ⟨by decide, by decide, by decide, by decide⟩) (fun r21856 u21857 h21855 => ?_)
  obtain ⟨rfl, rfl⟩ := h21855
  refine z_if_ne_t (tgt := 9) b dX12_after_4 (by decide) (by decide) ?_
  refine z_aload_n b dX12_after_9 rfl rfl ?_
  refine z_iload_n b dX12_after_10 rfl rfl ?_
  refine z_iconst (v := 3) b dX12_after_11 (by decide) ?_
  refine z_iconst (v := 0) b dX12_after_12 (by decide) ?_
  refine z_calli b (z_runV (q0 := 0) (As := [.int 5, .int 3, .int 0]) (st := []) b (c_X12_goes_12 S h_l_0 h_a_38_5) cf_X12_goes (mw_0 cy a S) rfl wm_X12_464 wi_X12_goes ws_X12_goes dX12_after_13 rfl (Nat.le_of_ble_eq_true rfl) ⟨by decide, by decide, by decide, by decide⟩) (fun r21859 u21860 h21858 => ?_)
  obtain ⟨rfl, rfl⟩ := h21858
  refine z_pop b dX12_after_16 rfl ?_
  refine z_aload_n b dX12_after_17 rfl rfl ?_
  refine z_aload_n b dX12_after_18 rfl rfl ?_
  refine z_get (q0 := 0) (k9 := 68) (v := .long 1649317774848) b (mw_0 cy a (si (sl S 2 1649317774848) 24 (-1))) rfl in_X12 (by decide) wf_X12_458 rfl dX12_after_19 ?_
  refine z_callv b (z_runV (q0 := 0) (As := [.long 1649317774848]) (st := []) b (c_X12_takes (si (sl S 2 1649317774848) 24 (-1)) h_a_4_7 h_a_1_7 h_a_4_6 h_a_1_6 h_a_3_6 h_a_3_2 h_a_2_2 h_a_0_2 h_a_4_3 h_a_1_3 h_a_4_5 h_a_1_5 h_a_3_5 h_a_3_7 h_a_2_1 h_a_0_1 h_a_4_2 h_a_1_2 h_a_4_1 h_a_1_1 h_a_3_1 h_a_3_3 h_a_2_0 h_a_0_0 h_i_0) cf_X12_takes (mw_0 cy a (si (sl S 2 1649317774848) 24 (-1))) rfl wm_X12_174 wi_X12_takes ws_X12_takes dX12_after_22 rfl (Nat.le_of_ble_eq_true rfl) ⟨by decide, by decide, by decide, by decide⟩) (fun u21863 h21861 => ?_)
  obtain rfl := h21861
  refine z_iload_n b dX12_after_25 rfl rfl ?_
  refine z_calli b (z_runS (As := [.int 30]) (st := []) b (c_X12_isOne_35 (si (sl S 2 1649317774848) 24 (-1)) ) cf_X12_isOne wm_X12_170 ws_X12_isOne dX12_after_26 rfl (Nat.le_of_ble_eq_true rfl) ⟨by decide, by decide, by decide, by decide⟩) (fun r21865 u21866 h21864 => ?_)
  obtain ⟨rfl, rfl⟩ := h21864
  refine z_if_eq_t (tgt := 39) b dX12_after_29 (by decide) (by decide) ?_
  refine z_iload_n b dX12_after_39 rfl rfl ?_
  refine z_bipush (v := 50) b dX12_after_40 (by decide) ?_
  refine z_icmp_ne_t (tgt := 50) b dX12_after_42 (by decide) (by decide) ?_
  refine z_iload_n b dX12_after_50 rfl rfl ?_
  refine z_bipush (v := 40) b dX12_after_51 (by decide) ?_
  refine z_bipush (v := 42) b dX12_after_53 (by decide) ?_
  refine z_calli b (z_runS (As := [.int 30, .int 40, .int 42]) (st := []) b (c_X12_isIn_150 (si (sl S 2 1649317774848) 24 (-1)) ) cf_X12_isIn wm_X12_1 ws_X12_isIn dX12_after_55 rfl (Nat.le_of_ble_eq_true rfl) ⟨by decide, by decide, by decide, by decide⟩) (fun r21868 u21869 h21867 => ?_)
  obtain ⟨rfl, rfl⟩ := h21867
  refine z_if_eq_t (tgt := 71) b dX12_after_58 (by decide) (by decide) ?_
  refine z_iload_n b dX12_after_71 rfl rfl ?_
  refine z_bipush (v := 10) b dX12_after_72 (by decide) ?_
  refine z_irem (v := 0) b dX12_after_74 (by decide) (by decide) ?_
  refine z_istore_n (lv' := [(3, .int 0), (0, .ref (a 0)), (1, .int 5), (2, .int 30)]) b dX12_after_75 rfl (by decide) rfl ?_
  refine z_iload_n b dX12_after_76 rfl rfl ?_
  refine z_bipush (v := 10) b dX12_after_77 (by decide) ?_
  refine z_bipush (v := 38) b dX12_after_79 (by decide) ?_
  refine z_calli b (z_runS (As := [.int 30, .int 10, .int 38]) (st := []) b (c_X12_isIn_151 (si (sl S 2 1649317774848) 24 (-1)) ) cf_X12_isIn wm_X12_1 ws_X12_isIn dX12_after_81 rfl (Nat.le_of_ble_eq_true rfl) ⟨by decide, by decide, by decide, by decide⟩) (fun r21871 u21872 h21870 => ?_)
  obtain ⟨rfl, rfl⟩ := h21870
  refine z_if_eq_f (tgt := 102) b dX12_after_84 (by decide) (by decide) ?_
  refine z_iload_n b dX12_after_87 rfl rfl ?_
  refine z_bipush (v := 9) b dX12_after_88 (by decide) ?_
  refine z_icmp_eq_f (tgt := 102) b dX12_after_90 (by decide) (by decide) ?_
  refine z_iload_n b dX12_after_93 rfl rfl ?_
  refine z_iconst (v := 3) b dX12_after_94 (by decide) ?_
  refine z_idiv (v := 0) b dX12_after_95 (by decide) (by decide) ?_
  refine z_iload_n b dX12_after_96 rfl rfl ?_
  refine z_iconst (v := 3) b dX12_after_97 (by decide) ?_
  refine z_irem (v := 0) b dX12_after_98 (by decide) (by decide) ?_
  refine z_icmp_ne_f (tgt := 104) b dX12_after_99 (by decide) (by decide) ?_
  refine z_iconst (v := (-1)) b dX12_after_102 (by decide) ?_
  exact z_iret (u := (si (sl S 2 1649317774848) 24 (-1))) b rfl dX12_after_103 ⟨rfl, rfl⟩ rfl (by decide) (by decide)

set_option maxHeartbeats 4000000 in
set_option maxRecDepth 100000 in
theorem c_X11_after_306 {l : Launch} {D : va_G} {cy : Nat → ClassId} {T0 tB tE : Nat} {a : Nat → Nat} {rw : Nat → Option Nat} (S : GS)  (h_i_14 : fi S 14 = (-1)) (h_i_37 : fi S 37 = 0) (h_a_4_31 : ar S 4 31 = 0) (hrw : ∀ i, i < 6 → rw i = some (a (36 + 2 * i))) : Ct l D cy T0 tB tE yX11_after cX11_after 3 (some .int) 3 86 0 0 (cw cy tE a rw S) [.ref (a 0), .int 5, .int 31] (QI D (U := GS) (fun r u => 0 = r ∧ (sa S 8 (va_cpy (ar S 4) (ar S 8) 0 0 51)) = u) (cw cy tE a rw)) := by
  refine Ct.ofZ RX11 "after" [(0, .ref (a 0)), (1, .int 5), (2, .int 31)] rfl rfl rfl rfl (Nat.le_of_ble_eq_true rfl) ?_
  intro p e R s m args below meth c A b
  refine z_iload_n b dX11_after_0 rfl rfl ?_
  refine z_calli b (z_runS (As := [.int 5]) (st := []) b (c_X11_isRow_8 S ) cf_X11_isRow wm_X11_169 ws_X11_isRow dX11_after_1 rfl (Nat.le_of_ble_eq_true rfl) ⟨by decide, by decide, by decide, by decide⟩) (fun r21874 u21875 h21873 => ?_)
  obtain ⟨rfl, rfl⟩ := h21873
  refine z_if_eq_f (tgt := 14) b dX11_after_4 (by decide) (by decide) ?_
  refine z_iload_n b dX11_after_7 rfl rfl ?_
  refine z_calli b (z_runS (As := [.int 31]) (st := []) b (c_X9_has_34 S ) cf_X9_has wm_X11_191 ws_X9_has dX11_after_8 rfl (Nat.le_of_ble_eq_true rfl) ⟨by decide, by decide, by decide, by decide⟩) (fun r21877 u21878 h21876 => ?_)
  obtain ⟨rfl, rfl⟩ := h21876
  refine z_if_ne_t (tgt := 16) b dX11_after_11 (by decide) (by decide) ?_
  refine z_aload_n b dX11_after_16 rfl rfl ?_
  refine z_get (q0 := 0) (k9 := 5) (v := .ref (a 16)) b (cw_0 cy tE a rw S) rfl in_X11 (by decide) wf_X11_43 rfl dX11_after_17 ?_
  refine z_aload_n b dX11_after_20 rfl rfl ?_
  refine z_get (q0 := 0) (k9 := 7) (v := .ref (a 35)) b (cw_0 cy tE a rw S) rfl in_X11 (by decide) wf_X11_58 rfl dX11_after_21 ?_
  refine z_iload_n b dX11_after_24 rfl rfl ?_
  refine y_aald (q0 := 35) (t0 := 4) (j := 5) (v := .ref (a 46)) b (cw_35 cy tE a rw S) rfl (by decide) (by rw [hrw 5 (by decide)]; rfl) dX11_after_25 ?_
  refine z_aload_n b dX11_after_26 rfl rfl ?_
  refine z_get (q0 := 0) (k9 := 4) (v := .ref (a 14)) b (cw_0 cy tE a rw S) rfl in_X11 (by decide) wf_X11_34 rfl dX11_after_27 ?_
  refine z_iconst (v := 3) b dX11_after_30 (by decide) ?_
  refine z_iconst (v := 0) b dX11_after_31 (by decide) ?_
  refine z_calli b (z_runV (q0 := 16) (As := [.ref (a 46), .ref (a 14), .int 3, .int 0]) (st := []) b (c_X2_follow_12 S h_i_14 h_i_37) cf_X2_follow (cw_16 cy tE a rw S) rfl wm_X11_184 wi_X2_follow ws_X2_follow dX11_after_32 rfl (Nat.le_of_ble_eq_true rfl) ⟨by decide, by decide, by decide, by decide⟩) (fun r21880 u21881 h21879 => ?_)
  obtain ⟨rfl, rfl⟩ := h21879
  refine z_pop b dX11_after_35 rfl ?_
  refine z_aload_n b dX11_after_36 rfl rfl ?_
  refine z_get (q0 := 0) (k9 := 5) (v := .ref (a 16)) b (cw_0 cy tE a rw (sa S 8 (va_cpy (ar S 4) (ar S 8) 0 0 51))) rfl in_X11 (by decide) wf_X11_43 rfl dX11_after_37 ?_
  refine z_get (q0 := 16) (k9 := 3) (v := .ref (a 23)) b (cw_16 cy tE a rw (sa S 8 (va_cpy (ar S 4) (ar S 8) 0 0 51))) rfl in_X2 (by decide) wf_X11_194 rfl dX11_after_40 ?_
  refine z_iload_n b dX11_after_43 rfl rfl ?_
  refine z_calli b (z_runV (q0 := 23) (As := [.int 31]) (st := []) b (c_X9_get_25 (sa S 8 (va_cpy (ar S 4) (ar S 8) 0 0 51)) h_a_4_31) cf_X9_get (cw_23 cy tE a rw (sa S 8 (va_cpy (ar S 4) (ar S 8) 0 0 51))) rfl wm_X11_197 wi_X9_get ws_X9_get dX11_after_44 rfl (Nat.le_of_ble_eq_true rfl) ⟨by decide, by decide, by decide, by decide⟩) (fun r21883 u21884 h21882 => ?_)
  obtain ⟨rfl, rfl⟩ := h21882
  exact z_iret (u := (sa S 8 (va_cpy (ar S 4) (ar S 8) 0 0 51))) b rfl dX11_after_47 ⟨rfl, rfl⟩ rfl (by decide) (by decide)

set_option maxHeartbeats 4000000 in
set_option maxRecDepth 100000 in
theorem c_X12_after_306 {l : Launch} {D : va_G} {cy : Nat → ClassId} {T0 tB tE : Nat} {a : Nat → Nat} (S : GS)  (h_l_0 : fl S 0 = 1649317774848) (h_a_38_5 : ar S 38 5 = 0) (h_a_4_7 : ar S 4 7 = 0) (h_a_1_7 : ar S 1 7 = 0) (h_a_4_6 : ar S 4 6 = 0) (h_a_1_6 : ar S 1 6 = 0) (h_a_3_6 : ar S 3 6 = 0) (h_a_3_2 : ar S 3 2 = 0) (h_a_2_2 : ar S 2 2 = 3) (h_a_0_2 : ar S 0 2 = 0) (h_a_4_3 : ar S 4 3 = 0) (h_a_1_3 : ar S 1 3 = 0) (h_a_4_5 : ar S 4 5 = 0) (h_a_1_5 : ar S 1 5 = 0) (h_a_3_5 : ar S 3 5 = 0) (h_a_3_7 : ar S 3 7 = 0) (h_a_2_1 : ar S 2 1 = 3) (h_a_0_1 : ar S 0 1 = 0) (h_a_4_2 : ar S 4 2 = 0) (h_a_1_2 : ar S 1 2 = 0) (h_a_4_1 : ar S 4 1 = 0) (h_a_1_1 : ar S 1 1 = 0) (h_a_3_1 : ar S 3 1 = 0) (h_a_3_3 : ar S 3 3 = 0) (h_a_2_0 : ar S 2 0 = 3) (h_a_0_0 : ar S 0 0 = 0) (h_i_0 : fi S 0 = 0) : Ct l D cy T0 tB tE yX12_after cX12_after 4 (some .int) 2 47 0 0 (mw cy a S) [.ref (a 0), .int 5, .int 31] (QI D (U := GS) (fun r u => 0 = r ∧ (si (sl S 2 1649317774848) 24 (-1)) = u) (mw cy a)) := by
  refine Ct.ofZ RX12 "after" [(0, .ref (a 0)), (1, .int 5), (2, .int 31)] rfl rfl rfl rfl (Nat.le_of_ble_eq_true rfl) ?_
  intro p e R s m args below meth c A b
  refine z_iload_n b dX12_after_0 rfl rfl ?_
  refine z_calli b (z_runS (As := [.int 5]) (st := []) b (c_X12_isRow_8 S ) cf_X12_isRow wm_X12_452 ws_X12_isRow dX12_after_1 rfl (Nat.le_of_ble_eq_true rfl) ⟨by decide, by decide, by decide, by decide⟩) (fun r21886 u21887 h21885 => ?_)
  obtain ⟨rfl, rfl⟩ := h21885
  refine z_if_ne_t (tgt := 9) b dX12_after_4 (by decide) (by decide) ?_
  refine z_aload_n b dX12_after_9 rfl rfl ?_
  refine z_iload_n b dX12_after_10 rfl rfl ?_
  refine z_iconst (v := 3) b dX12_after_11 (by decide) ?_
  refine z_iconst (v := 0) b dX12_after_12 (by decide) ?_
  refine z_calli b (z_runV (q0 := 0) (As := [.int 5, .int 3, .int 0]) (st := []) b (c_X12_goes_12 S h_l_0 h_a_38_5) cf_X12_goes (mw_0 cy a S) rfl wm_X12_464 wi_X12_goes ws_X12_goes dX12_after_13 rfl (Nat.le_of_ble_eq_true rfl) ⟨by decide, by decide, by decide, by decide⟩) (fun r21889 u21890 h21888 => ?_)
  obtain ⟨rfl, rfl⟩ := h21888
  refine z_pop b dX12_after_16 rfl ?_
  refine z_aload_n b dX12_after_17 rfl rfl ?_
  refine z_aload_n b dX12_after_18 rfl rfl ?_
  refine z_get (q0 := 0) (k9 := 68) (v := .long 1649317774848) b (mw_0 cy a (si (sl S 2 1649317774848) 24 (-1))) rfl in_X12 (by decide) wf_X12_458 rfl dX12_after_19 ?_
  refine z_callv b (z_runV (q0 := 0) (As := [.long 1649317774848]) (st := []) b (c_X12_takes (si (sl S 2 1649317774848) 24 (-1)) h_a_4_7 h_a_1_7 h_a_4_6 h_a_1_6 h_a_3_6 h_a_3_2 h_a_2_2 h_a_0_2 h_a_4_3 h_a_1_3 h_a_4_5 h_a_1_5 h_a_3_5 h_a_3_7 h_a_2_1 h_a_0_1 h_a_4_2 h_a_1_2 h_a_4_1 h_a_1_1 h_a_3_1 h_a_3_3 h_a_2_0 h_a_0_0 h_i_0) cf_X12_takes (mw_0 cy a (si (sl S 2 1649317774848) 24 (-1))) rfl wm_X12_174 wi_X12_takes ws_X12_takes dX12_after_22 rfl (Nat.le_of_ble_eq_true rfl) ⟨by decide, by decide, by decide, by decide⟩) (fun u21893 h21891 => ?_)
  obtain rfl := h21891
  refine z_iload_n b dX12_after_25 rfl rfl ?_
  refine z_calli b (z_runS (As := [.int 31]) (st := []) b (c_X12_isOne_36 (si (sl S 2 1649317774848) 24 (-1)) ) cf_X12_isOne wm_X12_170 ws_X12_isOne dX12_after_26 rfl (Nat.le_of_ble_eq_true rfl) ⟨by decide, by decide, by decide, by decide⟩) (fun r21895 u21896 h21894 => ?_)
  obtain ⟨rfl, rfl⟩ := h21894
  refine z_if_eq_t (tgt := 39) b dX12_after_29 (by decide) (by decide) ?_
  refine z_iload_n b dX12_after_39 rfl rfl ?_
  refine z_bipush (v := 50) b dX12_after_40 (by decide) ?_
  refine z_icmp_ne_t (tgt := 50) b dX12_after_42 (by decide) (by decide) ?_
  refine z_iload_n b dX12_after_50 rfl rfl ?_
  refine z_bipush (v := 40) b dX12_after_51 (by decide) ?_
  refine z_bipush (v := 42) b dX12_after_53 (by decide) ?_
  refine z_calli b (z_runS (As := [.int 31, .int 40, .int 42]) (st := []) b (c_X12_isIn_153 (si (sl S 2 1649317774848) 24 (-1)) ) cf_X12_isIn wm_X12_1 ws_X12_isIn dX12_after_55 rfl (Nat.le_of_ble_eq_true rfl) ⟨by decide, by decide, by decide, by decide⟩) (fun r21898 u21899 h21897 => ?_)
  obtain ⟨rfl, rfl⟩ := h21897
  refine z_if_eq_t (tgt := 71) b dX12_after_58 (by decide) (by decide) ?_
  refine z_iload_n b dX12_after_71 rfl rfl ?_
  refine z_bipush (v := 10) b dX12_after_72 (by decide) ?_
  refine z_irem (v := 1) b dX12_after_74 (by decide) (by decide) ?_
  refine z_istore_n (lv' := [(3, .int 1), (0, .ref (a 0)), (1, .int 5), (2, .int 31)]) b dX12_after_75 rfl (by decide) rfl ?_
  refine z_iload_n b dX12_after_76 rfl rfl ?_
  refine z_bipush (v := 10) b dX12_after_77 (by decide) ?_
  refine z_bipush (v := 38) b dX12_after_79 (by decide) ?_
  refine z_calli b (z_runS (As := [.int 31, .int 10, .int 38]) (st := []) b (c_X12_isIn_154 (si (sl S 2 1649317774848) 24 (-1)) ) cf_X12_isIn wm_X12_1 ws_X12_isIn dX12_after_81 rfl (Nat.le_of_ble_eq_true rfl) ⟨by decide, by decide, by decide, by decide⟩) (fun r21901 u21902 h21900 => ?_)
  obtain ⟨rfl, rfl⟩ := h21900
  refine z_if_eq_f (tgt := 102) b dX12_after_84 (by decide) (by decide) ?_
  refine z_iload_n b dX12_after_87 rfl rfl ?_
  refine z_bipush (v := 9) b dX12_after_88 (by decide) ?_
  refine z_icmp_eq_f (tgt := 102) b dX12_after_90 (by decide) (by decide) ?_
  refine z_iload_n b dX12_after_93 rfl rfl ?_
  refine z_iconst (v := 3) b dX12_after_94 (by decide) ?_
  refine z_idiv (v := 0) b dX12_after_95 (by decide) (by decide) ?_
  refine z_iload_n b dX12_after_96 rfl rfl ?_
  refine z_iconst (v := 3) b dX12_after_97 (by decide) ?_
  refine z_irem (v := 1) b dX12_after_98 (by decide) (by decide) ?_
  refine z_icmp_ne_t (tgt := 104) b dX12_after_99 (by decide) (by decide) ?_
  refine z_iload_n b dX12_after_104 rfl rfl ?_
  refine z_bipush (v := 20) b dX12_after_105 (by decide) ?_
  refine z_icmp_ge_t (tgt := 119) b dX12_after_107 (by decide) (by decide) ?_
  refine z_iload_n b dX12_after_119 rfl rfl ?_
  refine z_bipush (v := 30) b dX12_after_120 (by decide) ?_
  refine z_icmp_ge_t (tgt := 137) b dX12_after_122 (by decide) (by decide) ?_
  refine z_aload_n b dX12_after_137 rfl rfl ?_
  refine z_get (q0 := 0) (k9 := 4) (v := .ref (a 5)) b (mw_0 cy a (si (sl S 2 1649317774848) 24 (-1))) rfl in_X12 (by decide) wf_X12_27 rfl dX12_after_138 ?_
  refine z_iload_n b dX12_after_141 rfl rfl ?_
  refine y_zald (q0 := 5) (j := 1) (v := (ar (si (sl S 2 1649317774848) 24 (-1)) 4 1)) b (mw_5 cy a (si (sl S 2 1649317774848) 24 (-1))) (by decide) rfl dX12_after_142 ?_
  refine z_eqi h_a_4_1 ?_
  refine z_if_eq_t (tgt := 150) b dX12_after_143 (by decide) (by decide) ?_
  refine z_iconst (v := 0) b dX12_after_150 (by decide) ?_
  exact z_iret (u := (si (sl S 2 1649317774848) 24 (-1))) b rfl dX12_after_151 ⟨rfl, rfl⟩ rfl (by decide) (by decide)

set_option maxHeartbeats 4000000 in
set_option maxRecDepth 100000 in
theorem c_X11_after_307 {l : Launch} {D : va_G} {cy : Nat → ClassId} {T0 tB tE : Nat} {a : Nat → Nat} {rw : Nat → Option Nat} (S : GS)  (h_i_14 : fi S 14 = (-1)) (h_i_37 : fi S 37 = 0) (h_a_4_32 : ar S 4 32 = 0) (hrw : ∀ i, i < 6 → rw i = some (a (36 + 2 * i))) : Ct l D cy T0 tB tE yX11_after cX11_after 3 (some .int) 3 86 0 0 (cw cy tE a rw S) [.ref (a 0), .int 5, .int 32] (QI D (U := GS) (fun r u => 0 = r ∧ (sa S 8 (va_cpy (ar S 4) (ar S 8) 0 0 51)) = u) (cw cy tE a rw)) := by
  refine Ct.ofZ RX11 "after" [(0, .ref (a 0)), (1, .int 5), (2, .int 32)] rfl rfl rfl rfl (Nat.le_of_ble_eq_true rfl) ?_
  intro p e R s m args below meth c A b
  refine z_iload_n b dX11_after_0 rfl rfl ?_
  refine z_calli b (z_runS (As := [.int 5]) (st := []) b (c_X11_isRow_8 S ) cf_X11_isRow wm_X11_169 ws_X11_isRow dX11_after_1 rfl (Nat.le_of_ble_eq_true rfl) ⟨by decide, by decide, by decide, by decide⟩) (fun r21904 u21905 h21903 => ?_)
  obtain ⟨rfl, rfl⟩ := h21903
  refine z_if_eq_f (tgt := 14) b dX11_after_4 (by decide) (by decide) ?_
  refine z_iload_n b dX11_after_7 rfl rfl ?_
  refine z_calli b (z_runS (As := [.int 32]) (st := []) b (c_X9_has_35 S ) cf_X9_has wm_X11_191 ws_X9_has dX11_after_8 rfl (Nat.le_of_ble_eq_true rfl) ⟨by decide, by decide, by decide, by decide⟩) (fun r21907 u21908 h21906 => ?_)
  obtain ⟨rfl, rfl⟩ := h21906
  refine z_if_ne_t (tgt := 16) b dX11_after_11 (by decide) (by decide) ?_
  refine z_aload_n b dX11_after_16 rfl rfl ?_
  refine z_get (q0 := 0) (k9 := 5) (v := .ref (a 16)) b (cw_0 cy tE a rw S) rfl in_X11 (by decide) wf_X11_43 rfl dX11_after_17 ?_
  refine z_aload_n b dX11_after_20 rfl rfl ?_
  refine z_get (q0 := 0) (k9 := 7) (v := .ref (a 35)) b (cw_0 cy tE a rw S) rfl in_X11 (by decide) wf_X11_58 rfl dX11_after_21 ?_
  refine z_iload_n b dX11_after_24 rfl rfl ?_
  refine y_aald (q0 := 35) (t0 := 4) (j := 5) (v := .ref (a 46)) b (cw_35 cy tE a rw S) rfl (by decide) (by rw [hrw 5 (by decide)]; rfl) dX11_after_25 ?_
  refine z_aload_n b dX11_after_26 rfl rfl ?_
  refine z_get (q0 := 0) (k9 := 4) (v := .ref (a 14)) b (cw_0 cy tE a rw S) rfl in_X11 (by decide) wf_X11_34 rfl dX11_after_27 ?_
  refine z_iconst (v := 3) b dX11_after_30 (by decide) ?_
  refine z_iconst (v := 0) b dX11_after_31 (by decide) ?_
  refine z_calli b (z_runV (q0 := 16) (As := [.ref (a 46), .ref (a 14), .int 3, .int 0]) (st := []) b (c_X2_follow_12 S h_i_14 h_i_37) cf_X2_follow (cw_16 cy tE a rw S) rfl wm_X11_184 wi_X2_follow ws_X2_follow dX11_after_32 rfl (Nat.le_of_ble_eq_true rfl) ⟨by decide, by decide, by decide, by decide⟩) (fun r21910 u21911 h21909 => ?_)
  obtain ⟨rfl, rfl⟩ := h21909
  refine z_pop b dX11_after_35 rfl ?_
  refine z_aload_n b dX11_after_36 rfl rfl ?_
  refine z_get (q0 := 0) (k9 := 5) (v := .ref (a 16)) b (cw_0 cy tE a rw (sa S 8 (va_cpy (ar S 4) (ar S 8) 0 0 51))) rfl in_X11 (by decide) wf_X11_43 rfl dX11_after_37 ?_
  refine z_get (q0 := 16) (k9 := 3) (v := .ref (a 23)) b (cw_16 cy tE a rw (sa S 8 (va_cpy (ar S 4) (ar S 8) 0 0 51))) rfl in_X2 (by decide) wf_X11_194 rfl dX11_after_40 ?_
  refine z_iload_n b dX11_after_43 rfl rfl ?_
  refine z_calli b (z_runV (q0 := 23) (As := [.int 32]) (st := []) b (c_X9_get_26 (sa S 8 (va_cpy (ar S 4) (ar S 8) 0 0 51)) h_a_4_32) cf_X9_get (cw_23 cy tE a rw (sa S 8 (va_cpy (ar S 4) (ar S 8) 0 0 51))) rfl wm_X11_197 wi_X9_get ws_X9_get dX11_after_44 rfl (Nat.le_of_ble_eq_true rfl) ⟨by decide, by decide, by decide, by decide⟩) (fun r21913 u21914 h21912 => ?_)
  obtain ⟨rfl, rfl⟩ := h21912
  exact z_iret (u := (sa S 8 (va_cpy (ar S 4) (ar S 8) 0 0 51))) b rfl dX11_after_47 ⟨rfl, rfl⟩ rfl (by decide) (by decide)

set_option maxHeartbeats 4000000 in
set_option maxRecDepth 100000 in
theorem c_X12_after_307 {l : Launch} {D : va_G} {cy : Nat → ClassId} {T0 tB tE : Nat} {a : Nat → Nat} (S : GS)  (h_l_0 : fl S 0 = 1649317774848) (h_a_38_5 : ar S 38 5 = 0) (h_a_4_7 : ar S 4 7 = 0) (h_a_1_7 : ar S 1 7 = 0) (h_a_4_6 : ar S 4 6 = 0) (h_a_1_6 : ar S 1 6 = 0) (h_a_3_6 : ar S 3 6 = 0) (h_a_3_2 : ar S 3 2 = 0) (h_a_2_2 : ar S 2 2 = 3) (h_a_0_2 : ar S 0 2 = 0) (h_a_4_3 : ar S 4 3 = 0) (h_a_1_3 : ar S 1 3 = 0) (h_a_4_5 : ar S 4 5 = 0) (h_a_1_5 : ar S 1 5 = 0) (h_a_3_5 : ar S 3 5 = 0) (h_a_3_7 : ar S 3 7 = 0) (h_a_2_1 : ar S 2 1 = 3) (h_a_0_1 : ar S 0 1 = 0) (h_a_4_2 : ar S 4 2 = 0) (h_a_1_2 : ar S 1 2 = 0) (h_a_4_1 : ar S 4 1 = 0) (h_a_1_1 : ar S 1 1 = 0) (h_a_3_1 : ar S 3 1 = 0) (h_a_3_3 : ar S 3 3 = 0) (h_a_2_0 : ar S 2 0 = 3) (h_a_0_0 : ar S 0 0 = 0) (h_i_0 : fi S 0 = 0) : Ct l D cy T0 tB tE yX12_after cX12_after 4 (some .int) 2 47 0 0 (mw cy a S) [.ref (a 0), .int 5, .int 32] (QI D (U := GS) (fun r u => 0 = r ∧ (si (sl S 2 1649317774848) 24 (-1)) = u) (mw cy a)) := by
  refine Ct.ofZ RX12 "after" [(0, .ref (a 0)), (1, .int 5), (2, .int 32)] rfl rfl rfl rfl (Nat.le_of_ble_eq_true rfl) ?_
  intro p e R s m args below meth c A b
  refine z_iload_n b dX12_after_0 rfl rfl ?_
  refine z_calli b (z_runS (As := [.int 5]) (st := []) b (c_X12_isRow_8 S ) cf_X12_isRow wm_X12_452 ws_X12_isRow dX12_after_1 rfl (Nat.le_of_ble_eq_true rfl) ⟨by decide, by decide, by decide, by decide⟩) (fun r21916 u21917 h21915 => ?_)
  obtain ⟨rfl, rfl⟩ := h21915
  refine z_if_ne_t (tgt := 9) b dX12_after_4 (by decide) (by decide) ?_
  refine z_aload_n b dX12_after_9 rfl rfl ?_
  refine z_iload_n b dX12_after_10 rfl rfl ?_
  refine z_iconst (v := 3) b dX12_after_11 (by decide) ?_
  refine z_iconst (v := 0) b dX12_after_12 (by decide) ?_
  refine z_calli b (z_runV (q0 := 0) (As := [.int 5, .int 3, .int 0]) (st := []) b (c_X12_goes_12 S h_l_0 h_a_38_5) cf_X12_goes (mw_0 cy a S) rfl wm_X12_464 wi_X12_goes ws_X12_goes dX12_after_13 rfl (Nat.le_of_ble_eq_true rfl) ⟨by decide, by decide, by decide, by decide⟩) (fun r21919 u21920 h21918 => ?_)
  obtain ⟨rfl, rfl⟩ := h21918
  refine z_pop b dX12_after_16 rfl ?_
  refine z_aload_n b dX12_after_17 rfl rfl ?_
  refine z_aload_n b dX12_after_18 rfl rfl ?_
  refine z_get (q0 := 0) (k9 := 68) (v := .long 1649317774848) b (mw_0 cy a (si (sl S 2 1649317774848) 24 (-1))) rfl in_X12 (by decide) wf_X12_458 rfl dX12_after_19 ?_
  refine z_callv b (z_runV (q0 := 0) (As := [.long 1649317774848]) (st := []) b (c_X12_takes (si (sl S 2 1649317774848) 24 (-1)) h_a_4_7 h_a_1_7 h_a_4_6 h_a_1_6 h_a_3_6 h_a_3_2 h_a_2_2 h_a_0_2 h_a_4_3 h_a_1_3 h_a_4_5 h_a_1_5 h_a_3_5 h_a_3_7 h_a_2_1 h_a_0_1 h_a_4_2 h_a_1_2 h_a_4_1 h_a_1_1 h_a_3_1 h_a_3_3 h_a_2_0 h_a_0_0 h_i_0) cf_X12_takes (mw_0 cy a (si (sl S 2 1649317774848) 24 (-1))) rfl wm_X12_174 wi_X12_takes ws_X12_takes dX12_after_22 rfl (Nat.le_of_ble_eq_true rfl) ⟨by decide, by decide, by decide, by decide⟩) (fun u21923 h21921 => ?_)
  obtain rfl := h21921
  refine z_iload_n b dX12_after_25 rfl rfl ?_
  refine z_calli b (z_runS (As := [.int 32]) (st := []) b (c_X12_isOne_37 (si (sl S 2 1649317774848) 24 (-1)) ) cf_X12_isOne wm_X12_170 ws_X12_isOne dX12_after_26 rfl (Nat.le_of_ble_eq_true rfl) ⟨by decide, by decide, by decide, by decide⟩) (fun r21925 u21926 h21924 => ?_)
  obtain ⟨rfl, rfl⟩ := h21924
  refine z_if_eq_t (tgt := 39) b dX12_after_29 (by decide) (by decide) ?_
  refine z_iload_n b dX12_after_39 rfl rfl ?_
  refine z_bipush (v := 50) b dX12_after_40 (by decide) ?_
  refine z_icmp_ne_t (tgt := 50) b dX12_after_42 (by decide) (by decide) ?_
  refine z_iload_n b dX12_after_50 rfl rfl ?_
  refine z_bipush (v := 40) b dX12_after_51 (by decide) ?_
  refine z_bipush (v := 42) b dX12_after_53 (by decide) ?_
  refine z_calli b (z_runS (As := [.int 32, .int 40, .int 42]) (st := []) b (c_X12_isIn_156 (si (sl S 2 1649317774848) 24 (-1)) ) cf_X12_isIn wm_X12_1 ws_X12_isIn dX12_after_55 rfl (Nat.le_of_ble_eq_true rfl) ⟨by decide, by decide, by decide, by decide⟩) (fun r21928 u21929 h21927 => ?_)
  obtain ⟨rfl, rfl⟩ := h21927
  refine z_if_eq_t (tgt := 71) b dX12_after_58 (by decide) (by decide) ?_
  refine z_iload_n b dX12_after_71 rfl rfl ?_
  refine z_bipush (v := 10) b dX12_after_72 (by decide) ?_
  refine z_irem (v := 2) b dX12_after_74 (by decide) (by decide) ?_
  refine z_istore_n (lv' := [(3, .int 2), (0, .ref (a 0)), (1, .int 5), (2, .int 32)]) b dX12_after_75 rfl (by decide) rfl ?_
  refine z_iload_n b dX12_after_76 rfl rfl ?_
  refine z_bipush (v := 10) b dX12_after_77 (by decide) ?_
  refine z_bipush (v := 38) b dX12_after_79 (by decide) ?_
  refine z_calli b (z_runS (As := [.int 32, .int 10, .int 38]) (st := []) b (c_X12_isIn_157 (si (sl S 2 1649317774848) 24 (-1)) ) cf_X12_isIn wm_X12_1 ws_X12_isIn dX12_after_81 rfl (Nat.le_of_ble_eq_true rfl) ⟨by decide, by decide, by decide, by decide⟩) (fun r21931 u21932 h21930 => ?_)
  obtain ⟨rfl, rfl⟩ := h21930
  refine z_if_eq_f (tgt := 102) b dX12_after_84 (by decide) (by decide) ?_
  refine z_iload_n b dX12_after_87 rfl rfl ?_
  refine z_bipush (v := 9) b dX12_after_88 (by decide) ?_
  refine z_icmp_eq_f (tgt := 102) b dX12_after_90 (by decide) (by decide) ?_
  refine z_iload_n b dX12_after_93 rfl rfl ?_
  refine z_iconst (v := 3) b dX12_after_94 (by decide) ?_
  refine z_idiv (v := 0) b dX12_after_95 (by decide) (by decide) ?_
  refine z_iload_n b dX12_after_96 rfl rfl ?_
  refine z_iconst (v := 3) b dX12_after_97 (by decide) ?_
  refine z_irem (v := 2) b dX12_after_98 (by decide) (by decide) ?_
  refine z_icmp_ne_t (tgt := 104) b dX12_after_99 (by decide) (by decide) ?_
  refine z_iload_n b dX12_after_104 rfl rfl ?_
  refine z_bipush (v := 20) b dX12_after_105 (by decide) ?_
  refine z_icmp_ge_t (tgt := 119) b dX12_after_107 (by decide) (by decide) ?_
  refine z_iload_n b dX12_after_119 rfl rfl ?_
  refine z_bipush (v := 30) b dX12_after_120 (by decide) ?_
  refine z_icmp_ge_t (tgt := 137) b dX12_after_122 (by decide) (by decide) ?_
  refine z_aload_n b dX12_after_137 rfl rfl ?_
  refine z_get (q0 := 0) (k9 := 4) (v := .ref (a 5)) b (mw_0 cy a (si (sl S 2 1649317774848) 24 (-1))) rfl in_X12 (by decide) wf_X12_27 rfl dX12_after_138 ?_
  refine z_iload_n b dX12_after_141 rfl rfl ?_
  refine y_zald (q0 := 5) (j := 2) (v := (ar (si (sl S 2 1649317774848) 24 (-1)) 4 2)) b (mw_5 cy a (si (sl S 2 1649317774848) 24 (-1))) (by decide) rfl dX12_after_142 ?_
  refine z_eqi h_a_4_2 ?_
  refine z_if_eq_t (tgt := 150) b dX12_after_143 (by decide) (by decide) ?_
  refine z_iconst (v := 0) b dX12_after_150 (by decide) ?_
  exact z_iret (u := (si (sl S 2 1649317774848) 24 (-1))) b rfl dX12_after_151 ⟨rfl, rfl⟩ rfl (by decide) (by decide)

set_option maxHeartbeats 4000000 in
set_option maxRecDepth 100000 in
theorem c_X11_after_308 {l : Launch} {D : va_G} {cy : Nat → ClassId} {T0 tB tE : Nat} {a : Nat → Nat} {rw : Nat → Option Nat} (S : GS)  (h_i_14 : fi S 14 = (-1)) (h_i_37 : fi S 37 = 0) (h_a_4_33 : ar S 4 33 = 0) (hrw : ∀ i, i < 6 → rw i = some (a (36 + 2 * i))) : Ct l D cy T0 tB tE yX11_after cX11_after 3 (some .int) 3 86 0 0 (cw cy tE a rw S) [.ref (a 0), .int 5, .int 33] (QI D (U := GS) (fun r u => 0 = r ∧ (sa S 8 (va_cpy (ar S 4) (ar S 8) 0 0 51)) = u) (cw cy tE a rw)) := by
  refine Ct.ofZ RX11 "after" [(0, .ref (a 0)), (1, .int 5), (2, .int 33)] rfl rfl rfl rfl (Nat.le_of_ble_eq_true rfl) ?_
  intro p e R s m args below meth c A b
  refine z_iload_n b dX11_after_0 rfl rfl ?_
  refine z_calli b (z_runS (As := [.int 5]) (st := []) b (c_X11_isRow_8 S ) cf_X11_isRow wm_X11_169 ws_X11_isRow dX11_after_1 rfl (Nat.le_of_ble_eq_true rfl) ⟨by decide, by decide, by decide, by decide⟩) (fun r21934 u21935 h21933 => ?_)
  obtain ⟨rfl, rfl⟩ := h21933
  refine z_if_eq_f (tgt := 14) b dX11_after_4 (by decide) (by decide) ?_
  refine z_iload_n b dX11_after_7 rfl rfl ?_
  refine z_calli b (z_runS (As := [.int 33]) (st := []) b (c_X9_has_36 S ) cf_X9_has wm_X11_191 ws_X9_has dX11_after_8 rfl (Nat.le_of_ble_eq_true rfl) ⟨by decide, by decide, by decide, by decide⟩) (fun r21937 u21938 h21936 => ?_)
  obtain ⟨rfl, rfl⟩ := h21936
  refine z_if_ne_t (tgt := 16) b dX11_after_11 (by decide) (by decide) ?_
  refine z_aload_n b dX11_after_16 rfl rfl ?_
  refine z_get (q0 := 0) (k9 := 5) (v := .ref (a 16)) b (cw_0 cy tE a rw S) rfl in_X11 (by decide) wf_X11_43 rfl dX11_after_17 ?_
  refine z_aload_n b dX11_after_20 rfl rfl ?_
  refine z_get (q0 := 0) (k9 := 7) (v := .ref (a 35)) b (cw_0 cy tE a rw S) rfl in_X11 (by decide) wf_X11_58 rfl dX11_after_21 ?_
  refine z_iload_n b dX11_after_24 rfl rfl ?_
  refine y_aald (q0 := 35) (t0 := 4) (j := 5) (v := .ref (a 46)) b (cw_35 cy tE a rw S) rfl (by decide) (by rw [hrw 5 (by decide)]; rfl) dX11_after_25 ?_
  refine z_aload_n b dX11_after_26 rfl rfl ?_
  refine z_get (q0 := 0) (k9 := 4) (v := .ref (a 14)) b (cw_0 cy tE a rw S) rfl in_X11 (by decide) wf_X11_34 rfl dX11_after_27 ?_
  refine z_iconst (v := 3) b dX11_after_30 (by decide) ?_
  refine z_iconst (v := 0) b dX11_after_31 (by decide) ?_
  refine z_calli b (z_runV (q0 := 16) (As := [.ref (a 46), .ref (a 14), .int 3, .int 0]) (st := []) b (c_X2_follow_12 S h_i_14 h_i_37) cf_X2_follow (cw_16 cy tE a rw S) rfl wm_X11_184 wi_X2_follow ws_X2_follow dX11_after_32 rfl (Nat.le_of_ble_eq_true rfl) ⟨by decide, by decide, by decide, by decide⟩) (fun r21940 u21941 h21939 => ?_)
  obtain ⟨rfl, rfl⟩ := h21939
  refine z_pop b dX11_after_35 rfl ?_
  refine z_aload_n b dX11_after_36 rfl rfl ?_
  refine z_get (q0 := 0) (k9 := 5) (v := .ref (a 16)) b (cw_0 cy tE a rw (sa S 8 (va_cpy (ar S 4) (ar S 8) 0 0 51))) rfl in_X11 (by decide) wf_X11_43 rfl dX11_after_37 ?_
  refine z_get (q0 := 16) (k9 := 3) (v := .ref (a 23)) b (cw_16 cy tE a rw (sa S 8 (va_cpy (ar S 4) (ar S 8) 0 0 51))) rfl in_X2 (by decide) wf_X11_194 rfl dX11_after_40 ?_
  refine z_iload_n b dX11_after_43 rfl rfl ?_
  refine z_calli b (z_runV (q0 := 23) (As := [.int 33]) (st := []) b (c_X9_get_27 (sa S 8 (va_cpy (ar S 4) (ar S 8) 0 0 51)) h_a_4_33) cf_X9_get (cw_23 cy tE a rw (sa S 8 (va_cpy (ar S 4) (ar S 8) 0 0 51))) rfl wm_X11_197 wi_X9_get ws_X9_get dX11_after_44 rfl (Nat.le_of_ble_eq_true rfl) ⟨by decide, by decide, by decide, by decide⟩) (fun r21943 u21944 h21942 => ?_)
  obtain ⟨rfl, rfl⟩ := h21942
  exact z_iret (u := (sa S 8 (va_cpy (ar S 4) (ar S 8) 0 0 51))) b rfl dX11_after_47 ⟨rfl, rfl⟩ rfl (by decide) (by decide)

set_option maxHeartbeats 4000000 in
set_option maxRecDepth 100000 in
theorem c_X12_after_308 {l : Launch} {D : va_G} {cy : Nat → ClassId} {T0 tB tE : Nat} {a : Nat → Nat} (S : GS)  (h_l_0 : fl S 0 = 1649317774848) (h_a_38_5 : ar S 38 5 = 0) (h_a_4_7 : ar S 4 7 = 0) (h_a_1_7 : ar S 1 7 = 0) (h_a_4_6 : ar S 4 6 = 0) (h_a_1_6 : ar S 1 6 = 0) (h_a_3_6 : ar S 3 6 = 0) (h_a_3_2 : ar S 3 2 = 0) (h_a_2_2 : ar S 2 2 = 3) (h_a_0_2 : ar S 0 2 = 0) (h_a_4_3 : ar S 4 3 = 0) (h_a_1_3 : ar S 1 3 = 0) (h_a_4_5 : ar S 4 5 = 0) (h_a_1_5 : ar S 1 5 = 0) (h_a_3_5 : ar S 3 5 = 0) (h_a_3_7 : ar S 3 7 = 0) (h_a_2_1 : ar S 2 1 = 3) (h_a_0_1 : ar S 0 1 = 0) (h_a_4_2 : ar S 4 2 = 0) (h_a_1_2 : ar S 1 2 = 0) (h_a_4_1 : ar S 4 1 = 0) (h_a_1_1 : ar S 1 1 = 0) (h_a_3_1 : ar S 3 1 = 0) (h_a_3_3 : ar S 3 3 = 0) (h_a_2_0 : ar S 2 0 = 3) (h_a_0_0 : ar S 0 0 = 0) (h_i_0 : fi S 0 = 0) : Ct l D cy T0 tB tE yX12_after cX12_after 4 (some .int) 2 47 0 0 (mw cy a S) [.ref (a 0), .int 5, .int 33] (QI D (U := GS) (fun r u => 0 = r ∧ (si (sl S 2 1649317774848) 24 (-1)) = u) (mw cy a)) := by
  refine Ct.ofZ RX12 "after" [(0, .ref (a 0)), (1, .int 5), (2, .int 33)] rfl rfl rfl rfl (Nat.le_of_ble_eq_true rfl) ?_
  intro p e R s m args below meth c A b
  refine z_iload_n b dX12_after_0 rfl rfl ?_
  refine z_calli b (z_runS (As := [.int 5]) (st := []) b (c_X12_isRow_8 S ) cf_X12_isRow wm_X12_452 ws_X12_isRow dX12_after_1 rfl (Nat.le_of_ble_eq_true rfl) ⟨by decide, by decide, by decide, by decide⟩) (fun r21946 u21947 h21945 => ?_)
  obtain ⟨rfl, rfl⟩ := h21945
  refine z_if_ne_t (tgt := 9) b dX12_after_4 (by decide) (by decide) ?_
  refine z_aload_n b dX12_after_9 rfl rfl ?_
  refine z_iload_n b dX12_after_10 rfl rfl ?_
  refine z_iconst (v := 3) b dX12_after_11 (by decide) ?_
  refine z_iconst (v := 0) b dX12_after_12 (by decide) ?_
  refine z_calli b (z_runV (q0 := 0) (As := [.int 5, .int 3, .int 0]) (st := []) b (c_X12_goes_12 S h_l_0 h_a_38_5) cf_X12_goes (mw_0 cy a S) rfl wm_X12_464 wi_X12_goes ws_X12_goes dX12_after_13 rfl (Nat.le_of_ble_eq_true rfl) ⟨by decide, by decide, by decide, by decide⟩) (fun r21949 u21950 h21948 => ?_)
  obtain ⟨rfl, rfl⟩ := h21948
  refine z_pop b dX12_after_16 rfl ?_
  refine z_aload_n b dX12_after_17 rfl rfl ?_
  refine z_aload_n b dX12_after_18 rfl rfl ?_
  refine z_get (q0 := 0) (k9 := 68) (v := .long 1649317774848) b (mw_0 cy a (si (sl S 2 1649317774848) 24 (-1))) rfl in_X12 (by decide) wf_X12_458 rfl dX12_after_19 ?_
  refine z_callv b (z_runV (q0 := 0) (As := [.long 1649317774848]) (st := []) b (c_X12_takes (si (sl S 2 1649317774848) 24 (-1)) h_a_4_7 h_a_1_7 h_a_4_6 h_a_1_6 h_a_3_6 h_a_3_2 h_a_2_2 h_a_0_2 h_a_4_3 h_a_1_3 h_a_4_5 h_a_1_5 h_a_3_5 h_a_3_7 h_a_2_1 h_a_0_1 h_a_4_2 h_a_1_2 h_a_4_1 h_a_1_1 h_a_3_1 h_a_3_3 h_a_2_0 h_a_0_0 h_i_0) cf_X12_takes (mw_0 cy a (si (sl S 2 1649317774848) 24 (-1))) rfl wm_X12_174 wi_X12_takes ws_X12_takes dX12_after_22 rfl (Nat.le_of_ble_eq_true rfl) ⟨by decide, by decide, by decide, by decide⟩) (fun u21953 h21951 => ?_)
  obtain rfl := h21951
  refine z_iload_n b dX12_after_25 rfl rfl ?_
  refine z_calli b (z_runS (As := [.int 33]) (st := []) b (c_X12_isOne_38 (si (sl S 2 1649317774848) 24 (-1)) ) cf_X12_isOne wm_X12_170 ws_X12_isOne dX12_after_26 rfl (Nat.le_of_ble_eq_true rfl) ⟨by decide, by decide, by decide, by decide⟩) (fun r21955 u21956 h21954 => ?_)
  obtain ⟨rfl, rfl⟩ := h21954
  refine z_if_eq_t (tgt := 39) b dX12_after_29 (by decide) (by decide) ?_
  refine z_iload_n b dX12_after_39 rfl rfl ?_
  refine z_bipush (v := 50) b dX12_after_40 (by decide) ?_
  refine z_icmp_ne_t (tgt := 50) b dX12_after_42 (by decide) (by decide) ?_
  refine z_iload_n b dX12_after_50 rfl rfl ?_
  refine z_bipush (v := 40) b dX12_after_51 (by decide) ?_
  refine z_bipush (v := 42) b dX12_after_53 (by decide) ?_
  refine z_calli b (z_runS (As := [.int 33, .int 40, .int 42]) (st := []) b (c_X12_isIn_159 (si (sl S 2 1649317774848) 24 (-1)) ) cf_X12_isIn wm_X12_1 ws_X12_isIn dX12_after_55 rfl (Nat.le_of_ble_eq_true rfl) ⟨by decide, by decide, by decide, by decide⟩) (fun r21958 u21959 h21957 => ?_)
  obtain ⟨rfl, rfl⟩ := h21957
  refine z_if_eq_t (tgt := 71) b dX12_after_58 (by decide) (by decide) ?_
  refine z_iload_n b dX12_after_71 rfl rfl ?_
  refine z_bipush (v := 10) b dX12_after_72 (by decide) ?_
  refine z_irem (v := 3) b dX12_after_74 (by decide) (by decide) ?_
  refine z_istore_n (lv' := [(3, .int 3), (0, .ref (a 0)), (1, .int 5), (2, .int 33)]) b dX12_after_75 rfl (by decide) rfl ?_
  refine z_iload_n b dX12_after_76 rfl rfl ?_
  refine z_bipush (v := 10) b dX12_after_77 (by decide) ?_
  refine z_bipush (v := 38) b dX12_after_79 (by decide) ?_
  refine z_calli b (z_runS (As := [.int 33, .int 10, .int 38]) (st := []) b (c_X12_isIn_160 (si (sl S 2 1649317774848) 24 (-1)) ) cf_X12_isIn wm_X12_1 ws_X12_isIn dX12_after_81 rfl (Nat.le_of_ble_eq_true rfl) ⟨by decide, by decide, by decide, by decide⟩) (fun r21961 u21962 h21960 => ?_)
  obtain ⟨rfl, rfl⟩ := h21960
  refine z_if_eq_f (tgt := 102) b dX12_after_84 (by decide) (by decide) ?_
  refine z_iload_n b dX12_after_87 rfl rfl ?_
  refine z_bipush (v := 9) b dX12_after_88 (by decide) ?_
  refine z_icmp_eq_f (tgt := 102) b dX12_after_90 (by decide) (by decide) ?_
  refine z_iload_n b dX12_after_93 rfl rfl ?_
  refine z_iconst (v := 3) b dX12_after_94 (by decide) ?_
  refine z_idiv (v := 1) b dX12_after_95 (by decide) (by decide) ?_
  refine z_iload_n b dX12_after_96 rfl rfl ?_
  refine z_iconst (v := 3) b dX12_after_97 (by decide) ?_
  refine z_irem (v := 0) b dX12_after_98 (by decide) (by decide) ?_
  refine z_icmp_ne_t (tgt := 104) b dX12_after_99 (by decide) (by decide) ?_
  refine z_iload_n b dX12_after_104 rfl rfl ?_
  refine z_bipush (v := 20) b dX12_after_105 (by decide) ?_
  refine z_icmp_ge_t (tgt := 119) b dX12_after_107 (by decide) (by decide) ?_
  refine z_iload_n b dX12_after_119 rfl rfl ?_
  refine z_bipush (v := 30) b dX12_after_120 (by decide) ?_
  refine z_icmp_ge_t (tgt := 137) b dX12_after_122 (by decide) (by decide) ?_
  refine z_aload_n b dX12_after_137 rfl rfl ?_
  refine z_get (q0 := 0) (k9 := 4) (v := .ref (a 5)) b (mw_0 cy a (si (sl S 2 1649317774848) 24 (-1))) rfl in_X12 (by decide) wf_X12_27 rfl dX12_after_138 ?_
  refine z_iload_n b dX12_after_141 rfl rfl ?_
  refine y_zald (q0 := 5) (j := 3) (v := (ar (si (sl S 2 1649317774848) 24 (-1)) 4 3)) b (mw_5 cy a (si (sl S 2 1649317774848) 24 (-1))) (by decide) rfl dX12_after_142 ?_
  refine z_eqi h_a_4_3 ?_
  refine z_if_eq_t (tgt := 150) b dX12_after_143 (by decide) (by decide) ?_
  refine z_iconst (v := 0) b dX12_after_150 (by decide) ?_
  exact z_iret (u := (si (sl S 2 1649317774848) 24 (-1))) b rfl dX12_after_151 ⟨rfl, rfl⟩ rfl (by decide) (by decide)

set_option maxHeartbeats 4000000 in
set_option maxRecDepth 100000 in
theorem c_X11_after_309 {l : Launch} {D : va_G} {cy : Nat → ClassId} {T0 tB tE : Nat} {a : Nat → Nat} {rw : Nat → Option Nat} (S : GS)   : Ct l D cy T0 tB tE yX11_after cX11_after 3 (some .int) 3 62 0 0 (cw cy tE a rw S) [.ref (a 0), .int 5, .int 34] (QI D (U := GS) (fun r u => (-1) = r ∧ S = u) (cw cy tE a rw)) := by
  refine Ct.ofZ RX11 "after" [(0, .ref (a 0)), (1, .int 5), (2, .int 34)] rfl rfl rfl rfl (Nat.le_of_ble_eq_true rfl) ?_
  intro p e R s m args below meth c A b
  refine z_iload_n b dX11_after_0 rfl rfl ?_
  refine z_calli b (z_runS (As := [.int 5]) (st := []) b (c_X11_isRow_8 S ) cf_X11_isRow wm_X11_169 ws_X11_isRow dX11_after_1 rfl (Nat.le_of_ble_eq_true rfl) ⟨by decide, by decide, by decide, by decide⟩) (fun r21964 u21965 h21963 => ?_)
  obtain ⟨rfl, rfl⟩ := h21963
  refine z_if_eq_f (tgt := 14) b dX11_after_4 (by decide) (by decide) ?_
  refine z_iload_n b dX11_after_7 rfl rfl ?_
  refine z_calli b (z_runS (As := [.int 34]) (st := []) b (c_X9_has_37 S ) cf_X9_has wm_X11_191 ws_X9_has dX11_after_8 rfl (Nat.le_of_ble_eq_true rfl) ⟨by decide, by decide, by decide, by decide⟩) (fun r21967 u21968 h21966 => ?_)
  obtain ⟨rfl, rfl⟩ := h21966
  refine z_if_ne_f (tgt := 16) b dX11_after_11 (by decide) (by decide) ?_
  refine z_iconst (v := (-1)) b dX11_after_14 (by decide) ?_
  exact z_iret (u := S) b rfl dX11_after_15 ⟨rfl, rfl⟩ rfl (by decide) (by decide)

set_option maxHeartbeats 4000000 in
set_option maxRecDepth 100000 in
theorem c_X12_after_309 {l : Launch} {D : va_G} {cy : Nat → ClassId} {T0 tB tE : Nat} {a : Nat → Nat} (S : GS)  (h_l_0 : fl S 0 = 1649317774848) (h_a_38_5 : ar S 38 5 = 0) (h_a_4_7 : ar S 4 7 = 0) (h_a_1_7 : ar S 1 7 = 0) (h_a_4_6 : ar S 4 6 = 0) (h_a_1_6 : ar S 1 6 = 0) (h_a_3_6 : ar S 3 6 = 0) (h_a_3_2 : ar S 3 2 = 0) (h_a_2_2 : ar S 2 2 = 3) (h_a_0_2 : ar S 0 2 = 0) (h_a_4_3 : ar S 4 3 = 0) (h_a_1_3 : ar S 1 3 = 0) (h_a_4_5 : ar S 4 5 = 0) (h_a_1_5 : ar S 1 5 = 0) (h_a_3_5 : ar S 3 5 = 0) (h_a_3_7 : ar S 3 7 = 0) (h_a_2_1 : ar S 2 1 = 3) (h_a_0_1 : ar S 0 1 = 0) (h_a_4_2 : ar S 4 2 = 0) (h_a_1_2 : ar S 1 2 = 0) (h_a_4_1 : ar S 4 1 = 0) (h_a_1_1 : ar S 1 1 = 0) (h_a_3_1 : ar S 3 1 = 0) (h_a_3_3 : ar S 3 3 = 0) (h_a_2_0 : ar S 2 0 = 3) (h_a_0_0 : ar S 0 0 = 0) (h_i_0 : fi S 0 = 0) : Ct l D cy T0 tB tE yX12_after cX12_after 4 (some .int) 2 47 0 0 (mw cy a S) [.ref (a 0), .int 5, .int 34] (QI D (U := GS) (fun r u => (-1) = r ∧ (si (sl S 2 1649317774848) 24 (-1)) = u) (mw cy a)) := by
  refine Ct.ofZ RX12 "after" [(0, .ref (a 0)), (1, .int 5), (2, .int 34)] rfl rfl rfl rfl (Nat.le_of_ble_eq_true rfl) ?_
  intro p e R s m args below meth c A b
  refine z_iload_n b dX12_after_0 rfl rfl ?_
  refine z_calli b (z_runS (As := [.int 5]) (st := []) b (c_X12_isRow_8 S ) cf_X12_isRow wm_X12_452 ws_X12_isRow dX12_after_1 rfl (Nat.le_of_ble_eq_true rfl) ⟨by decide, by decide, by decide, by decide⟩) (fun r21970 u21971 h21969 => ?_)
  obtain ⟨rfl, rfl⟩ := h21969
  refine z_if_ne_t (tgt := 9) b dX12_after_4 (by decide) (by decide) ?_
  refine z_aload_n b dX12_after_9 rfl rfl ?_
  refine z_iload_n b dX12_after_10 rfl rfl ?_
  refine z_iconst (v := 3) b dX12_after_11 (by decide) ?_
  refine z_iconst (v := 0) b dX12_after_12 (by decide) ?_
  refine z_calli b (z_runV (q0 := 0) (As := [.int 5, .int 3, .int 0]) (st := []) b (c_X12_goes_12 S h_l_0 h_a_38_5) cf_X12_goes (mw_0 cy a S) rfl wm_X12_464 wi_X12_goes ws_X12_goes dX12_after_13 rfl (Nat.le_of_ble_eq_true rfl) ⟨by decide, by decide, by decide, by decide⟩) (fun r21973 u21974 h21972 => ?_)
  obtain ⟨rfl, rfl⟩ := h21972
  refine z_pop b dX12_after_16 rfl ?_
  refine z_aload_n b dX12_after_17 rfl rfl ?_
  refine z_aload_n b dX12_after_18 rfl rfl ?_
  refine z_get (q0 := 0) (k9 := 68) (v := .long 1649317774848) b (mw_0 cy a (si (sl S 2 1649317774848) 24 (-1))) rfl in_X12 (by decide) wf_X12_458 rfl dX12_after_19 ?_
  refine z_callv b (z_runV (q0 := 0) (As := [.long 1649317774848]) (st := []) b (c_X12_takes (si (sl S 2 1649317774848) 24 (-1)) h_a_4_7 h_a_1_7 h_a_4_6 h_a_1_6 h_a_3_6 h_a_3_2 h_a_2_2 h_a_0_2 h_a_4_3 h_a_1_3 h_a_4_5 h_a_1_5 h_a_3_5 h_a_3_7 h_a_2_1 h_a_0_1 h_a_4_2 h_a_1_2 h_a_4_1 h_a_1_1 h_a_3_1 h_a_3_3 h_a_2_0 h_a_0_0 h_i_0) cf_X12_takes (mw_0 cy a (si (sl S 2 1649317774848) 24 (-1))) rfl wm_X12_174 wi_X12_takes ws_X12_takes dX12_after_22 rfl (Nat.le_of_ble_eq_true rfl) ⟨by decide, by decide, by decide, by decide⟩) (fun u21977 h21975 => ?_)
  obtain rfl := h21975
  refine z_iload_n b dX12_after_25 rfl rfl ?_
  refine z_calli b (z_runS (As := [.int 34]) (st := []) b (c_X12_isOne_39 (si (sl S 2 1649317774848) 24 (-1)) ) cf_X12_isOne wm_X12_170 ws_X12_isOne dX12_after_26 rfl (Nat.le_of_ble_eq_true rfl) ⟨by decide, by decide, by decide, by decide⟩) (fun r21979 u21980 h21978 => ?_)
  obtain ⟨rfl, rfl⟩ := h21978
  refine z_if_eq_t (tgt := 39) b dX12_after_29 (by decide) (by decide) ?_
  refine z_iload_n b dX12_after_39 rfl rfl ?_
  refine z_bipush (v := 50) b dX12_after_40 (by decide) ?_
  refine z_icmp_ne_t (tgt := 50) b dX12_after_42 (by decide) (by decide) ?_
  refine z_iload_n b dX12_after_50 rfl rfl ?_
  refine z_bipush (v := 40) b dX12_after_51 (by decide) ?_
  refine z_bipush (v := 42) b dX12_after_53 (by decide) ?_
  refine z_calli b (z_runS (As := [.int 34, .int 40, .int 42]) (st := []) b (c_X12_isIn_162 (si (sl S 2 1649317774848) 24 (-1)) ) cf_X12_isIn wm_X12_1 ws_X12_isIn dX12_after_55 rfl (Nat.le_of_ble_eq_true rfl) ⟨by decide, by decide, by decide, by decide⟩) (fun r21982 u21983 h21981 => ?_)
  obtain ⟨rfl, rfl⟩ := h21981
  refine z_if_eq_t (tgt := 71) b dX12_after_58 (by decide) (by decide) ?_
  refine z_iload_n b dX12_after_71 rfl rfl ?_
  refine z_bipush (v := 10) b dX12_after_72 (by decide) ?_
  refine z_irem (v := 4) b dX12_after_74 (by decide) (by decide) ?_
  refine z_istore_n (lv' := [(3, .int 4), (0, .ref (a 0)), (1, .int 5), (2, .int 34)]) b dX12_after_75 rfl (by decide) rfl ?_
  refine z_iload_n b dX12_after_76 rfl rfl ?_
  refine z_bipush (v := 10) b dX12_after_77 (by decide) ?_
  refine z_bipush (v := 38) b dX12_after_79 (by decide) ?_
  refine z_calli b (z_runS (As := [.int 34, .int 10, .int 38]) (st := []) b (c_X12_isIn_163 (si (sl S 2 1649317774848) 24 (-1)) ) cf_X12_isIn wm_X12_1 ws_X12_isIn dX12_after_81 rfl (Nat.le_of_ble_eq_true rfl) ⟨by decide, by decide, by decide, by decide⟩) (fun r21985 u21986 h21984 => ?_)
  obtain ⟨rfl, rfl⟩ := h21984
  refine z_if_eq_f (tgt := 102) b dX12_after_84 (by decide) (by decide) ?_
  refine z_iload_n b dX12_after_87 rfl rfl ?_
  refine z_bipush (v := 9) b dX12_after_88 (by decide) ?_
  refine z_icmp_eq_f (tgt := 102) b dX12_after_90 (by decide) (by decide) ?_
  refine z_iload_n b dX12_after_93 rfl rfl ?_
  refine z_iconst (v := 3) b dX12_after_94 (by decide) ?_
  refine z_idiv (v := 1) b dX12_after_95 (by decide) (by decide) ?_
  refine z_iload_n b dX12_after_96 rfl rfl ?_
  refine z_iconst (v := 3) b dX12_after_97 (by decide) ?_
  refine z_irem (v := 1) b dX12_after_98 (by decide) (by decide) ?_
  refine z_icmp_ne_f (tgt := 104) b dX12_after_99 (by decide) (by decide) ?_
  refine z_iconst (v := (-1)) b dX12_after_102 (by decide) ?_
  exact z_iret (u := (si (sl S 2 1649317774848) 24 (-1))) b rfl dX12_after_103 ⟨rfl, rfl⟩ rfl (by decide) (by decide)

set_option maxHeartbeats 4000000 in
set_option maxRecDepth 100000 in
theorem c_X11_after_310 {l : Launch} {D : va_G} {cy : Nat → ClassId} {T0 tB tE : Nat} {a : Nat → Nat} {rw : Nat → Option Nat} (S : GS)  (h_i_14 : fi S 14 = (-1)) (h_i_37 : fi S 37 = 0) (h_a_4_35 : ar S 4 35 = 0) (hrw : ∀ i, i < 6 → rw i = some (a (36 + 2 * i))) : Ct l D cy T0 tB tE yX11_after cX11_after 3 (some .int) 3 86 0 0 (cw cy tE a rw S) [.ref (a 0), .int 5, .int 35] (QI D (U := GS) (fun r u => 0 = r ∧ (sa S 8 (va_cpy (ar S 4) (ar S 8) 0 0 51)) = u) (cw cy tE a rw)) := by
  refine Ct.ofZ RX11 "after" [(0, .ref (a 0)), (1, .int 5), (2, .int 35)] rfl rfl rfl rfl (Nat.le_of_ble_eq_true rfl) ?_
  intro p e R s m args below meth c A b
  refine z_iload_n b dX11_after_0 rfl rfl ?_
  refine z_calli b (z_runS (As := [.int 5]) (st := []) b (c_X11_isRow_8 S ) cf_X11_isRow wm_X11_169 ws_X11_isRow dX11_after_1 rfl (Nat.le_of_ble_eq_true rfl) ⟨by decide, by decide, by decide, by decide⟩) (fun r21988 u21989 h21987 => ?_)
  obtain ⟨rfl, rfl⟩ := h21987
  refine z_if_eq_f (tgt := 14) b dX11_after_4 (by decide) (by decide) ?_
  refine z_iload_n b dX11_after_7 rfl rfl ?_
  refine z_calli b (z_runS (As := [.int 35]) (st := []) b (c_X9_has_38 S ) cf_X9_has wm_X11_191 ws_X9_has dX11_after_8 rfl (Nat.le_of_ble_eq_true rfl) ⟨by decide, by decide, by decide, by decide⟩) (fun r21991 u21992 h21990 => ?_)
  obtain ⟨rfl, rfl⟩ := h21990
  refine z_if_ne_t (tgt := 16) b dX11_after_11 (by decide) (by decide) ?_
  refine z_aload_n b dX11_after_16 rfl rfl ?_
  refine z_get (q0 := 0) (k9 := 5) (v := .ref (a 16)) b (cw_0 cy tE a rw S) rfl in_X11 (by decide) wf_X11_43 rfl dX11_after_17 ?_
  refine z_aload_n b dX11_after_20 rfl rfl ?_
  refine z_get (q0 := 0) (k9 := 7) (v := .ref (a 35)) b (cw_0 cy tE a rw S) rfl in_X11 (by decide) wf_X11_58 rfl dX11_after_21 ?_
  refine z_iload_n b dX11_after_24 rfl rfl ?_
  refine y_aald (q0 := 35) (t0 := 4) (j := 5) (v := .ref (a 46)) b (cw_35 cy tE a rw S) rfl (by decide) (by rw [hrw 5 (by decide)]; rfl) dX11_after_25 ?_
  refine z_aload_n b dX11_after_26 rfl rfl ?_
  refine z_get (q0 := 0) (k9 := 4) (v := .ref (a 14)) b (cw_0 cy tE a rw S) rfl in_X11 (by decide) wf_X11_34 rfl dX11_after_27 ?_
  refine z_iconst (v := 3) b dX11_after_30 (by decide) ?_
  refine z_iconst (v := 0) b dX11_after_31 (by decide) ?_
  refine z_calli b (z_runV (q0 := 16) (As := [.ref (a 46), .ref (a 14), .int 3, .int 0]) (st := []) b (c_X2_follow_12 S h_i_14 h_i_37) cf_X2_follow (cw_16 cy tE a rw S) rfl wm_X11_184 wi_X2_follow ws_X2_follow dX11_after_32 rfl (Nat.le_of_ble_eq_true rfl) ⟨by decide, by decide, by decide, by decide⟩) (fun r21994 u21995 h21993 => ?_)
  obtain ⟨rfl, rfl⟩ := h21993
  refine z_pop b dX11_after_35 rfl ?_
  refine z_aload_n b dX11_after_36 rfl rfl ?_
  refine z_get (q0 := 0) (k9 := 5) (v := .ref (a 16)) b (cw_0 cy tE a rw (sa S 8 (va_cpy (ar S 4) (ar S 8) 0 0 51))) rfl in_X11 (by decide) wf_X11_43 rfl dX11_after_37 ?_
  refine z_get (q0 := 16) (k9 := 3) (v := .ref (a 23)) b (cw_16 cy tE a rw (sa S 8 (va_cpy (ar S 4) (ar S 8) 0 0 51))) rfl in_X2 (by decide) wf_X11_194 rfl dX11_after_40 ?_
  refine z_iload_n b dX11_after_43 rfl rfl ?_
  refine z_calli b (z_runV (q0 := 23) (As := [.int 35]) (st := []) b (c_X9_get_28 (sa S 8 (va_cpy (ar S 4) (ar S 8) 0 0 51)) h_a_4_35) cf_X9_get (cw_23 cy tE a rw (sa S 8 (va_cpy (ar S 4) (ar S 8) 0 0 51))) rfl wm_X11_197 wi_X9_get ws_X9_get dX11_after_44 rfl (Nat.le_of_ble_eq_true rfl) ⟨by decide, by decide, by decide, by decide⟩) (fun r21997 u21998 h21996 => ?_)
  obtain ⟨rfl, rfl⟩ := h21996
  exact z_iret (u := (sa S 8 (va_cpy (ar S 4) (ar S 8) 0 0 51))) b rfl dX11_after_47 ⟨rfl, rfl⟩ rfl (by decide) (by decide)

set_option maxHeartbeats 4000000 in
set_option maxRecDepth 100000 in
theorem c_X12_after_310 {l : Launch} {D : va_G} {cy : Nat → ClassId} {T0 tB tE : Nat} {a : Nat → Nat} (S : GS)  (h_l_0 : fl S 0 = 1649317774848) (h_a_38_5 : ar S 38 5 = 0) (h_a_4_7 : ar S 4 7 = 0) (h_a_1_7 : ar S 1 7 = 0) (h_a_4_6 : ar S 4 6 = 0) (h_a_1_6 : ar S 1 6 = 0) (h_a_3_6 : ar S 3 6 = 0) (h_a_3_2 : ar S 3 2 = 0) (h_a_2_2 : ar S 2 2 = 3) (h_a_0_2 : ar S 0 2 = 0) (h_a_4_3 : ar S 4 3 = 0) (h_a_1_3 : ar S 1 3 = 0) (h_a_4_5 : ar S 4 5 = 0) (h_a_1_5 : ar S 1 5 = 0) (h_a_3_5 : ar S 3 5 = 0) (h_a_3_7 : ar S 3 7 = 0) (h_a_2_1 : ar S 2 1 = 3) (h_a_0_1 : ar S 0 1 = 0) (h_a_4_2 : ar S 4 2 = 0) (h_a_1_2 : ar S 1 2 = 0) (h_a_4_1 : ar S 4 1 = 0) (h_a_1_1 : ar S 1 1 = 0) (h_a_3_1 : ar S 3 1 = 0) (h_a_3_3 : ar S 3 3 = 0) (h_a_2_0 : ar S 2 0 = 3) (h_a_0_0 : ar S 0 0 = 0) (h_i_0 : fi S 0 = 0) : Ct l D cy T0 tB tE yX12_after cX12_after 4 (some .int) 2 47 0 0 (mw cy a S) [.ref (a 0), .int 5, .int 35] (QI D (U := GS) (fun r u => 0 = r ∧ (si (sl S 2 1649317774848) 24 (-1)) = u) (mw cy a)) := by
  refine Ct.ofZ RX12 "after" [(0, .ref (a 0)), (1, .int 5), (2, .int 35)] rfl rfl rfl rfl (Nat.le_of_ble_eq_true rfl) ?_
  intro p e R s m args below meth c A b
  refine z_iload_n b dX12_after_0 rfl rfl ?_
  refine z_calli b (z_runS (As := [.int 5]) (st := []) b (c_X12_isRow_8 S ) cf_X12_isRow wm_X12_452 ws_X12_isRow dX12_after_1 rfl (Nat.le_of_ble_eq_true rfl) ⟨by decide, by decide, by decide, by decide⟩) (fun r22000 u22001 h21999 => ?_)
  obtain ⟨rfl, rfl⟩ := h21999
  refine z_if_ne_t (tgt := 9) b dX12_after_4 (by decide) (by decide) ?_
  refine z_aload_n b dX12_after_9 rfl rfl ?_
  refine z_iload_n b dX12_after_10 rfl rfl ?_
  refine z_iconst (v := 3) b dX12_after_11 (by decide) ?_
  refine z_iconst (v := 0) b dX12_after_12 (by decide) ?_
  refine z_calli b (z_runV (q0 := 0) (As := [.int 5, .int 3, .int 0]) (st := []) b (c_X12_goes_12 S h_l_0 h_a_38_5) cf_X12_goes (mw_0 cy a S) rfl wm_X12_464 wi_X12_goes ws_X12_goes dX12_after_13 rfl (Nat.le_of_ble_eq_true rfl) ⟨by decide, by decide, by decide, by decide⟩) (fun r22003 u22004 h22002 => ?_)
  obtain ⟨rfl, rfl⟩ := h22002
  refine z_pop b dX12_after_16 rfl ?_
  refine z_aload_n b dX12_after_17 rfl rfl ?_
  refine z_aload_n b dX12_after_18 rfl rfl ?_
  refine z_get (q0 := 0) (k9 := 68) (v := .long 1649317774848) b (mw_0 cy a (si (sl S 2 1649317774848) 24 (-1))) rfl in_X12 (by decide) wf_X12_458 rfl dX12_after_19 ?_
  refine z_callv b (z_runV (q0 := 0) (As := [.long 1649317774848]) (st := []) b (c_X12_takes (si (sl S 2 1649317774848) 24 (-1)) h_a_4_7 h_a_1_7 h_a_4_6 h_a_1_6 h_a_3_6 h_a_3_2 h_a_2_2 h_a_0_2 h_a_4_3 h_a_1_3 h_a_4_5 h_a_1_5 h_a_3_5 h_a_3_7 h_a_2_1 h_a_0_1 h_a_4_2 h_a_1_2 h_a_4_1 h_a_1_1 h_a_3_1 h_a_3_3 h_a_2_0 h_a_0_0 h_i_0) cf_X12_takes (mw_0 cy a (si (sl S 2 1649317774848) 24 (-1))) rfl wm_X12_174 wi_X12_takes ws_X12_takes dX12_after_22 rfl (Nat.le_of_ble_eq_true rfl) ⟨by decide, by decide, by decide, by decide⟩) (fun u22007 h22005 => ?_)
  obtain rfl := h22005
  refine z_iload_n b dX12_after_25 rfl rfl ?_
  refine z_calli b (z_runS (As := [.int 35]) (st := []) b (c_X12_isOne_40 (si (sl S 2 1649317774848) 24 (-1)) ) cf_X12_isOne wm_X12_170 ws_X12_isOne dX12_after_26 rfl (Nat.le_of_ble_eq_true rfl) ⟨by decide, by decide, by decide, by decide⟩) (fun r22009 u22010 h22008 => ?_)
  obtain ⟨rfl, rfl⟩ := h22008
  refine z_if_eq_t (tgt := 39) b dX12_after_29 (by decide) (by decide) ?_
  refine z_iload_n b dX12_after_39 rfl rfl ?_
  refine z_bipush (v := 50) b dX12_after_40 (by decide) ?_
  refine z_icmp_ne_t (tgt := 50) b dX12_after_42 (by decide) (by decide) ?_
  refine z_iload_n b dX12_after_50 rfl rfl ?_
  refine z_bipush (v := 40) b dX12_after_51 (by decide) ?_
  refine z_bipush (v := 42) b dX12_after_53 (by decide) ?_
  refine z_calli b (z_runS (As := [.int 35, .int 40, .int 42]) (st := []) b (c_X12_isIn_165 (si (sl S 2 1649317774848) 24 (-1)) ) cf_X12_isIn wm_X12_1 ws_X12_isIn dX12_after_55 rfl (Nat.le_of_ble_eq_true rfl) ⟨by decide, by decide, by decide, by decide⟩) (fun r22012 u22013 h22011 => ?_)
  obtain ⟨rfl, rfl⟩ := h22011
  refine z_if_eq_t (tgt := 71) b dX12_after_58 (by decide) (by decide) ?_
  refine z_iload_n b dX12_after_71 rfl rfl ?_
  refine z_bipush (v := 10) b dX12_after_72 (by decide) ?_
  refine z_irem (v := 5) b dX12_after_74 (by decide) (by decide) ?_
  refine z_istore_n (lv' := [(3, .int 5), (0, .ref (a 0)), (1, .int 5), (2, .int 35)]) b dX12_after_75 rfl (by decide) rfl ?_
  refine z_iload_n b dX12_after_76 rfl rfl ?_
  refine z_bipush (v := 10) b dX12_after_77 (by decide) ?_
  refine z_bipush (v := 38) b dX12_after_79 (by decide) ?_
  refine z_calli b (z_runS (As := [.int 35, .int 10, .int 38]) (st := []) b (c_X12_isIn_166 (si (sl S 2 1649317774848) 24 (-1)) ) cf_X12_isIn wm_X12_1 ws_X12_isIn dX12_after_81 rfl (Nat.le_of_ble_eq_true rfl) ⟨by decide, by decide, by decide, by decide⟩) (fun r22015 u22016 h22014 => ?_)
  obtain ⟨rfl, rfl⟩ := h22014
  refine z_if_eq_f (tgt := 102) b dX12_after_84 (by decide) (by decide) ?_
  refine z_iload_n b dX12_after_87 rfl rfl ?_
  refine z_bipush (v := 9) b dX12_after_88 (by decide) ?_
  refine z_icmp_eq_f (tgt := 102) b dX12_after_90 (by decide) (by decide) ?_
  refine z_iload_n b dX12_after_93 rfl rfl ?_
  refine z_iconst (v := 3) b dX12_after_94 (by decide) ?_
  refine z_idiv (v := 1) b dX12_after_95 (by decide) (by decide) ?_
  refine z_iload_n b dX12_after_96 rfl rfl ?_
  refine z_iconst (v := 3) b dX12_after_97 (by decide) ?_
  refine z_irem (v := 2) b dX12_after_98 (by decide) (by decide) ?_
  refine z_icmp_ne_t (tgt := 104) b dX12_after_99 (by decide) (by decide) ?_
  refine z_iload_n b dX12_after_104 rfl rfl ?_
  refine z_bipush (v := 20) b dX12_after_105 (by decide) ?_
  refine z_icmp_ge_t (tgt := 119) b dX12_after_107 (by decide) (by decide) ?_
  refine z_iload_n b dX12_after_119 rfl rfl ?_
  refine z_bipush (v := 30) b dX12_after_120 (by decide) ?_
  refine z_icmp_ge_t (tgt := 137) b dX12_after_122 (by decide) (by decide) ?_
  refine z_aload_n b dX12_after_137 rfl rfl ?_
  refine z_get (q0 := 0) (k9 := 4) (v := .ref (a 5)) b (mw_0 cy a (si (sl S 2 1649317774848) 24 (-1))) rfl in_X12 (by decide) wf_X12_27 rfl dX12_after_138 ?_
  refine z_iload_n b dX12_after_141 rfl rfl ?_
  refine y_zald (q0 := 5) (j := 5) (v := (ar (si (sl S 2 1649317774848) 24 (-1)) 4 5)) b (mw_5 cy a (si (sl S 2 1649317774848) 24 (-1))) (by decide) rfl dX12_after_142 ?_
  refine z_eqi h_a_4_5 ?_
  refine z_if_eq_t (tgt := 150) b dX12_after_143 (by decide) (by decide) ?_
  refine z_iconst (v := 0) b dX12_after_150 (by decide) ?_
  exact z_iret (u := (si (sl S 2 1649317774848) 24 (-1))) b rfl dX12_after_151 ⟨rfl, rfl⟩ rfl (by decide) (by decide)

set_option maxHeartbeats 4000000 in
set_option maxRecDepth 100000 in
theorem c_X11_after_311 {l : Launch} {D : va_G} {cy : Nat → ClassId} {T0 tB tE : Nat} {a : Nat → Nat} {rw : Nat → Option Nat} (S : GS)  (h_i_14 : fi S 14 = (-1)) (h_i_37 : fi S 37 = 0) (h_a_4_36 : ar S 4 36 = 0) (hrw : ∀ i, i < 6 → rw i = some (a (36 + 2 * i))) : Ct l D cy T0 tB tE yX11_after cX11_after 3 (some .int) 3 86 0 0 (cw cy tE a rw S) [.ref (a 0), .int 5, .int 36] (QI D (U := GS) (fun r u => 0 = r ∧ (sa S 8 (va_cpy (ar S 4) (ar S 8) 0 0 51)) = u) (cw cy tE a rw)) := by
  refine Ct.ofZ RX11 "after" [(0, .ref (a 0)), (1, .int 5), (2, .int 36)] rfl rfl rfl rfl (Nat.le_of_ble_eq_true rfl) ?_
  intro p e R s m args below meth c A b
  refine z_iload_n b dX11_after_0 rfl rfl ?_
  refine z_calli b (z_runS (As := [.int 5]) (st := []) b (c_X11_isRow_8 S ) cf_X11_isRow wm_X11_169 ws_X11_isRow dX11_after_1 rfl (Nat.le_of_ble_eq_true rfl) ⟨by decide, by decide, by decide, by decide⟩) (fun r22018 u22019 h22017 => ?_)
  obtain ⟨rfl, rfl⟩ := h22017
  refine z_if_eq_f (tgt := 14) b dX11_after_4 (by decide) (by decide) ?_
  refine z_iload_n b dX11_after_7 rfl rfl ?_
  refine z_calli b (z_runS (As := [.int 36]) (st := []) b (c_X9_has_39 S ) cf_X9_has wm_X11_191 ws_X9_has dX11_after_8 rfl (Nat.le_of_ble_eq_true rfl) ⟨by decide, by decide, by decide, by decide⟩) (fun r22021 u22022 h22020 => ?_)
  obtain ⟨rfl, rfl⟩ := h22020
  refine z_if_ne_t (tgt := 16) b dX11_after_11 (by decide) (by decide) ?_
  refine z_aload_n b dX11_after_16 rfl rfl ?_
  refine z_get (q0 := 0) (k9 := 5) (v := .ref (a 16)) b (cw_0 cy tE a rw S) rfl in_X11 (by decide) wf_X11_43 rfl dX11_after_17 ?_
  refine z_aload_n b dX11_after_20 rfl rfl ?_
  refine z_get (q0 := 0) (k9 := 7) (v := .ref (a 35)) b (cw_0 cy tE a rw S) rfl in_X11 (by decide) wf_X11_58 rfl dX11_after_21 ?_
  refine z_iload_n b dX11_after_24 rfl rfl ?_
  refine y_aald (q0 := 35) (t0 := 4) (j := 5) (v := .ref (a 46)) b (cw_35 cy tE a rw S) rfl (by decide) (by rw [hrw 5 (by decide)]; rfl) dX11_after_25 ?_
  refine z_aload_n b dX11_after_26 rfl rfl ?_
  refine z_get (q0 := 0) (k9 := 4) (v := .ref (a 14)) b (cw_0 cy tE a rw S) rfl in_X11 (by decide) wf_X11_34 rfl dX11_after_27 ?_
  refine z_iconst (v := 3) b dX11_after_30 (by decide) ?_
  refine z_iconst (v := 0) b dX11_after_31 (by decide) ?_
  refine z_calli b (z_runV (q0 := 16) (As := [.ref (a 46), .ref (a 14), .int 3, .int 0]) (st := []) b (c_X2_follow_12 S h_i_14 h_i_37) cf_X2_follow (cw_16 cy tE a rw S) rfl wm_X11_184 wi_X2_follow ws_X2_follow dX11_after_32 rfl (Nat.le_of_ble_eq_true rfl) ⟨by decide, by decide, by decide, by decide⟩) (fun r22024 u22025 h22023 => ?_)
  obtain ⟨rfl, rfl⟩ := h22023
  refine z_pop b dX11_after_35 rfl ?_
  refine z_aload_n b dX11_after_36 rfl rfl ?_
  refine z_get (q0 := 0) (k9 := 5) (v := .ref (a 16)) b (cw_0 cy tE a rw (sa S 8 (va_cpy (ar S 4) (ar S 8) 0 0 51))) rfl in_X11 (by decide) wf_X11_43 rfl dX11_after_37 ?_
  refine z_get (q0 := 16) (k9 := 3) (v := .ref (a 23)) b (cw_16 cy tE a rw (sa S 8 (va_cpy (ar S 4) (ar S 8) 0 0 51))) rfl in_X2 (by decide) wf_X11_194 rfl dX11_after_40 ?_
  refine z_iload_n b dX11_after_43 rfl rfl ?_
  refine z_calli b (z_runV (q0 := 23) (As := [.int 36]) (st := []) b (c_X9_get_29 (sa S 8 (va_cpy (ar S 4) (ar S 8) 0 0 51)) h_a_4_36) cf_X9_get (cw_23 cy tE a rw (sa S 8 (va_cpy (ar S 4) (ar S 8) 0 0 51))) rfl wm_X11_197 wi_X9_get ws_X9_get dX11_after_44 rfl (Nat.le_of_ble_eq_true rfl) ⟨by decide, by decide, by decide, by decide⟩) (fun r22027 u22028 h22026 => ?_)
  obtain ⟨rfl, rfl⟩ := h22026
  exact z_iret (u := (sa S 8 (va_cpy (ar S 4) (ar S 8) 0 0 51))) b rfl dX11_after_47 ⟨rfl, rfl⟩ rfl (by decide) (by decide)

set_option maxHeartbeats 4000000 in
set_option maxRecDepth 100000 in
theorem c_X12_after_311 {l : Launch} {D : va_G} {cy : Nat → ClassId} {T0 tB tE : Nat} {a : Nat → Nat} (S : GS)  (h_l_0 : fl S 0 = 1649317774848) (h_a_38_5 : ar S 38 5 = 0) (h_a_4_7 : ar S 4 7 = 0) (h_a_1_7 : ar S 1 7 = 0) (h_a_4_6 : ar S 4 6 = 0) (h_a_1_6 : ar S 1 6 = 0) (h_a_3_6 : ar S 3 6 = 0) (h_a_3_2 : ar S 3 2 = 0) (h_a_2_2 : ar S 2 2 = 3) (h_a_0_2 : ar S 0 2 = 0) (h_a_4_3 : ar S 4 3 = 0) (h_a_1_3 : ar S 1 3 = 0) (h_a_4_5 : ar S 4 5 = 0) (h_a_1_5 : ar S 1 5 = 0) (h_a_3_5 : ar S 3 5 = 0) (h_a_3_7 : ar S 3 7 = 0) (h_a_2_1 : ar S 2 1 = 3) (h_a_0_1 : ar S 0 1 = 0) (h_a_4_2 : ar S 4 2 = 0) (h_a_1_2 : ar S 1 2 = 0) (h_a_4_1 : ar S 4 1 = 0) (h_a_1_1 : ar S 1 1 = 0) (h_a_3_1 : ar S 3 1 = 0) (h_a_3_3 : ar S 3 3 = 0) (h_a_2_0 : ar S 2 0 = 3) (h_a_0_0 : ar S 0 0 = 0) (h_i_0 : fi S 0 = 0) : Ct l D cy T0 tB tE yX12_after cX12_after 4 (some .int) 2 47 0 0 (mw cy a S) [.ref (a 0), .int 5, .int 36] (QI D (U := GS) (fun r u => 0 = r ∧ (si (sl S 2 1649317774848) 24 (-1)) = u) (mw cy a)) := by
  refine Ct.ofZ RX12 "after" [(0, .ref (a 0)), (1, .int 5), (2, .int 36)] rfl rfl rfl rfl (Nat.le_of_ble_eq_true rfl) ?_
  intro p e R s m args below meth c A b
  refine z_iload_n b dX12_after_0 rfl rfl ?_
  refine z_calli b (z_runS (As := [.int 5]) (st := []) b (c_X12_isRow_8 S ) cf_X12_isRow wm_X12_452 ws_X12_isRow dX12_after_1 rfl (Nat.le_of_ble_eq_true rfl) ⟨by decide, by decide, by decide, by decide⟩) (fun r22030 u22031 h22029 => ?_)
  obtain ⟨rfl, rfl⟩ := h22029
  refine z_if_ne_t (tgt := 9) b dX12_after_4 (by decide) (by decide) ?_
  refine z_aload_n b dX12_after_9 rfl rfl ?_
  refine z_iload_n b dX12_after_10 rfl rfl ?_
  refine z_iconst (v := 3) b dX12_after_11 (by decide) ?_
  refine z_iconst (v := 0) b dX12_after_12 (by decide) ?_
  refine z_calli b (z_runV (q0 := 0) (As := [.int 5, .int 3, .int 0]) (st := []) b (c_X12_goes_12 S h_l_0 h_a_38_5) cf_X12_goes (mw_0 cy a S) rfl wm_X12_464 wi_X12_goes ws_X12_goes dX12_after_13 rfl (Nat.le_of_ble_eq_true rfl) ⟨by decide, by decide, by decide, by decide⟩) (fun r22033 u22034 h22032 => ?_)
  obtain ⟨rfl, rfl⟩ := h22032
  refine z_pop b dX12_after_16 rfl ?_
  refine z_aload_n b dX12_after_17 rfl rfl ?_
  refine z_aload_n b dX12_after_18 rfl rfl ?_
  refine z_get (q0 := 0) (k9 := 68) (v := .long 1649317774848) b (mw_0 cy a (si (sl S 2 1649317774848) 24 (-1))) rfl in_X12 (by decide) wf_X12_458 rfl dX12_after_19 ?_
  refine z_callv b (z_runV (q0 := 0) (As := [.long 1649317774848]) (st := []) b (c_X12_takes (si (sl S 2 1649317774848) 24 (-1)) h_a_4_7 h_a_1_7 h_a_4_6 h_a_1_6 h_a_3_6 h_a_3_2 h_a_2_2 h_a_0_2 h_a_4_3 h_a_1_3 h_a_4_5 h_a_1_5 h_a_3_5 h_a_3_7 h_a_2_1 h_a_0_1 h_a_4_2 h_a_1_2 h_a_4_1 h_a_1_1 h_a_3_1 h_a_3_3 h_a_2_0 h_a_0_0 h_i_0) cf_X12_takes (mw_0 cy a (si (sl S 2 1649317774848) 24 (-1))) rfl wm_X12_174 wi_X12_takes ws_X12_takes dX12_after_22 rfl (Nat.le_of_ble_eq_true rfl) ⟨by decide, by decide, by decide, by decide⟩) (fun u22037 h22035 => ?_)
  obtain rfl := h22035
  refine z_iload_n b dX12_after_25 rfl rfl ?_
  refine z_calli b (z_runS (As := [.int 36]) (st := []) b (c_X12_isOne_41 (si (sl S 2 1649317774848) 24 (-1)) ) cf_X12_isOne wm_X12_170 ws_X12_isOne dX12_after_26 rfl (Nat.le_of_ble_eq_true rfl) ⟨by decide, by decide, by decide, by decide⟩) (fun r22039 u22040 h22038 => ?_)
  obtain ⟨rfl, rfl⟩ := h22038
  refine z_if_eq_t (tgt := 39) b dX12_after_29 (by decide) (by decide) ?_
  refine z_iload_n b dX12_after_39 rfl rfl ?_
  refine z_bipush (v := 50) b dX12_after_40 (by decide) ?_
  refine z_icmp_ne_t (tgt := 50) b dX12_after_42 (by decide) (by decide) ?_
  refine z_iload_n b dX12_after_50 rfl rfl ?_
  refine z_bipush (v := 40) b dX12_after_51 (by decide) ?_
  refine z_bipush (v := 42) b dX12_after_53 (by decide) ?_
  refine z_calli b (z_runS (As := [.int 36, .int 40, .int 42]) (st := []) b (c_X12_isIn_168 (si (sl S 2 1649317774848) 24 (-1)) ) cf_X12_isIn wm_X12_1 ws_X12_isIn dX12_after_55 rfl (Nat.le_of_ble_eq_true rfl) ⟨by decide, by decide, by decide, by decide⟩) (fun r22042 u22043 h22041 => ?_)
  obtain ⟨rfl, rfl⟩ := h22041
  refine z_if_eq_t (tgt := 71) b dX12_after_58 (by decide) (by decide) ?_
  refine z_iload_n b dX12_after_71 rfl rfl ?_
  refine z_bipush (v := 10) b dX12_after_72 (by decide) ?_
  refine z_irem (v := 6) b dX12_after_74 (by decide) (by decide) ?_
  refine z_istore_n (lv' := [(3, .int 6), (0, .ref (a 0)), (1, .int 5), (2, .int 36)]) b dX12_after_75 rfl (by decide) rfl ?_
  refine z_iload_n b dX12_after_76 rfl rfl ?_
  refine z_bipush (v := 10) b dX12_after_77 (by decide) ?_
  refine z_bipush (v := 38) b dX12_after_79 (by decide) ?_
  refine z_calli b (z_runS (As := [.int 36, .int 10, .int 38]) (st := []) b (c_X12_isIn_169 (si (sl S 2 1649317774848) 24 (-1)) ) cf_X12_isIn wm_X12_1 ws_X12_isIn dX12_after_81 rfl (Nat.le_of_ble_eq_true rfl) ⟨by decide, by decide, by decide, by decide⟩) (fun r22045 u22046 h22044 => ?_)
  obtain ⟨rfl, rfl⟩ := h22044
  refine z_if_eq_f (tgt := 102) b dX12_after_84 (by decide) (by decide) ?_
  refine z_iload_n b dX12_after_87 rfl rfl ?_
  refine z_bipush (v := 9) b dX12_after_88 (by decide) ?_
  refine z_icmp_eq_f (tgt := 102) b dX12_after_90 (by decide) (by decide) ?_
  refine z_iload_n b dX12_after_93 rfl rfl ?_
  refine z_iconst (v := 3) b dX12_after_94 (by decide) ?_
  refine z_idiv (v := 2) b dX12_after_95 (by decide) (by decide) ?_
  refine z_iload_n b dX12_after_96 rfl rfl ?_
  refine z_iconst (v := 3) b dX12_after_97 (by decide) ?_
  refine z_irem (v := 0) b dX12_after_98 (by decide) (by decide) ?_
  refine z_icmp_ne_t (tgt := 104) b dX12_after_99 (by decide) (by decide) ?_
  refine z_iload_n b dX12_after_104 rfl rfl ?_
  refine z_bipush (v := 20) b dX12_after_105 (by decide) ?_
  refine z_icmp_ge_t (tgt := 119) b dX12_after_107 (by decide) (by decide) ?_
  refine z_iload_n b dX12_after_119 rfl rfl ?_
  refine z_bipush (v := 30) b dX12_after_120 (by decide) ?_
  refine z_icmp_ge_t (tgt := 137) b dX12_after_122 (by decide) (by decide) ?_
  refine z_aload_n b dX12_after_137 rfl rfl ?_
  refine z_get (q0 := 0) (k9 := 4) (v := .ref (a 5)) b (mw_0 cy a (si (sl S 2 1649317774848) 24 (-1))) rfl in_X12 (by decide) wf_X12_27 rfl dX12_after_138 ?_
  refine z_iload_n b dX12_after_141 rfl rfl ?_
  refine y_zald (q0 := 5) (j := 6) (v := (ar (si (sl S 2 1649317774848) 24 (-1)) 4 6)) b (mw_5 cy a (si (sl S 2 1649317774848) 24 (-1))) (by decide) rfl dX12_after_142 ?_
  refine z_eqi h_a_4_6 ?_
  refine z_if_eq_t (tgt := 150) b dX12_after_143 (by decide) (by decide) ?_
  refine z_iconst (v := 0) b dX12_after_150 (by decide) ?_
  exact z_iret (u := (si (sl S 2 1649317774848) 24 (-1))) b rfl dX12_after_151 ⟨rfl, rfl⟩ rfl (by decide) (by decide)

set_option maxHeartbeats 4000000 in
set_option maxRecDepth 100000 in
theorem c_X11_after_312 {l : Launch} {D : va_G} {cy : Nat → ClassId} {T0 tB tE : Nat} {a : Nat → Nat} {rw : Nat → Option Nat} (S : GS)  (h_i_14 : fi S 14 = (-1)) (h_i_37 : fi S 37 = 0) (h_a_4_37 : ar S 4 37 = 0) (hrw : ∀ i, i < 6 → rw i = some (a (36 + 2 * i))) : Ct l D cy T0 tB tE yX11_after cX11_after 3 (some .int) 3 86 0 0 (cw cy tE a rw S) [.ref (a 0), .int 5, .int 37] (QI D (U := GS) (fun r u => 0 = r ∧ (sa S 8 (va_cpy (ar S 4) (ar S 8) 0 0 51)) = u) (cw cy tE a rw)) := by
  refine Ct.ofZ RX11 "after" [(0, .ref (a 0)), (1, .int 5), (2, .int 37)] rfl rfl rfl rfl (Nat.le_of_ble_eq_true rfl) ?_
  intro p e R s m args below meth c A b
  refine z_iload_n b dX11_after_0 rfl rfl ?_
  refine z_calli b (z_runS (As := [.int 5]) (st := []) b (c_X11_isRow_8 S ) cf_X11_isRow wm_X11_169 ws_X11_isRow dX11_after_1 rfl (Nat.le_of_ble_eq_true rfl) ⟨by decide, by decide, by decide, by decide⟩) (fun r22048 u22049 h22047 => ?_)
  obtain ⟨rfl, rfl⟩ := h22047
  refine z_if_eq_f (tgt := 14) b dX11_after_4 (by decide) (by decide) ?_
  refine z_iload_n b dX11_after_7 rfl rfl ?_
  refine z_calli b (z_runS (As := [.int 37]) (st := []) b (c_X9_has_40 S ) cf_X9_has wm_X11_191 ws_X9_has dX11_after_8 rfl (Nat.le_of_ble_eq_true rfl) ⟨by decide, by decide, by decide, by decide⟩) (fun r22051 u22052 h22050 => ?_)
  obtain ⟨rfl, rfl⟩ := h22050
  refine z_if_ne_t (tgt := 16) b dX11_after_11 (by decide) (by decide) ?_
  refine z_aload_n b dX11_after_16 rfl rfl ?_
  refine z_get (q0 := 0) (k9 := 5) (v := .ref (a 16)) b (cw_0 cy tE a rw S) rfl in_X11 (by decide) wf_X11_43 rfl dX11_after_17 ?_
  refine z_aload_n b dX11_after_20 rfl rfl ?_
  refine z_get (q0 := 0) (k9 := 7) (v := .ref (a 35)) b (cw_0 cy tE a rw S) rfl in_X11 (by decide) wf_X11_58 rfl dX11_after_21 ?_
  refine z_iload_n b dX11_after_24 rfl rfl ?_
  refine y_aald (q0 := 35) (t0 := 4) (j := 5) (v := .ref (a 46)) b (cw_35 cy tE a rw S) rfl (by decide) (by rw [hrw 5 (by decide)]; rfl) dX11_after_25 ?_
  refine z_aload_n b dX11_after_26 rfl rfl ?_
  refine z_get (q0 := 0) (k9 := 4) (v := .ref (a 14)) b (cw_0 cy tE a rw S) rfl in_X11 (by decide) wf_X11_34 rfl dX11_after_27 ?_
  refine z_iconst (v := 3) b dX11_after_30 (by decide) ?_
  refine z_iconst (v := 0) b dX11_after_31 (by decide) ?_
  refine z_calli b (z_runV (q0 := 16) (As := [.ref (a 46), .ref (a 14), .int 3, .int 0]) (st := []) b (c_X2_follow_12 S h_i_14 h_i_37) cf_X2_follow (cw_16 cy tE a rw S) rfl wm_X11_184 wi_X2_follow ws_X2_follow dX11_after_32 rfl (Nat.le_of_ble_eq_true rfl) ⟨by decide, by decide, by decide, by decide⟩) (fun r22054 u22055 h22053 => ?_)
  obtain ⟨rfl, rfl⟩ := h22053
  refine z_pop b dX11_after_35 rfl ?_
  refine z_aload_n b dX11_after_36 rfl rfl ?_
  refine z_get (q0 := 0) (k9 := 5) (v := .ref (a 16)) b (cw_0 cy tE a rw (sa S 8 (va_cpy (ar S 4) (ar S 8) 0 0 51))) rfl in_X11 (by decide) wf_X11_43 rfl dX11_after_37 ?_
  refine z_get (q0 := 16) (k9 := 3) (v := .ref (a 23)) b (cw_16 cy tE a rw (sa S 8 (va_cpy (ar S 4) (ar S 8) 0 0 51))) rfl in_X2 (by decide) wf_X11_194 rfl dX11_after_40 ?_
  refine z_iload_n b dX11_after_43 rfl rfl ?_
  refine z_calli b (z_runV (q0 := 23) (As := [.int 37]) (st := []) b (c_X9_get_30 (sa S 8 (va_cpy (ar S 4) (ar S 8) 0 0 51)) h_a_4_37) cf_X9_get (cw_23 cy tE a rw (sa S 8 (va_cpy (ar S 4) (ar S 8) 0 0 51))) rfl wm_X11_197 wi_X9_get ws_X9_get dX11_after_44 rfl (Nat.le_of_ble_eq_true rfl) ⟨by decide, by decide, by decide, by decide⟩) (fun r22057 u22058 h22056 => ?_)
  obtain ⟨rfl, rfl⟩ := h22056
  exact z_iret (u := (sa S 8 (va_cpy (ar S 4) (ar S 8) 0 0 51))) b rfl dX11_after_47 ⟨rfl, rfl⟩ rfl (by decide) (by decide)

set_option maxHeartbeats 4000000 in
set_option maxRecDepth 100000 in
theorem c_X12_after_312 {l : Launch} {D : va_G} {cy : Nat → ClassId} {T0 tB tE : Nat} {a : Nat → Nat} (S : GS)  (h_l_0 : fl S 0 = 1649317774848) (h_a_38_5 : ar S 38 5 = 0) (h_a_4_7 : ar S 4 7 = 0) (h_a_1_7 : ar S 1 7 = 0) (h_a_4_6 : ar S 4 6 = 0) (h_a_1_6 : ar S 1 6 = 0) (h_a_3_6 : ar S 3 6 = 0) (h_a_3_2 : ar S 3 2 = 0) (h_a_2_2 : ar S 2 2 = 3) (h_a_0_2 : ar S 0 2 = 0) (h_a_4_3 : ar S 4 3 = 0) (h_a_1_3 : ar S 1 3 = 0) (h_a_4_5 : ar S 4 5 = 0) (h_a_1_5 : ar S 1 5 = 0) (h_a_3_5 : ar S 3 5 = 0) (h_a_3_7 : ar S 3 7 = 0) (h_a_2_1 : ar S 2 1 = 3) (h_a_0_1 : ar S 0 1 = 0) (h_a_4_2 : ar S 4 2 = 0) (h_a_1_2 : ar S 1 2 = 0) (h_a_4_1 : ar S 4 1 = 0) (h_a_1_1 : ar S 1 1 = 0) (h_a_3_1 : ar S 3 1 = 0) (h_a_3_3 : ar S 3 3 = 0) (h_a_2_0 : ar S 2 0 = 3) (h_a_0_0 : ar S 0 0 = 0) (h_i_0 : fi S 0 = 0) : Ct l D cy T0 tB tE yX12_after cX12_after 4 (some .int) 2 47 0 0 (mw cy a S) [.ref (a 0), .int 5, .int 37] (QI D (U := GS) (fun r u => 0 = r ∧ (si (sl S 2 1649317774848) 24 (-1)) = u) (mw cy a)) := by
  refine Ct.ofZ RX12 "after" [(0, .ref (a 0)), (1, .int 5), (2, .int 37)] rfl rfl rfl rfl (Nat.le_of_ble_eq_true rfl) ?_
  intro p e R s m args below meth c A b
  refine z_iload_n b dX12_after_0 rfl rfl ?_
  refine z_calli b (z_runS (As := [.int 5]) (st := []) b (c_X12_isRow_8 S ) cf_X12_isRow wm_X12_452 ws_X12_isRow dX12_after_1 rfl (Nat.le_of_ble_eq_true rfl) ⟨by decide, by decide, by decide, by decide⟩) (fun r22060 u22061 h22059 => ?_)
  obtain ⟨rfl, rfl⟩ := h22059
  refine z_if_ne_t (tgt := 9) b dX12_after_4 (by decide) (by decide) ?_
  refine z_aload_n b dX12_after_9 rfl rfl ?_
  refine z_iload_n b dX12_after_10 rfl rfl ?_
  refine z_iconst (v := 3) b dX12_after_11 (by decide) ?_
  refine z_iconst (v := 0) b dX12_after_12 (by decide) ?_
  refine z_calli b (z_runV (q0 := 0) (As := [.int 5, .int 3, .int 0]) (st := []) b (c_X12_goes_12 S h_l_0 h_a_38_5) cf_X12_goes (mw_0 cy a S) rfl wm_X12_464 wi_X12_goes ws_X12_goes dX12_after_13 rfl (Nat.le_of_ble_eq_true rfl) ⟨by decide, by decide, by decide, by decide⟩) (fun r22063 u22064 h22062 => ?_)
  obtain ⟨rfl, rfl⟩ := h22062
  refine z_pop b dX12_after_16 rfl ?_
  refine z_aload_n b dX12_after_17 rfl rfl ?_
  refine z_aload_n b dX12_after_18 rfl rfl ?_
  refine z_get (q0 := 0) (k9 := 68) (v := .long 1649317774848) b (mw_0 cy a (si (sl S 2 1649317774848) 24 (-1))) rfl in_X12 (by decide) wf_X12_458 rfl dX12_after_19 ?_
  refine z_callv b (z_runV (q0 := 0) (As := [.long 1649317774848]) (st := []) b (c_X12_takes (si (sl S 2 1649317774848) 24 (-1)) h_a_4_7 h_a_1_7 h_a_4_6 h_a_1_6 h_a_3_6 h_a_3_2 h_a_2_2 h_a_0_2 h_a_4_3 h_a_1_3 h_a_4_5 h_a_1_5 h_a_3_5 h_a_3_7 h_a_2_1 h_a_0_1 h_a_4_2 h_a_1_2 h_a_4_1 h_a_1_1 h_a_3_1 h_a_3_3 h_a_2_0 h_a_0_0 h_i_0) cf_X12_takes (mw_0 cy a (si (sl S 2 1649317774848) 24 (-1))) rfl wm_X12_174 wi_X12_takes ws_X12_takes dX12_after_22 rfl (Nat.le_of_ble_eq_true rfl) ⟨by decide, by decide, by decide, by decide⟩) (fun u22067 h22065 => ?_)
  obtain rfl := h22065
  refine z_iload_n b dX12_after_25 rfl rfl ?_
  refine z_calli b (z_runS (As := [.int 37]) (st := []) b (c_X12_isOne_42 (si (sl S 2 1649317774848) 24 (-1)) ) cf_X12_isOne wm_X12_170 ws_X12_isOne dX12_after_26 rfl (Nat.le_of_ble_eq_true rfl) ⟨by decide, by decide, by decide, by decide⟩) (fun r22069 u22070 h22068 => ?_)
  obtain ⟨rfl, rfl⟩ := h22068
  refine z_if_eq_t (tgt := 39) b dX12_after_29 (by decide) (by decide) ?_
  refine z_iload_n b dX12_after_39 rfl rfl ?_
  refine z_bipush (v := 50) b dX12_after_40 (by decide) ?_
  refine z_icmp_ne_t (tgt := 50) b dX12_after_42 (by decide) (by decide) ?_
  refine z_iload_n b dX12_after_50 rfl rfl ?_
  refine z_bipush (v := 40) b dX12_after_51 (by decide) ?_
  refine z_bipush (v := 42) b dX12_after_53 (by decide) ?_
  refine z_calli b (z_runS (As := [.int 37, .int 40, .int 42]) (st := []) b (c_X12_isIn_171 (si (sl S 2 1649317774848) 24 (-1)) ) cf_X12_isIn wm_X12_1 ws_X12_isIn dX12_after_55 rfl (Nat.le_of_ble_eq_true rfl) ⟨by decide, by decide, by decide, by decide⟩) (fun r22072 u22073 h22071 => ?_)
  obtain ⟨rfl, rfl⟩ := h22071
  refine z_if_eq_t (tgt := 71) b dX12_after_58 (by decide) (by decide) ?_
  refine z_iload_n b dX12_after_71 rfl rfl ?_
  refine z_bipush (v := 10) b dX12_after_72 (by decide) ?_
  refine z_irem (v := 7) b dX12_after_74 (by decide) (by decide) ?_
  refine z_istore_n (lv' := [(3, .int 7), (0, .ref (a 0)), (1, .int 5), (2, .int 37)]) b dX12_after_75 rfl (by decide) rfl ?_
  refine z_iload_n b dX12_after_76 rfl rfl ?_
  refine z_bipush (v := 10) b dX12_after_77 (by decide) ?_
  refine z_bipush (v := 38) b dX12_after_79 (by decide) ?_
  refine z_calli b (z_runS (As := [.int 37, .int 10, .int 38]) (st := []) b (c_X12_isIn_172 (si (sl S 2 1649317774848) 24 (-1)) ) cf_X12_isIn wm_X12_1 ws_X12_isIn dX12_after_81 rfl (Nat.le_of_ble_eq_true rfl) ⟨by decide, by decide, by decide, by decide⟩) (fun r22075 u22076 h22074 => ?_)
  obtain ⟨rfl, rfl⟩ := h22074
  refine z_if_eq_f (tgt := 102) b dX12_after_84 (by decide) (by decide) ?_
  refine z_iload_n b dX12_after_87 rfl rfl ?_
  refine z_bipush (v := 9) b dX12_after_88 (by decide) ?_
  refine z_icmp_eq_f (tgt := 102) b dX12_after_90 (by decide) (by decide) ?_
  refine z_iload_n b dX12_after_93 rfl rfl ?_
  refine z_iconst (v := 3) b dX12_after_94 (by decide) ?_
  refine z_idiv (v := 2) b dX12_after_95 (by decide) (by decide) ?_
  refine z_iload_n b dX12_after_96 rfl rfl ?_
  refine z_iconst (v := 3) b dX12_after_97 (by decide) ?_
  refine z_irem (v := 1) b dX12_after_98 (by decide) (by decide) ?_
  refine z_icmp_ne_t (tgt := 104) b dX12_after_99 (by decide) (by decide) ?_
  refine z_iload_n b dX12_after_104 rfl rfl ?_
  refine z_bipush (v := 20) b dX12_after_105 (by decide) ?_
  refine z_icmp_ge_t (tgt := 119) b dX12_after_107 (by decide) (by decide) ?_
  refine z_iload_n b dX12_after_119 rfl rfl ?_
  refine z_bipush (v := 30) b dX12_after_120 (by decide) ?_
  refine z_icmp_ge_t (tgt := 137) b dX12_after_122 (by decide) (by decide) ?_
  refine z_aload_n b dX12_after_137 rfl rfl ?_
  refine z_get (q0 := 0) (k9 := 4) (v := .ref (a 5)) b (mw_0 cy a (si (sl S 2 1649317774848) 24 (-1))) rfl in_X12 (by decide) wf_X12_27 rfl dX12_after_138 ?_
  refine z_iload_n b dX12_after_141 rfl rfl ?_
  refine y_zald (q0 := 5) (j := 7) (v := (ar (si (sl S 2 1649317774848) 24 (-1)) 4 7)) b (mw_5 cy a (si (sl S 2 1649317774848) 24 (-1))) (by decide) rfl dX12_after_142 ?_
  refine z_eqi h_a_4_7 ?_
  refine z_if_eq_t (tgt := 150) b dX12_after_143 (by decide) (by decide) ?_
  refine z_iconst (v := 0) b dX12_after_150 (by decide) ?_
  exact z_iret (u := (si (sl S 2 1649317774848) 24 (-1))) b rfl dX12_after_151 ⟨rfl, rfl⟩ rfl (by decide) (by decide)

set_option maxHeartbeats 4000000 in
set_option maxRecDepth 100000 in
theorem c_X11_after_313 {l : Launch} {D : va_G} {cy : Nat → ClassId} {T0 tB tE : Nat} {a : Nat → Nat} {rw : Nat → Option Nat} (S : GS)   : Ct l D cy T0 tB tE yX11_after cX11_after 3 (some .int) 3 62 0 0 (cw cy tE a rw S) [.ref (a 0), .int 5, .int 38] (QI D (U := GS) (fun r u => (-1) = r ∧ S = u) (cw cy tE a rw)) := by
  refine Ct.ofZ RX11 "after" [(0, .ref (a 0)), (1, .int 5), (2, .int 38)] rfl rfl rfl rfl (Nat.le_of_ble_eq_true rfl) ?_
  intro p e R s m args below meth c A b
  refine z_iload_n b dX11_after_0 rfl rfl ?_
  refine z_calli b (z_runS (As := [.int 5]) (st := []) b (c_X11_isRow_8 S ) cf_X11_isRow wm_X11_169 ws_X11_isRow dX11_after_1 rfl (Nat.le_of_ble_eq_true rfl) ⟨by decide, by decide, by decide, by decide⟩) (fun r22078 u22079 h22077 => ?_)
  obtain ⟨rfl, rfl⟩ := h22077
  refine z_if_eq_f (tgt := 14) b dX11_after_4 (by decide) (by decide) ?_
  refine z_iload_n b dX11_after_7 rfl rfl ?_
  refine z_calli b (z_runS (As := [.int 38]) (st := []) b (c_X9_has_41 S ) cf_X9_has wm_X11_191 ws_X9_has dX11_after_8 rfl (Nat.le_of_ble_eq_true rfl) ⟨by decide, by decide, by decide, by decide⟩) (fun r22081 u22082 h22080 => ?_)
  obtain ⟨rfl, rfl⟩ := h22080
  refine z_if_ne_f (tgt := 16) b dX11_after_11 (by decide) (by decide) ?_
  refine z_iconst (v := (-1)) b dX11_after_14 (by decide) ?_
  exact z_iret (u := S) b rfl dX11_after_15 ⟨rfl, rfl⟩ rfl (by decide) (by decide)

set_option maxHeartbeats 4000000 in
set_option maxRecDepth 100000 in
theorem c_X12_after_313 {l : Launch} {D : va_G} {cy : Nat → ClassId} {T0 tB tE : Nat} {a : Nat → Nat} (S : GS)  (h_l_0 : fl S 0 = 1649317774848) (h_a_38_5 : ar S 38 5 = 0) (h_a_4_7 : ar S 4 7 = 0) (h_a_1_7 : ar S 1 7 = 0) (h_a_4_6 : ar S 4 6 = 0) (h_a_1_6 : ar S 1 6 = 0) (h_a_3_6 : ar S 3 6 = 0) (h_a_3_2 : ar S 3 2 = 0) (h_a_2_2 : ar S 2 2 = 3) (h_a_0_2 : ar S 0 2 = 0) (h_a_4_3 : ar S 4 3 = 0) (h_a_1_3 : ar S 1 3 = 0) (h_a_4_5 : ar S 4 5 = 0) (h_a_1_5 : ar S 1 5 = 0) (h_a_3_5 : ar S 3 5 = 0) (h_a_3_7 : ar S 3 7 = 0) (h_a_2_1 : ar S 2 1 = 3) (h_a_0_1 : ar S 0 1 = 0) (h_a_4_2 : ar S 4 2 = 0) (h_a_1_2 : ar S 1 2 = 0) (h_a_4_1 : ar S 4 1 = 0) (h_a_1_1 : ar S 1 1 = 0) (h_a_3_1 : ar S 3 1 = 0) (h_a_3_3 : ar S 3 3 = 0) (h_a_2_0 : ar S 2 0 = 3) (h_a_0_0 : ar S 0 0 = 0) (h_i_0 : fi S 0 = 0) : Ct l D cy T0 tB tE yX12_after cX12_after 4 (some .int) 2 47 0 0 (mw cy a S) [.ref (a 0), .int 5, .int 38] (QI D (U := GS) (fun r u => (-1) = r ∧ (si (sl S 2 1649317774848) 24 (-1)) = u) (mw cy a)) := by
  refine Ct.ofZ RX12 "after" [(0, .ref (a 0)), (1, .int 5), (2, .int 38)] rfl rfl rfl rfl (Nat.le_of_ble_eq_true rfl) ?_
  intro p e R s m args below meth c A b
  refine z_iload_n b dX12_after_0 rfl rfl ?_
  refine z_calli b (z_runS (As := [.int 5]) (st := []) b (c_X12_isRow_8 S ) cf_X12_isRow wm_X12_452 ws_X12_isRow dX12_after_1 rfl (Nat.le_of_ble_eq_true rfl) ⟨by decide, by decide, by decide, by decide⟩) (fun r22084 u22085 h22083 => ?_)
  obtain ⟨rfl, rfl⟩ := h22083
  refine z_if_ne_t (tgt := 9) b dX12_after_4 (by decide) (by decide) ?_
  refine z_aload_n b dX12_after_9 rfl rfl ?_
  refine z_iload_n b dX12_after_10 rfl rfl ?_
  refine z_iconst (v := 3) b dX12_after_11 (by decide) ?_
  refine z_iconst (v := 0) b dX12_after_12 (by decide) ?_
  refine z_calli b (z_runV (q0 := 0) (As := [.int 5, .int 3, .int 0]) (st := []) b (c_X12_goes_12 S h_l_0 h_a_38_5) cf_X12_goes (mw_0 cy a S) rfl wm_X12_464 wi_X12_goes ws_X12_goes dX12_after_13 rfl (Nat.le_of_ble_eq_true rfl) ⟨by decide, by decide, by decide, by decide⟩) (fun r22087 u22088 h22086 => ?_)
  obtain ⟨rfl, rfl⟩ := h22086
  refine z_pop b dX12_after_16 rfl ?_
  refine z_aload_n b dX12_after_17 rfl rfl ?_
  refine z_aload_n b dX12_after_18 rfl rfl ?_
  refine z_get (q0 := 0) (k9 := 68) (v := .long 1649317774848) b (mw_0 cy a (si (sl S 2 1649317774848) 24 (-1))) rfl in_X12 (by decide) wf_X12_458 rfl dX12_after_19 ?_
  refine z_callv b (z_runV (q0 := 0) (As := [.long 1649317774848]) (st := []) b (c_X12_takes (si (sl S 2 1649317774848) 24 (-1)) h_a_4_7 h_a_1_7 h_a_4_6 h_a_1_6 h_a_3_6 h_a_3_2 h_a_2_2 h_a_0_2 h_a_4_3 h_a_1_3 h_a_4_5 h_a_1_5 h_a_3_5 h_a_3_7 h_a_2_1 h_a_0_1 h_a_4_2 h_a_1_2 h_a_4_1 h_a_1_1 h_a_3_1 h_a_3_3 h_a_2_0 h_a_0_0 h_i_0) cf_X12_takes (mw_0 cy a (si (sl S 2 1649317774848) 24 (-1))) rfl wm_X12_174 wi_X12_takes ws_X12_takes dX12_after_22 rfl (Nat.le_of_ble_eq_true rfl) ⟨by decide, by decide, by decide, by decide⟩) (fun u22091 h22089 => ?_)
  obtain rfl := h22089
  refine z_iload_n b dX12_after_25 rfl rfl ?_
  refine z_calli b (z_runS (As := [.int 38]) (st := []) b (c_X12_isOne_43 (si (sl S 2 1649317774848) 24 (-1)) ) cf_X12_isOne wm_X12_170 ws_X12_isOne dX12_after_26 rfl (Nat.le_of_ble_eq_true rfl) ⟨by decide, by decide, by decide, by decide⟩) (fun r22093 u22094 h22092 => ?_)
  obtain ⟨rfl, rfl⟩ := h22092
  refine z_if_eq_t (tgt := 39) b dX12_after_29 (by decide) (by decide) ?_
  refine z_iload_n b dX12_after_39 rfl rfl ?_
  refine z_bipush (v := 50) b dX12_after_40 (by decide) ?_
  refine z_icmp_ne_t (tgt := 50) b dX12_after_42 (by decide) (by decide) ?_
  refine z_iload_n b dX12_after_50 rfl rfl ?_
  refine z_bipush (v := 40) b dX12_after_51 (by decide) ?_
  refine z_bipush (v := 42) b dX12_after_53 (by decide) ?_
  refine z_calli b (z_runS (As := [.int 38, .int 40, .int 42]) (st := []) b (c_X12_isIn_174 (si (sl S 2 1649317774848) 24 (-1)) ) cf_X12_isIn wm_X12_1 ws_X12_isIn dX12_after_55 rfl (Nat.le_of_ble_eq_true rfl) ⟨by decide, by decide, by decide, by decide⟩) (fun r22096 u22097 h22095 => ?_)
  obtain ⟨rfl, rfl⟩ := h22095
  refine z_if_eq_t (tgt := 71) b dX12_after_58 (by decide) (by decide) ?_
  refine z_iload_n b dX12_after_71 rfl rfl ?_
  refine z_bipush (v := 10) b dX12_after_72 (by decide) ?_
  refine z_irem (v := 8) b dX12_after_74 (by decide) (by decide) ?_
  refine z_istore_n (lv' := [(3, .int 8), (0, .ref (a 0)), (1, .int 5), (2, .int 38)]) b dX12_after_75 rfl (by decide) rfl ?_
  refine z_iload_n b dX12_after_76 rfl rfl ?_
  refine z_bipush (v := 10) b dX12_after_77 (by decide) ?_
  refine z_bipush (v := 38) b dX12_after_79 (by decide) ?_
  refine z_calli b (z_runS (As := [.int 38, .int 10, .int 38]) (st := []) b (c_X12_isIn_175 (si (sl S 2 1649317774848) 24 (-1)) ) cf_X12_isIn wm_X12_1 ws_X12_isIn dX12_after_81 rfl (Nat.le_of_ble_eq_true rfl) ⟨by decide, by decide, by decide, by decide⟩) (fun r22099 u22100 h22098 => ?_)
  obtain ⟨rfl, rfl⟩ := h22098
  refine z_if_eq_f (tgt := 102) b dX12_after_84 (by decide) (by decide) ?_
  refine z_iload_n b dX12_after_87 rfl rfl ?_
  refine z_bipush (v := 9) b dX12_after_88 (by decide) ?_
  refine z_icmp_eq_f (tgt := 102) b dX12_after_90 (by decide) (by decide) ?_
  refine z_iload_n b dX12_after_93 rfl rfl ?_
  refine z_iconst (v := 3) b dX12_after_94 (by decide) ?_
  refine z_idiv (v := 2) b dX12_after_95 (by decide) (by decide) ?_
  refine z_iload_n b dX12_after_96 rfl rfl ?_
  refine z_iconst (v := 3) b dX12_after_97 (by decide) ?_
  refine z_irem (v := 2) b dX12_after_98 (by decide) (by decide) ?_
  refine z_icmp_ne_f (tgt := 104) b dX12_after_99 (by decide) (by decide) ?_
  refine z_iconst (v := (-1)) b dX12_after_102 (by decide) ?_
  exact z_iret (u := (si (sl S 2 1649317774848) 24 (-1))) b rfl dX12_after_103 ⟨rfl, rfl⟩ rfl (by decide) (by decide)

set_option maxHeartbeats 4000000 in
set_option maxRecDepth 100000 in
theorem c_X11_after_314 {l : Launch} {D : va_G} {cy : Nat → ClassId} {T0 tB tE : Nat} {a : Nat → Nat} {rw : Nat → Option Nat} (S : GS)   : Ct l D cy T0 tB tE yX11_after cX11_after 3 (some .int) 3 62 0 0 (cw cy tE a rw S) [.ref (a 0), .int 5, .int 39] (QI D (U := GS) (fun r u => (-1) = r ∧ S = u) (cw cy tE a rw)) := by
  refine Ct.ofZ RX11 "after" [(0, .ref (a 0)), (1, .int 5), (2, .int 39)] rfl rfl rfl rfl (Nat.le_of_ble_eq_true rfl) ?_
  intro p e R s m args below meth c A b
  refine z_iload_n b dX11_after_0 rfl rfl ?_
  refine z_calli b (z_runS (As := [.int 5]) (st := []) b (c_X11_isRow_8 S ) cf_X11_isRow wm_X11_169 ws_X11_isRow dX11_after_1 rfl (Nat.le_of_ble_eq_true rfl) ⟨by decide, by decide, by decide, by decide⟩) (fun r22102 u22103 h22101 => ?_)
  obtain ⟨rfl, rfl⟩ := h22101
  refine z_if_eq_f (tgt := 14) b dX11_after_4 (by decide) (by decide) ?_
  refine z_iload_n b dX11_after_7 rfl rfl ?_
  refine z_calli b (z_runS (As := [.int 39]) (st := []) b (c_X9_has_42 S ) cf_X9_has wm_X11_191 ws_X9_has dX11_after_8 rfl (Nat.le_of_ble_eq_true rfl) ⟨by decide, by decide, by decide, by decide⟩) (fun r22105 u22106 h22104 => ?_)
  obtain ⟨rfl, rfl⟩ := h22104
  refine z_if_ne_f (tgt := 16) b dX11_after_11 (by decide) (by decide) ?_
  refine z_iconst (v := (-1)) b dX11_after_14 (by decide) ?_
  exact z_iret (u := S) b rfl dX11_after_15 ⟨rfl, rfl⟩ rfl (by decide) (by decide)

set_option maxHeartbeats 4000000 in
set_option maxRecDepth 100000 in
theorem c_X12_after_314 {l : Launch} {D : va_G} {cy : Nat → ClassId} {T0 tB tE : Nat} {a : Nat → Nat} (S : GS)  (h_l_0 : fl S 0 = 1649317774848) (h_a_38_5 : ar S 38 5 = 0) (h_a_4_7 : ar S 4 7 = 0) (h_a_1_7 : ar S 1 7 = 0) (h_a_4_6 : ar S 4 6 = 0) (h_a_1_6 : ar S 1 6 = 0) (h_a_3_6 : ar S 3 6 = 0) (h_a_3_2 : ar S 3 2 = 0) (h_a_2_2 : ar S 2 2 = 3) (h_a_0_2 : ar S 0 2 = 0) (h_a_4_3 : ar S 4 3 = 0) (h_a_1_3 : ar S 1 3 = 0) (h_a_4_5 : ar S 4 5 = 0) (h_a_1_5 : ar S 1 5 = 0) (h_a_3_5 : ar S 3 5 = 0) (h_a_3_7 : ar S 3 7 = 0) (h_a_2_1 : ar S 2 1 = 3) (h_a_0_1 : ar S 0 1 = 0) (h_a_4_2 : ar S 4 2 = 0) (h_a_1_2 : ar S 1 2 = 0) (h_a_4_1 : ar S 4 1 = 0) (h_a_1_1 : ar S 1 1 = 0) (h_a_3_1 : ar S 3 1 = 0) (h_a_3_3 : ar S 3 3 = 0) (h_a_2_0 : ar S 2 0 = 3) (h_a_0_0 : ar S 0 0 = 0) (h_i_0 : fi S 0 = 0) : Ct l D cy T0 tB tE yX12_after cX12_after 4 (some .int) 2 47 0 0 (mw cy a S) [.ref (a 0), .int 5, .int 39] (QI D (U := GS) (fun r u => (-1) = r ∧ (si (sl S 2 1649317774848) 24 (-1)) = u) (mw cy a)) := by
  refine Ct.ofZ RX12 "after" [(0, .ref (a 0)), (1, .int 5), (2, .int 39)] rfl rfl rfl rfl (Nat.le_of_ble_eq_true rfl) ?_
  intro p e R s m args below meth c A b
  refine z_iload_n b dX12_after_0 rfl rfl ?_
  refine z_calli b (z_runS (As := [.int 5]) (st := []) b (c_X12_isRow_8 S ) cf_X12_isRow wm_X12_452 ws_X12_isRow dX12_after_1 rfl (Nat.le_of_ble_eq_true rfl) ⟨by decide, by decide, by decide, by decide⟩) (fun r22108 u22109 h22107 => ?_)
  obtain ⟨rfl, rfl⟩ := h22107
  refine z_if_ne_t (tgt := 9) b dX12_after_4 (by decide) (by decide) ?_
  refine z_aload_n b dX12_after_9 rfl rfl ?_
  refine z_iload_n b dX12_after_10 rfl rfl ?_
  refine z_iconst (v := 3) b dX12_after_11 (by decide) ?_
  refine z_iconst (v := 0) b dX12_after_12 (by decide) ?_
  refine z_calli b (z_runV (q0 := 0) (As := [.int 5, .int 3, .int 0]) (st := []) b (c_X12_goes_12 S h_l_0 h_a_38_5) cf_X12_goes (mw_0 cy a S) rfl wm_X12_464 wi_X12_goes ws_X12_goes dX12_after_13 rfl (Nat.le_of_ble_eq_true rfl) ⟨by decide, by decide, by decide, by decide⟩) (fun r22111 u22112 h22110 => ?_)
  obtain ⟨rfl, rfl⟩ := h22110
  refine z_pop b dX12_after_16 rfl ?_
  refine z_aload_n b dX12_after_17 rfl rfl ?_
  refine z_aload_n b dX12_after_18 rfl rfl ?_
  refine z_get (q0 := 0) (k9 := 68) (v := .long 1649317774848) b (mw_0 cy a (si (sl S 2 1649317774848) 24 (-1))) rfl in_X12 (by decide) wf_X12_458 rfl dX12_after_19 ?_
  refine z_callv b (z_runV (q0 := 0) (As := [.long 1649317774848]) (st := []) b (c_X12_takes (si (sl S 2 1649317774848) 24 (-1)) h_a_4_7 h_a_1_7 h_a_4_6 h_a_1_6 h_a_3_6 h_a_3_2 h_a_2_2 h_a_0_2 h_a_4_3 h_a_1_3 h_a_4_5 h_a_1_5 h_a_3_5 h_a_3_7 h_a_2_1 h_a_0_1 h_a_4_2 h_a_1_2 h_a_4_1 h_a_1_1 h_a_3_1 h_a_3_3 h_a_2_0 h_a_0_0 h_i_0) cf_X12_takes (mw_0 cy a (si (sl S 2 1649317774848) 24 (-1))) rfl wm_X12_174 wi_X12_takes ws_X12_takes dX12_after_22 rfl (Nat.le_of_ble_eq_true rfl) ⟨by decide, by decide, by decide, by decide⟩) (fun u22115 h22113 => ?_)
  obtain rfl := h22113
  refine z_iload_n b dX12_after_25 rfl rfl ?_
  refine z_calli b (z_runS (As := [.int 39]) (st := []) b (c_X12_isOne_44 (si (sl S 2 1649317774848) 24 (-1)) ) cf_X12_isOne wm_X12_170 ws_X12_isOne dX12_after_26 rfl (Nat.le_of_ble_eq_true rfl) ⟨by decide, by decide, by decide, by decide⟩) (fun r22117 u22118 h22116 => ?_)
  obtain ⟨rfl, rfl⟩ := h22116
  refine z_if_eq_t (tgt := 39) b dX12_after_29 (by decide) (by decide) ?_
  refine z_iload_n b dX12_after_39 rfl rfl ?_
  refine z_bipush (v := 50) b dX12_after_40 (by decide) ?_
  refine z_icmp_ne_t (tgt := 50) b dX12_after_42 (by decide) (by decide) ?_
  refine z_iload_n b dX12_after_50 rfl rfl ?_
  refine z_bipush (v := 40) b dX12_after_51 (by decide) ?_
  refine z_bipush (v := 42) b dX12_after_53 (by decide) ?_
  refine z_calli b (z_runS (As := [.int 39, .int 40, .int 42]) (st := []) b (c_X12_isIn_177 (si (sl S 2 1649317774848) 24 (-1)) ) cf_X12_isIn wm_X12_1 ws_X12_isIn dX12_after_55 rfl (Nat.le_of_ble_eq_true rfl) ⟨by decide, by decide, by decide, by decide⟩) (fun r22120 u22121 h22119 => ?_)
  obtain ⟨rfl, rfl⟩ := h22119
  refine z_if_eq_t (tgt := 71) b dX12_after_58 (by decide) (by decide) ?_
  refine z_iload_n b dX12_after_71 rfl rfl ?_
  refine z_bipush (v := 10) b dX12_after_72 (by decide) ?_
  refine z_irem (v := 9) b dX12_after_74 (by decide) (by decide) ?_
  refine z_istore_n (lv' := [(3, .int 9), (0, .ref (a 0)), (1, .int 5), (2, .int 39)]) b dX12_after_75 rfl (by decide) rfl ?_
  refine z_iload_n b dX12_after_76 rfl rfl ?_
  refine z_bipush (v := 10) b dX12_after_77 (by decide) ?_
  refine z_bipush (v := 38) b dX12_after_79 (by decide) ?_
  refine z_calli b (z_runS (As := [.int 39, .int 10, .int 38]) (st := []) b (c_X12_isIn_178 (si (sl S 2 1649317774848) 24 (-1)) ) cf_X12_isIn wm_X12_1 ws_X12_isIn dX12_after_81 rfl (Nat.le_of_ble_eq_true rfl) ⟨by decide, by decide, by decide, by decide⟩) (fun r22123 u22124 h22122 => ?_)
  obtain ⟨rfl, rfl⟩ := h22122
  refine z_if_eq_t (tgt := 102) b dX12_after_84 (by decide) (by decide) ?_
  refine z_iconst (v := (-1)) b dX12_after_102 (by decide) ?_
  exact z_iret (u := (si (sl S 2 1649317774848) 24 (-1))) b rfl dX12_after_103 ⟨rfl, rfl⟩ rfl (by decide) (by decide)

set_option maxHeartbeats 4000000 in
set_option maxRecDepth 100000 in
theorem c_X11_after_315 {l : Launch} {D : va_G} {cy : Nat → ClassId} {T0 tB tE : Nat} {a : Nat → Nat} {rw : Nat → Option Nat} (S : GS)  (h_i_14 : fi S 14 = (-1)) (h_i_37 : fi S 37 = 0) (h_a_4_40 : ar S 4 40 = 3) (hrw : ∀ i, i < 6 → rw i = some (a (36 + 2 * i))) : Ct l D cy T0 tB tE yX11_after cX11_after 3 (some .int) 3 86 0 0 (cw cy tE a rw S) [.ref (a 0), .int 5, .int 40] (QI D (U := GS) (fun r u => 3 = r ∧ (sa S 8 (va_cpy (ar S 4) (ar S 8) 0 0 51)) = u) (cw cy tE a rw)) := by
  refine Ct.ofZ RX11 "after" [(0, .ref (a 0)), (1, .int 5), (2, .int 40)] rfl rfl rfl rfl (Nat.le_of_ble_eq_true rfl) ?_
  intro p e R s m args below meth c A b
  refine z_iload_n b dX11_after_0 rfl rfl ?_
  refine z_calli b (z_runS (As := [.int 5]) (st := []) b (c_X11_isRow_8 S ) cf_X11_isRow wm_X11_169 ws_X11_isRow dX11_after_1 rfl (Nat.le_of_ble_eq_true rfl) ⟨by decide, by decide, by decide, by decide⟩) (fun r22126 u22127 h22125 => ?_)
  obtain ⟨rfl, rfl⟩ := h22125
  refine z_if_eq_f (tgt := 14) b dX11_after_4 (by decide) (by decide) ?_
  refine z_iload_n b dX11_after_7 rfl rfl ?_
  refine z_calli b (z_runS (As := [.int 40]) (st := []) b (c_X9_has_43 S ) cf_X9_has wm_X11_191 ws_X9_has dX11_after_8 rfl (Nat.le_of_ble_eq_true rfl) ⟨by decide, by decide, by decide, by decide⟩) (fun r22129 u22130 h22128 => ?_)
  obtain ⟨rfl, rfl⟩ := h22128
  refine z_if_ne_t (tgt := 16) b dX11_after_11 (by decide) (by decide) ?_
  refine z_aload_n b dX11_after_16 rfl rfl ?_
  refine z_get (q0 := 0) (k9 := 5) (v := .ref (a 16)) b (cw_0 cy tE a rw S) rfl in_X11 (by decide) wf_X11_43 rfl dX11_after_17 ?_
  refine z_aload_n b dX11_after_20 rfl rfl ?_
  refine z_get (q0 := 0) (k9 := 7) (v := .ref (a 35)) b (cw_0 cy tE a rw S) rfl in_X11 (by decide) wf_X11_58 rfl dX11_after_21 ?_
  refine z_iload_n b dX11_after_24 rfl rfl ?_
  refine y_aald (q0 := 35) (t0 := 4) (j := 5) (v := .ref (a 46)) b (cw_35 cy tE a rw S) rfl (by decide) (by rw [hrw 5 (by decide)]; rfl) dX11_after_25 ?_
  refine z_aload_n b dX11_after_26 rfl rfl ?_
  refine z_get (q0 := 0) (k9 := 4) (v := .ref (a 14)) b (cw_0 cy tE a rw S) rfl in_X11 (by decide) wf_X11_34 rfl dX11_after_27 ?_
  refine z_iconst (v := 3) b dX11_after_30 (by decide) ?_
  refine z_iconst (v := 0) b dX11_after_31 (by decide) ?_
  refine z_calli b (z_runV (q0 := 16) (As := [.ref (a 46), .ref (a 14), .int 3, .int 0]) (st := []) b (c_X2_follow_12 S h_i_14 h_i_37) cf_X2_follow (cw_16 cy tE a rw S) rfl wm_X11_184 wi_X2_follow ws_X2_follow dX11_after_32 rfl (Nat.le_of_ble_eq_true rfl) ⟨by decide, by decide, by decide, by decide⟩) (fun r22132 u22133 h22131 => ?_)
  obtain ⟨rfl, rfl⟩ := h22131
  refine z_pop b dX11_after_35 rfl ?_
  refine z_aload_n b dX11_after_36 rfl rfl ?_
  refine z_get (q0 := 0) (k9 := 5) (v := .ref (a 16)) b (cw_0 cy tE a rw (sa S 8 (va_cpy (ar S 4) (ar S 8) 0 0 51))) rfl in_X11 (by decide) wf_X11_43 rfl dX11_after_37 ?_
  refine z_get (q0 := 16) (k9 := 3) (v := .ref (a 23)) b (cw_16 cy tE a rw (sa S 8 (va_cpy (ar S 4) (ar S 8) 0 0 51))) rfl in_X2 (by decide) wf_X11_194 rfl dX11_after_40 ?_
  refine z_iload_n b dX11_after_43 rfl rfl ?_
  refine z_calli b (z_runV (q0 := 23) (As := [.int 40]) (st := []) b (c_X9_get_31 (sa S 8 (va_cpy (ar S 4) (ar S 8) 0 0 51)) h_a_4_40) cf_X9_get (cw_23 cy tE a rw (sa S 8 (va_cpy (ar S 4) (ar S 8) 0 0 51))) rfl wm_X11_197 wi_X9_get ws_X9_get dX11_after_44 rfl (Nat.le_of_ble_eq_true rfl) ⟨by decide, by decide, by decide, by decide⟩) (fun r22135 u22136 h22134 => ?_)
  obtain ⟨rfl, rfl⟩ := h22134
  exact z_iret (u := (sa S 8 (va_cpy (ar S 4) (ar S 8) 0 0 51))) b rfl dX11_after_47 ⟨rfl, rfl⟩ rfl (by decide) (by decide)

set_option maxHeartbeats 4000000 in
set_option maxRecDepth 100000 in
theorem c_X12_after_315 {l : Launch} {D : va_G} {cy : Nat → ClassId} {T0 tB tE : Nat} {a : Nat → Nat} (S : GS)  (h_l_0 : fl S 0 = 1649317774848) (h_a_38_5 : ar S 38 5 = 0) (h_a_4_7 : ar S 4 7 = 0) (h_a_1_7 : ar S 1 7 = 0) (h_a_4_6 : ar S 4 6 = 0) (h_a_1_6 : ar S 1 6 = 0) (h_a_3_6 : ar S 3 6 = 0) (h_a_3_2 : ar S 3 2 = 0) (h_a_2_2 : ar S 2 2 = 3) (h_a_0_2 : ar S 0 2 = 0) (h_a_4_3 : ar S 4 3 = 0) (h_a_1_3 : ar S 1 3 = 0) (h_a_4_5 : ar S 4 5 = 0) (h_a_1_5 : ar S 1 5 = 0) (h_a_3_5 : ar S 3 5 = 0) (h_a_3_7 : ar S 3 7 = 0) (h_a_2_1 : ar S 2 1 = 3) (h_a_0_1 : ar S 0 1 = 0) (h_a_4_2 : ar S 4 2 = 0) (h_a_1_2 : ar S 1 2 = 0) (h_a_4_1 : ar S 4 1 = 0) (h_a_1_1 : ar S 1 1 = 0) (h_a_3_1 : ar S 3 1 = 0) (h_a_3_3 : ar S 3 3 = 0) (h_a_2_0 : ar S 2 0 = 3) (h_a_0_0 : ar S 0 0 = 0) (h_i_0 : fi S 0 = 0) : Ct l D cy T0 tB tE yX12_after cX12_after 4 (some .int) 2 47 0 0 (mw cy a S) [.ref (a 0), .int 5, .int 40] (QI D (U := GS) (fun r u => 3 = r ∧ (si (sl S 2 1649317774848) 24 (-1)) = u) (mw cy a)) := by
  refine Ct.ofZ RX12 "after" [(0, .ref (a 0)), (1, .int 5), (2, .int 40)] rfl rfl rfl rfl (Nat.le_of_ble_eq_true rfl) ?_
  intro p e R s m args below meth c A b
  refine z_iload_n b dX12_after_0 rfl rfl ?_
  refine z_calli b (z_runS (As := [.int 5]) (st := []) b (c_X12_isRow_8 S ) cf_X12_isRow wm_X12_452 ws_X12_isRow dX12_after_1 rfl (Nat.le_of_ble_eq_true rfl) ⟨by decide, by decide, by decide, by decide⟩) (fun r22138 u22139 h22137 => ?_)
  obtain ⟨rfl, rfl⟩ := h22137
  refine z_if_ne_t (tgt := 9) b dX12_after_4 (by decide) (by decide) ?_
  refine z_aload_n b dX12_after_9 rfl rfl ?_
  refine z_iload_n b dX12_after_10 rfl rfl ?_
  refine z_iconst (v := 3) b dX12_after_11 (by decide) ?_
  refine z_iconst (v := 0) b dX12_after_12 (by decide) ?_
  refine z_calli b (z_runV (q0 := 0) (As := [.int 5, .int 3, .int 0]) (st := []) b (c_X12_goes_12 S h_l_0 h_a_38_5) cf_X12_goes (mw_0 cy a S) rfl wm_X12_464 wi_X12_goes ws_X12_goes dX12_after_13 rfl (Nat.le_of_ble_eq_true rfl) ⟨by decide, by decide, by decide, by decide⟩) (fun r22141 u22142 h22140 => ?_)
  obtain ⟨rfl, rfl⟩ := h22140
  refine z_pop b dX12_after_16 rfl ?_
  refine z_aload_n b dX12_after_17 rfl rfl ?_
  refine z_aload_n b dX12_after_18 rfl rfl ?_
  refine z_get (q0 := 0) (k9 := 68) (v := .long 1649317774848) b (mw_0 cy a (si (sl S 2 1649317774848) 24 (-1))) rfl in_X12 (by decide) wf_X12_458 rfl dX12_after_19 ?_
  refine z_callv b (z_runV (q0 := 0) (As := [.long 1649317774848]) (st := []) b (c_X12_takes (si (sl S 2 1649317774848) 24 (-1)) h_a_4_7 h_a_1_7 h_a_4_6 h_a_1_6 h_a_3_6 h_a_3_2 h_a_2_2 h_a_0_2 h_a_4_3 h_a_1_3 h_a_4_5 h_a_1_5 h_a_3_5 h_a_3_7 h_a_2_1 h_a_0_1 h_a_4_2 h_a_1_2 h_a_4_1 h_a_1_1 h_a_3_1 h_a_3_3 h_a_2_0 h_a_0_0 h_i_0) cf_X12_takes (mw_0 cy a (si (sl S 2 1649317774848) 24 (-1))) rfl wm_X12_174 wi_X12_takes ws_X12_takes dX12_after_22 rfl (Nat.le_of_ble_eq_true rfl) ⟨by decide, by decide, by decide, by decide⟩) (fun u22145 h22143 => ?_)
  obtain rfl := h22143
  refine z_iload_n b dX12_after_25 rfl rfl ?_
  refine z_calli b (z_runS (As := [.int 40]) (st := []) b (c_X12_isOne_45 (si (sl S 2 1649317774848) 24 (-1)) ) cf_X12_isOne wm_X12_170 ws_X12_isOne dX12_after_26 rfl (Nat.le_of_ble_eq_true rfl) ⟨by decide, by decide, by decide, by decide⟩) (fun r22147 u22148 h22146 => ?_)
  obtain ⟨rfl, rfl⟩ := h22146
  refine z_if_eq_t (tgt := 39) b dX12_after_29 (by decide) (by decide) ?_
  refine z_iload_n b dX12_after_39 rfl rfl ?_
  refine z_bipush (v := 50) b dX12_after_40 (by decide) ?_
  refine z_icmp_ne_t (tgt := 50) b dX12_after_42 (by decide) (by decide) ?_
  refine z_iload_n b dX12_after_50 rfl rfl ?_
  refine z_bipush (v := 40) b dX12_after_51 (by decide) ?_
  refine z_bipush (v := 42) b dX12_after_53 (by decide) ?_
  refine z_calli b (z_runS (As := [.int 40, .int 40, .int 42]) (st := []) b (c_X12_isIn_180 (si (sl S 2 1649317774848) 24 (-1)) ) cf_X12_isIn wm_X12_1 ws_X12_isIn dX12_after_55 rfl (Nat.le_of_ble_eq_true rfl) ⟨by decide, by decide, by decide, by decide⟩) (fun r22150 u22151 h22149 => ?_)
  obtain ⟨rfl, rfl⟩ := h22149
  refine z_if_eq_f (tgt := 71) b dX12_after_58 (by decide) (by decide) ?_
  refine z_aload_n b dX12_after_61 rfl rfl ?_
  refine z_get (q0 := 0) (k9 := 2) (v := .ref (a 3)) b (mw_0 cy a (si (sl S 2 1649317774848) 24 (-1))) rfl in_X12 (by decide) wf_X12_20 rfl dX12_after_62 ?_
  refine z_iload_n b dX12_after_65 rfl rfl ?_
  refine z_bipush (v := 40) b dX12_after_66 (by decide) ?_
  refine z_isub (v := 0) b dX12_after_68 (by decide) ?_
  refine y_iald (q0 := 3) (j := 0) (v := (ar (si (sl S 2 1649317774848) 24 (-1)) 2 0)) b (mw_3 cy a (si (sl S 2 1649317774848) 24 (-1))) (by decide) rfl dX12_after_69 ?_
  refine z_eqi h_a_2_0 ?_
  exact z_iret (u := (si (sl S 2 1649317774848) 24 (-1))) b rfl dX12_after_70 ⟨rfl, rfl⟩ rfl (by decide) (by decide)

set_option maxHeartbeats 4000000 in
set_option maxRecDepth 100000 in
theorem c_X11_after_316 {l : Launch} {D : va_G} {cy : Nat → ClassId} {T0 tB tE : Nat} {a : Nat → Nat} {rw : Nat → Option Nat} (S : GS)  (h_i_14 : fi S 14 = (-1)) (h_i_37 : fi S 37 = 0) (h_a_4_41 : ar S 4 41 = 3) (hrw : ∀ i, i < 6 → rw i = some (a (36 + 2 * i))) : Ct l D cy T0 tB tE yX11_after cX11_after 3 (some .int) 3 86 0 0 (cw cy tE a rw S) [.ref (a 0), .int 5, .int 41] (QI D (U := GS) (fun r u => 3 = r ∧ (sa S 8 (va_cpy (ar S 4) (ar S 8) 0 0 51)) = u) (cw cy tE a rw)) := by
  refine Ct.ofZ RX11 "after" [(0, .ref (a 0)), (1, .int 5), (2, .int 41)] rfl rfl rfl rfl (Nat.le_of_ble_eq_true rfl) ?_
  intro p e R s m args below meth c A b
  refine z_iload_n b dX11_after_0 rfl rfl ?_
  refine z_calli b (z_runS (As := [.int 5]) (st := []) b (c_X11_isRow_8 S ) cf_X11_isRow wm_X11_169 ws_X11_isRow dX11_after_1 rfl (Nat.le_of_ble_eq_true rfl) ⟨by decide, by decide, by decide, by decide⟩) (fun r22153 u22154 h22152 => ?_)
  obtain ⟨rfl, rfl⟩ := h22152
  refine z_if_eq_f (tgt := 14) b dX11_after_4 (by decide) (by decide) ?_
  refine z_iload_n b dX11_after_7 rfl rfl ?_
  refine z_calli b (z_runS (As := [.int 41]) (st := []) b (c_X9_has_44 S ) cf_X9_has wm_X11_191 ws_X9_has dX11_after_8 rfl (Nat.le_of_ble_eq_true rfl) ⟨by decide, by decide, by decide, by decide⟩) (fun r22156 u22157 h22155 => ?_)
  obtain ⟨rfl, rfl⟩ := h22155
  refine z_if_ne_t (tgt := 16) b dX11_after_11 (by decide) (by decide) ?_
  refine z_aload_n b dX11_after_16 rfl rfl ?_
  refine z_get (q0 := 0) (k9 := 5) (v := .ref (a 16)) b (cw_0 cy tE a rw S) rfl in_X11 (by decide) wf_X11_43 rfl dX11_after_17 ?_
  refine z_aload_n b dX11_after_20 rfl rfl ?_
  refine z_get (q0 := 0) (k9 := 7) (v := .ref (a 35)) b (cw_0 cy tE a rw S) rfl in_X11 (by decide) wf_X11_58 rfl dX11_after_21 ?_
  refine z_iload_n b dX11_after_24 rfl rfl ?_
  refine y_aald (q0 := 35) (t0 := 4) (j := 5) (v := .ref (a 46)) b (cw_35 cy tE a rw S) rfl (by decide) (by rw [hrw 5 (by decide)]; rfl) dX11_after_25 ?_
  refine z_aload_n b dX11_after_26 rfl rfl ?_
  refine z_get (q0 := 0) (k9 := 4) (v := .ref (a 14)) b (cw_0 cy tE a rw S) rfl in_X11 (by decide) wf_X11_34 rfl dX11_after_27 ?_
  refine z_iconst (v := 3) b dX11_after_30 (by decide) ?_
  refine z_iconst (v := 0) b dX11_after_31 (by decide) ?_
  refine z_calli b (z_runV (q0 := 16) (As := [.ref (a 46), .ref (a 14), .int 3, .int 0]) (st := []) b (c_X2_follow_12 S h_i_14 h_i_37) cf_X2_follow (cw_16 cy tE a rw S) rfl wm_X11_184 wi_X2_follow ws_X2_follow dX11_after_32 rfl (Nat.le_of_ble_eq_true rfl) ⟨by decide, by decide, by decide, by decide⟩) (fun r22159 u22160 h22158 => ?_)
  obtain ⟨rfl, rfl⟩ := h22158
  refine z_pop b dX11_after_35 rfl ?_
  refine z_aload_n b dX11_after_36 rfl rfl ?_
  refine z_get (q0 := 0) (k9 := 5) (v := .ref (a 16)) b (cw_0 cy tE a rw (sa S 8 (va_cpy (ar S 4) (ar S 8) 0 0 51))) rfl in_X11 (by decide) wf_X11_43 rfl dX11_after_37 ?_
  refine z_get (q0 := 16) (k9 := 3) (v := .ref (a 23)) b (cw_16 cy tE a rw (sa S 8 (va_cpy (ar S 4) (ar S 8) 0 0 51))) rfl in_X2 (by decide) wf_X11_194 rfl dX11_after_40 ?_
  refine z_iload_n b dX11_after_43 rfl rfl ?_
  refine z_calli b (z_runV (q0 := 23) (As := [.int 41]) (st := []) b (c_X9_get_32 (sa S 8 (va_cpy (ar S 4) (ar S 8) 0 0 51)) h_a_4_41) cf_X9_get (cw_23 cy tE a rw (sa S 8 (va_cpy (ar S 4) (ar S 8) 0 0 51))) rfl wm_X11_197 wi_X9_get ws_X9_get dX11_after_44 rfl (Nat.le_of_ble_eq_true rfl) ⟨by decide, by decide, by decide, by decide⟩) (fun r22162 u22163 h22161 => ?_)
  obtain ⟨rfl, rfl⟩ := h22161
  exact z_iret (u := (sa S 8 (va_cpy (ar S 4) (ar S 8) 0 0 51))) b rfl dX11_after_47 ⟨rfl, rfl⟩ rfl (by decide) (by decide)

set_option maxHeartbeats 4000000 in
set_option maxRecDepth 100000 in
theorem c_X12_after_316 {l : Launch} {D : va_G} {cy : Nat → ClassId} {T0 tB tE : Nat} {a : Nat → Nat} (S : GS)  (h_l_0 : fl S 0 = 1649317774848) (h_a_38_5 : ar S 38 5 = 0) (h_a_4_7 : ar S 4 7 = 0) (h_a_1_7 : ar S 1 7 = 0) (h_a_4_6 : ar S 4 6 = 0) (h_a_1_6 : ar S 1 6 = 0) (h_a_3_6 : ar S 3 6 = 0) (h_a_3_2 : ar S 3 2 = 0) (h_a_2_2 : ar S 2 2 = 3) (h_a_0_2 : ar S 0 2 = 0) (h_a_4_3 : ar S 4 3 = 0) (h_a_1_3 : ar S 1 3 = 0) (h_a_4_5 : ar S 4 5 = 0) (h_a_1_5 : ar S 1 5 = 0) (h_a_3_5 : ar S 3 5 = 0) (h_a_3_7 : ar S 3 7 = 0) (h_a_2_1 : ar S 2 1 = 3) (h_a_0_1 : ar S 0 1 = 0) (h_a_4_2 : ar S 4 2 = 0) (h_a_1_2 : ar S 1 2 = 0) (h_a_4_1 : ar S 4 1 = 0) (h_a_1_1 : ar S 1 1 = 0) (h_a_3_1 : ar S 3 1 = 0) (h_a_3_3 : ar S 3 3 = 0) (h_a_2_0 : ar S 2 0 = 3) (h_a_0_0 : ar S 0 0 = 0) (h_i_0 : fi S 0 = 0) : Ct l D cy T0 tB tE yX12_after cX12_after 4 (some .int) 2 47 0 0 (mw cy a S) [.ref (a 0), .int 5, .int 41] (QI D (U := GS) (fun r u => 3 = r ∧ (si (sl S 2 1649317774848) 24 (-1)) = u) (mw cy a)) := by
  refine Ct.ofZ RX12 "after" [(0, .ref (a 0)), (1, .int 5), (2, .int 41)] rfl rfl rfl rfl (Nat.le_of_ble_eq_true rfl) ?_
  intro p e R s m args below meth c A b
  refine z_iload_n b dX12_after_0 rfl rfl ?_
  refine z_calli b (z_runS (As := [.int 5]) (st := []) b (c_X12_isRow_8 S ) cf_X12_isRow wm_X12_452 ws_X12_isRow dX12_after_1 rfl (Nat.le_of_ble_eq_true rfl) ⟨by decide, by decide, by decide, by decide⟩) (fun r22165 u22166 h22164 => ?_)
  obtain ⟨rfl, rfl⟩ := h22164
  refine z_if_ne_t (tgt := 9) b dX12_after_4 (by decide) (by decide) ?_
  refine z_aload_n b dX12_after_9 rfl rfl ?_
  refine z_iload_n b dX12_after_10 rfl rfl ?_
  refine z_iconst (v := 3) b dX12_after_11 (by decide) ?_
  refine z_iconst (v := 0) b dX12_after_12 (by decide) ?_
  refine z_calli b (z_runV (q0 := 0) (As := [.int 5, .int 3, .int 0]) (st := []) b (c_X12_goes_12 S h_l_0 h_a_38_5) cf_X12_goes (mw_0 cy a S) rfl wm_X12_464 wi_X12_goes ws_X12_goes dX12_after_13 rfl (Nat.le_of_ble_eq_true rfl) ⟨by decide, by decide, by decide, by decide⟩) (fun r22168 u22169 h22167 => ?_)
  obtain ⟨rfl, rfl⟩ := h22167
  refine z_pop b dX12_after_16 rfl ?_
  refine z_aload_n b dX12_after_17 rfl rfl ?_
  refine z_aload_n b dX12_after_18 rfl rfl ?_
  refine z_get (q0 := 0) (k9 := 68) (v := .long 1649317774848) b (mw_0 cy a (si (sl S 2 1649317774848) 24 (-1))) rfl in_X12 (by decide) wf_X12_458 rfl dX12_after_19 ?_
  refine z_callv b (z_runV (q0 := 0) (As := [.long 1649317774848]) (st := []) b (c_X12_takes (si (sl S 2 1649317774848) 24 (-1)) h_a_4_7 h_a_1_7 h_a_4_6 h_a_1_6 h_a_3_6 h_a_3_2 h_a_2_2 h_a_0_2 h_a_4_3 h_a_1_3 h_a_4_5 h_a_1_5 h_a_3_5 h_a_3_7 h_a_2_1 h_a_0_1 h_a_4_2 h_a_1_2 h_a_4_1 h_a_1_1 h_a_3_1 h_a_3_3 h_a_2_0 h_a_0_0 h_i_0) cf_X12_takes (mw_0 cy a (si (sl S 2 1649317774848) 24 (-1))) rfl wm_X12_174 wi_X12_takes ws_X12_takes dX12_after_22 rfl (Nat.le_of_ble_eq_true rfl) ⟨by decide, by decide, by decide, by decide⟩) (fun u22172 h22170 => ?_)
  obtain rfl := h22170
  refine z_iload_n b dX12_after_25 rfl rfl ?_
  refine z_calli b (z_runS (As := [.int 41]) (st := []) b (c_X12_isOne_46 (si (sl S 2 1649317774848) 24 (-1)) ) cf_X12_isOne wm_X12_170 ws_X12_isOne dX12_after_26 rfl (Nat.le_of_ble_eq_true rfl) ⟨by decide, by decide, by decide, by decide⟩) (fun r22174 u22175 h22173 => ?_)
  obtain ⟨rfl, rfl⟩ := h22173
  refine z_if_eq_t (tgt := 39) b dX12_after_29 (by decide) (by decide) ?_
  refine z_iload_n b dX12_after_39 rfl rfl ?_
  refine z_bipush (v := 50) b dX12_after_40 (by decide) ?_
  refine z_icmp_ne_t (tgt := 50) b dX12_after_42 (by decide) (by decide) ?_
  refine z_iload_n b dX12_after_50 rfl rfl ?_
  refine z_bipush (v := 40) b dX12_after_51 (by decide) ?_
  refine z_bipush (v := 42) b dX12_after_53 (by decide) ?_
  refine z_calli b (z_runS (As := [.int 41, .int 40, .int 42]) (st := []) b (c_X12_isIn_182 (si (sl S 2 1649317774848) 24 (-1)) ) cf_X12_isIn wm_X12_1 ws_X12_isIn dX12_after_55 rfl (Nat.le_of_ble_eq_true rfl) ⟨by decide, by decide, by decide, by decide⟩) (fun r22177 u22178 h22176 => ?_)
  obtain ⟨rfl, rfl⟩ := h22176
  refine z_if_eq_f (tgt := 71) b dX12_after_58 (by decide) (by decide) ?_
  refine z_aload_n b dX12_after_61 rfl rfl ?_
  refine z_get (q0 := 0) (k9 := 2) (v := .ref (a 3)) b (mw_0 cy a (si (sl S 2 1649317774848) 24 (-1))) rfl in_X12 (by decide) wf_X12_20 rfl dX12_after_62 ?_
  refine z_iload_n b dX12_after_65 rfl rfl ?_
  refine z_bipush (v := 40) b dX12_after_66 (by decide) ?_
  refine z_isub (v := 1) b dX12_after_68 (by decide) ?_
  refine y_iald (q0 := 3) (j := 1) (v := (ar (si (sl S 2 1649317774848) 24 (-1)) 2 1)) b (mw_3 cy a (si (sl S 2 1649317774848) 24 (-1))) (by decide) rfl dX12_after_69 ?_
  refine z_eqi h_a_2_1 ?_
  exact z_iret (u := (si (sl S 2 1649317774848) 24 (-1))) b rfl dX12_after_70 ⟨rfl, rfl⟩ rfl (by decide) (by decide)

set_option maxHeartbeats 4000000 in
set_option maxRecDepth 100000 in
theorem c_X11_after_317 {l : Launch} {D : va_G} {cy : Nat → ClassId} {T0 tB tE : Nat} {a : Nat → Nat} {rw : Nat → Option Nat} (S : GS)  (h_i_14 : fi S 14 = (-1)) (h_i_37 : fi S 37 = 0) (h_a_4_42 : ar S 4 42 = 3) (hrw : ∀ i, i < 6 → rw i = some (a (36 + 2 * i))) : Ct l D cy T0 tB tE yX11_after cX11_after 3 (some .int) 3 86 0 0 (cw cy tE a rw S) [.ref (a 0), .int 5, .int 42] (QI D (U := GS) (fun r u => 3 = r ∧ (sa S 8 (va_cpy (ar S 4) (ar S 8) 0 0 51)) = u) (cw cy tE a rw)) := by
  refine Ct.ofZ RX11 "after" [(0, .ref (a 0)), (1, .int 5), (2, .int 42)] rfl rfl rfl rfl (Nat.le_of_ble_eq_true rfl) ?_
  intro p e R s m args below meth c A b
  refine z_iload_n b dX11_after_0 rfl rfl ?_
  refine z_calli b (z_runS (As := [.int 5]) (st := []) b (c_X11_isRow_8 S ) cf_X11_isRow wm_X11_169 ws_X11_isRow dX11_after_1 rfl (Nat.le_of_ble_eq_true rfl) ⟨by decide, by decide, by decide, by decide⟩) (fun r22180 u22181 h22179 => ?_)
  obtain ⟨rfl, rfl⟩ := h22179
  refine z_if_eq_f (tgt := 14) b dX11_after_4 (by decide) (by decide) ?_
  refine z_iload_n b dX11_after_7 rfl rfl ?_
  refine z_calli b (z_runS (As := [.int 42]) (st := []) b (c_X9_has_45 S ) cf_X9_has wm_X11_191 ws_X9_has dX11_after_8 rfl (Nat.le_of_ble_eq_true rfl) ⟨by decide, by decide, by decide, by decide⟩) (fun r22183 u22184 h22182 => ?_)
  obtain ⟨rfl, rfl⟩ := h22182
  refine z_if_ne_t (tgt := 16) b dX11_after_11 (by decide) (by decide) ?_
  refine z_aload_n b dX11_after_16 rfl rfl ?_
  refine z_get (q0 := 0) (k9 := 5) (v := .ref (a 16)) b (cw_0 cy tE a rw S) rfl in_X11 (by decide) wf_X11_43 rfl dX11_after_17 ?_
  refine z_aload_n b dX11_after_20 rfl rfl ?_
  refine z_get (q0 := 0) (k9 := 7) (v := .ref (a 35)) b (cw_0 cy tE a rw S) rfl in_X11 (by decide) wf_X11_58 rfl dX11_after_21 ?_
  refine z_iload_n b dX11_after_24 rfl rfl ?_
  refine y_aald (q0 := 35) (t0 := 4) (j := 5) (v := .ref (a 46)) b (cw_35 cy tE a rw S) rfl (by decide) (by rw [hrw 5 (by decide)]; rfl) dX11_after_25 ?_
  refine z_aload_n b dX11_after_26 rfl rfl ?_
  refine z_get (q0 := 0) (k9 := 4) (v := .ref (a 14)) b (cw_0 cy tE a rw S) rfl in_X11 (by decide) wf_X11_34 rfl dX11_after_27 ?_
  refine z_iconst (v := 3) b dX11_after_30 (by decide) ?_
  refine z_iconst (v := 0) b dX11_after_31 (by decide) ?_
  refine z_calli b (z_runV (q0 := 16) (As := [.ref (a 46), .ref (a 14), .int 3, .int 0]) (st := []) b (c_X2_follow_12 S h_i_14 h_i_37) cf_X2_follow (cw_16 cy tE a rw S) rfl wm_X11_184 wi_X2_follow ws_X2_follow dX11_after_32 rfl (Nat.le_of_ble_eq_true rfl) ⟨by decide, by decide, by decide, by decide⟩) (fun r22186 u22187 h22185 => ?_)
  obtain ⟨rfl, rfl⟩ := h22185
  refine z_pop b dX11_after_35 rfl ?_
  refine z_aload_n b dX11_after_36 rfl rfl ?_
  refine z_get (q0 := 0) (k9 := 5) (v := .ref (a 16)) b (cw_0 cy tE a rw (sa S 8 (va_cpy (ar S 4) (ar S 8) 0 0 51))) rfl in_X11 (by decide) wf_X11_43 rfl dX11_after_37 ?_
  refine z_get (q0 := 16) (k9 := 3) (v := .ref (a 23)) b (cw_16 cy tE a rw (sa S 8 (va_cpy (ar S 4) (ar S 8) 0 0 51))) rfl in_X2 (by decide) wf_X11_194 rfl dX11_after_40 ?_
  refine z_iload_n b dX11_after_43 rfl rfl ?_
  refine z_calli b (z_runV (q0 := 23) (As := [.int 42]) (st := []) b (c_X9_get_33 (sa S 8 (va_cpy (ar S 4) (ar S 8) 0 0 51)) h_a_4_42) cf_X9_get (cw_23 cy tE a rw (sa S 8 (va_cpy (ar S 4) (ar S 8) 0 0 51))) rfl wm_X11_197 wi_X9_get ws_X9_get dX11_after_44 rfl (Nat.le_of_ble_eq_true rfl) ⟨by decide, by decide, by decide, by decide⟩) (fun r22189 u22190 h22188 => ?_)
  obtain ⟨rfl, rfl⟩ := h22188
  exact z_iret (u := (sa S 8 (va_cpy (ar S 4) (ar S 8) 0 0 51))) b rfl dX11_after_47 ⟨rfl, rfl⟩ rfl (by decide) (by decide)

set_option maxHeartbeats 4000000 in
set_option maxRecDepth 100000 in
theorem c_X12_after_317 {l : Launch} {D : va_G} {cy : Nat → ClassId} {T0 tB tE : Nat} {a : Nat → Nat} (S : GS)  (h_l_0 : fl S 0 = 1649317774848) (h_a_38_5 : ar S 38 5 = 0) (h_a_4_7 : ar S 4 7 = 0) (h_a_1_7 : ar S 1 7 = 0) (h_a_4_6 : ar S 4 6 = 0) (h_a_1_6 : ar S 1 6 = 0) (h_a_3_6 : ar S 3 6 = 0) (h_a_3_2 : ar S 3 2 = 0) (h_a_2_2 : ar S 2 2 = 3) (h_a_0_2 : ar S 0 2 = 0) (h_a_4_3 : ar S 4 3 = 0) (h_a_1_3 : ar S 1 3 = 0) (h_a_4_5 : ar S 4 5 = 0) (h_a_1_5 : ar S 1 5 = 0) (h_a_3_5 : ar S 3 5 = 0) (h_a_3_7 : ar S 3 7 = 0) (h_a_2_1 : ar S 2 1 = 3) (h_a_0_1 : ar S 0 1 = 0) (h_a_4_2 : ar S 4 2 = 0) (h_a_1_2 : ar S 1 2 = 0) (h_a_4_1 : ar S 4 1 = 0) (h_a_1_1 : ar S 1 1 = 0) (h_a_3_1 : ar S 3 1 = 0) (h_a_3_3 : ar S 3 3 = 0) (h_a_2_0 : ar S 2 0 = 3) (h_a_0_0 : ar S 0 0 = 0) (h_i_0 : fi S 0 = 0) : Ct l D cy T0 tB tE yX12_after cX12_after 4 (some .int) 2 47 0 0 (mw cy a S) [.ref (a 0), .int 5, .int 42] (QI D (U := GS) (fun r u => 3 = r ∧ (si (sl S 2 1649317774848) 24 (-1)) = u) (mw cy a)) := by
  refine Ct.ofZ RX12 "after" [(0, .ref (a 0)), (1, .int 5), (2, .int 42)] rfl rfl rfl rfl (Nat.le_of_ble_eq_true rfl) ?_
  intro p e R s m args below meth c A b
  refine z_iload_n b dX12_after_0 rfl rfl ?_
  refine z_calli b (z_runS (As := [.int 5]) (st := []) b (c_X12_isRow_8 S ) cf_X12_isRow wm_X12_452 ws_X12_isRow dX12_after_1 rfl (Nat.le_of_ble_eq_true rfl) ⟨by decide, by decide, by decide, by decide⟩) (fun r22192 u22193 h22191 => ?_)
  obtain ⟨rfl, rfl⟩ := h22191
  refine z_if_ne_t (tgt := 9) b dX12_after_4 (by decide) (by decide) ?_
  refine z_aload_n b dX12_after_9 rfl rfl ?_
  refine z_iload_n b dX12_after_10 rfl rfl ?_
  refine z_iconst (v := 3) b dX12_after_11 (by decide) ?_
  refine z_iconst (v := 0) b dX12_after_12 (by decide) ?_
  refine z_calli b (z_runV (q0 := 0) (As := [.int 5, .int 3, .int 0]) (st := []) b (c_X12_goes_12 S h_l_0 h_a_38_5) cf_X12_goes (mw_0 cy a S) rfl wm_X12_464 wi_X12_goes ws_X12_goes dX12_after_13 rfl (Nat.le_of_ble_eq_true rfl) ⟨by decide, by decide, by decide, by decide⟩) (fun r22195 u22196 h22194 => ?_)
  obtain ⟨rfl, rfl⟩ := h22194
  refine z_pop b dX12_after_16 rfl ?_
  refine z_aload_n b dX12_after_17 rfl rfl ?_
  refine z_aload_n b dX12_after_18 rfl rfl ?_
  refine z_get (q0 := 0) (k9 := 68) (v := .long 1649317774848) b (mw_0 cy a (si (sl S 2 1649317774848) 24 (-1))) rfl in_X12 (by decide) wf_X12_458 rfl dX12_after_19 ?_
  refine z_callv b (z_runV (q0 := 0) (As := [.long 1649317774848]) (st := []) b (c_X12_takes (si (sl S 2 1649317774848) 24 (-1)) h_a_4_7 h_a_1_7 h_a_4_6 h_a_1_6 h_a_3_6 h_a_3_2 h_a_2_2 h_a_0_2 h_a_4_3 h_a_1_3 h_a_4_5 h_a_1_5 h_a_3_5 h_a_3_7 h_a_2_1 h_a_0_1 h_a_4_2 h_a_1_2 h_a_4_1 h_a_1_1 h_a_3_1 h_a_3_3 h_a_2_0 h_a_0_0 h_i_0) cf_X12_takes (mw_0 cy a (si (sl S 2 1649317774848) 24 (-1))) rfl wm_X12_174 wi_X12_takes ws_X12_takes dX12_after_22 rfl (Nat.le_of_ble_eq_true rfl) ⟨by decide, by decide, by decide, by decide⟩) (fun u22199 h22197 => ?_)
  obtain rfl := h22197
  refine z_iload_n b dX12_after_25 rfl rfl ?_
  refine z_calli b (z_runS (As := [.int 42]) (st := []) b (c_X12_isOne_47 (si (sl S 2 1649317774848) 24 (-1)) ) cf_X12_isOne wm_X12_170 ws_X12_isOne dX12_after_26 rfl (Nat.le_of_ble_eq_true rfl) ⟨by decide, by decide, by decide, by decide⟩) (fun r22201 u22202 h22200 => ?_)
  obtain ⟨rfl, rfl⟩ := h22200
  refine z_if_eq_t (tgt := 39) b dX12_after_29 (by decide) (by decide) ?_
  refine z_iload_n b dX12_after_39 rfl rfl ?_
  refine z_bipush (v := 50) b dX12_after_40 (by decide) ?_
  refine z_icmp_ne_t (tgt := 50) b dX12_after_42 (by decide) (by decide) ?_
  refine z_iload_n b dX12_after_50 rfl rfl ?_
  refine z_bipush (v := 40) b dX12_after_51 (by decide) ?_
  refine z_bipush (v := 42) b dX12_after_53 (by decide) ?_
  refine z_calli b (z_runS (As := [.int 42, .int 40, .int 42]) (st := []) b (c_X12_isIn_184 (si (sl S 2 1649317774848) 24 (-1)) ) cf_X12_isIn wm_X12_1 ws_X12_isIn dX12_after_55 rfl (Nat.le_of_ble_eq_true rfl) ⟨by decide, by decide, by decide, by decide⟩) (fun r22204 u22205 h22203 => ?_)
  obtain ⟨rfl, rfl⟩ := h22203
  refine z_if_eq_f (tgt := 71) b dX12_after_58 (by decide) (by decide) ?_
  refine z_aload_n b dX12_after_61 rfl rfl ?_
  refine z_get (q0 := 0) (k9 := 2) (v := .ref (a 3)) b (mw_0 cy a (si (sl S 2 1649317774848) 24 (-1))) rfl in_X12 (by decide) wf_X12_20 rfl dX12_after_62 ?_
  refine z_iload_n b dX12_after_65 rfl rfl ?_
  refine z_bipush (v := 40) b dX12_after_66 (by decide) ?_
  refine z_isub (v := 2) b dX12_after_68 (by decide) ?_
  refine y_iald (q0 := 3) (j := 2) (v := (ar (si (sl S 2 1649317774848) 24 (-1)) 2 2)) b (mw_3 cy a (si (sl S 2 1649317774848) 24 (-1))) (by decide) rfl dX12_after_69 ?_
  refine z_eqi h_a_2_2 ?_
  exact z_iret (u := (si (sl S 2 1649317774848) 24 (-1))) b rfl dX12_after_70 ⟨rfl, rfl⟩ rfl (by decide) (by decide)

set_option maxHeartbeats 4000000 in
set_option maxRecDepth 100000 in
theorem c_X11_after_318 {l : Launch} {D : va_G} {cy : Nat → ClassId} {T0 tB tE : Nat} {a : Nat → Nat} {rw : Nat → Option Nat} (S : GS)   : Ct l D cy T0 tB tE yX11_after cX11_after 3 (some .int) 2 41 0 0 (cw cy tE a rw S) [.ref (a 0), .int 5, .int 43] (QI D (U := GS) (fun r u => (-1) = r ∧ S = u) (cw cy tE a rw)) := by
  refine Ct.ofZ RX11 "after" [(0, .ref (a 0)), (1, .int 5), (2, .int 43)] rfl rfl rfl rfl (Nat.le_of_ble_eq_true rfl) ?_
  intro p e R s m args below meth c A b
  refine z_iload_n b dX11_after_0 rfl rfl ?_
  refine z_calli b (z_runS (As := [.int 5]) (st := []) b (c_X11_isRow_8 S ) cf_X11_isRow wm_X11_169 ws_X11_isRow dX11_after_1 rfl (Nat.le_of_ble_eq_true rfl) ⟨by decide, by decide, by decide, by decide⟩) (fun r22207 u22208 h22206 => ?_)
  obtain ⟨rfl, rfl⟩ := h22206
  refine z_if_eq_f (tgt := 14) b dX11_after_4 (by decide) (by decide) ?_
  refine z_iload_n b dX11_after_7 rfl rfl ?_
  refine z_calli b (z_runS (As := [.int 43]) (st := []) b (c_X9_has_46 S ) cf_X9_has wm_X11_191 ws_X9_has dX11_after_8 rfl (Nat.le_of_ble_eq_true rfl) ⟨by decide, by decide, by decide, by decide⟩) (fun r22210 u22211 h22209 => ?_)
  obtain ⟨rfl, rfl⟩ := h22209
  refine z_if_ne_f (tgt := 16) b dX11_after_11 (by decide) (by decide) ?_
  refine z_iconst (v := (-1)) b dX11_after_14 (by decide) ?_
  exact z_iret (u := S) b rfl dX11_after_15 ⟨rfl, rfl⟩ rfl (by decide) (by decide)

set_option maxHeartbeats 4000000 in
set_option maxRecDepth 100000 in
theorem c_X12_after_318 {l : Launch} {D : va_G} {cy : Nat → ClassId} {T0 tB tE : Nat} {a : Nat → Nat} (S : GS)  (h_l_0 : fl S 0 = 1649317774848) (h_a_38_5 : ar S 38 5 = 0) (h_a_4_7 : ar S 4 7 = 0) (h_a_1_7 : ar S 1 7 = 0) (h_a_4_6 : ar S 4 6 = 0) (h_a_1_6 : ar S 1 6 = 0) (h_a_3_6 : ar S 3 6 = 0) (h_a_3_2 : ar S 3 2 = 0) (h_a_2_2 : ar S 2 2 = 3) (h_a_0_2 : ar S 0 2 = 0) (h_a_4_3 : ar S 4 3 = 0) (h_a_1_3 : ar S 1 3 = 0) (h_a_4_5 : ar S 4 5 = 0) (h_a_1_5 : ar S 1 5 = 0) (h_a_3_5 : ar S 3 5 = 0) (h_a_3_7 : ar S 3 7 = 0) (h_a_2_1 : ar S 2 1 = 3) (h_a_0_1 : ar S 0 1 = 0) (h_a_4_2 : ar S 4 2 = 0) (h_a_1_2 : ar S 1 2 = 0) (h_a_4_1 : ar S 4 1 = 0) (h_a_1_1 : ar S 1 1 = 0) (h_a_3_1 : ar S 3 1 = 0) (h_a_3_3 : ar S 3 3 = 0) (h_a_2_0 : ar S 2 0 = 3) (h_a_0_0 : ar S 0 0 = 0) (h_i_0 : fi S 0 = 0) : Ct l D cy T0 tB tE yX12_after cX12_after 4 (some .int) 2 47 0 0 (mw cy a S) [.ref (a 0), .int 5, .int 43] (QI D (U := GS) (fun r u => (-1) = r ∧ (si (sl S 2 1649317774848) 24 (-1)) = u) (mw cy a)) := by
  refine Ct.ofZ RX12 "after" [(0, .ref (a 0)), (1, .int 5), (2, .int 43)] rfl rfl rfl rfl (Nat.le_of_ble_eq_true rfl) ?_
  intro p e R s m args below meth c A b
  refine z_iload_n b dX12_after_0 rfl rfl ?_
  refine z_calli b (z_runS (As := [.int 5]) (st := []) b (c_X12_isRow_8 S ) cf_X12_isRow wm_X12_452 ws_X12_isRow dX12_after_1 rfl (Nat.le_of_ble_eq_true rfl) ⟨by decide, by decide, by decide, by decide⟩) (fun r22213 u22214 h22212 => ?_)
  obtain ⟨rfl, rfl⟩ := h22212
  refine z_if_ne_t (tgt := 9) b dX12_after_4 (by decide) (by decide) ?_
  refine z_aload_n b dX12_after_9 rfl rfl ?_
  refine z_iload_n b dX12_after_10 rfl rfl ?_
  refine z_iconst (v := 3) b dX12_after_11 (by decide) ?_
  refine z_iconst (v := 0) b dX12_after_12 (by decide) ?_
  refine z_calli b (z_runV (q0 := 0) (As := [.int 5, .int 3, .int 0]) (st := []) b (c_X12_goes_12 S h_l_0 h_a_38_5) cf_X12_goes (mw_0 cy a S) rfl wm_X12_464 wi_X12_goes ws_X12_goes dX12_after_13 rfl (Nat.le_of_ble_eq_true rfl) ⟨by decide, by decide, by decide, by decide⟩) (fun r22216 u22217 h22215 => ?_)
  obtain ⟨rfl, rfl⟩ := h22215
  refine z_pop b dX12_after_16 rfl ?_
  refine z_aload_n b dX12_after_17 rfl rfl ?_
  refine z_aload_n b dX12_after_18 rfl rfl ?_
  refine z_get (q0 := 0) (k9 := 68) (v := .long 1649317774848) b (mw_0 cy a (si (sl S 2 1649317774848) 24 (-1))) rfl in_X12 (by decide) wf_X12_458 rfl dX12_after_19 ?_
  refine z_callv b (z_runV (q0 := 0) (As := [.long 1649317774848]) (st := []) b (c_X12_takes (si (sl S 2 1649317774848) 24 (-1)) h_a_4_7 h_a_1_7 h_a_4_6 h_a_1_6 h_a_3_6 h_a_3_2 h_a_2_2 h_a_0_2 h_a_4_3 h_a_1_3 h_a_4_5 h_a_1_5 h_a_3_5 h_a_3_7 h_a_2_1 h_a_0_1 h_a_4_2 h_a_1_2 h_a_4_1 h_a_1_1 h_a_3_1 h_a_3_3 h_a_2_0 h_a_0_0 h_i_0) cf_X12_takes (mw_0 cy a (si (sl S 2 1649317774848) 24 (-1))) rfl wm_X12_174 wi_X12_takes ws_X12_takes dX12_after_22 rfl (Nat.le_of_ble_eq_true rfl) ⟨by decide, by decide, by decide, by decide⟩) (fun u22220 h22218 => ?_)
  obtain rfl := h22218
  refine z_iload_n b dX12_after_25 rfl rfl ?_
  refine z_calli b (z_runS (As := [.int 43]) (st := []) b (c_X12_isOne_48 (si (sl S 2 1649317774848) 24 (-1)) ) cf_X12_isOne wm_X12_170 ws_X12_isOne dX12_after_26 rfl (Nat.le_of_ble_eq_true rfl) ⟨by decide, by decide, by decide, by decide⟩) (fun r22222 u22223 h22221 => ?_)
  obtain ⟨rfl, rfl⟩ := h22221
  refine z_if_eq_t (tgt := 39) b dX12_after_29 (by decide) (by decide) ?_
  refine z_iload_n b dX12_after_39 rfl rfl ?_
  refine z_bipush (v := 50) b dX12_after_40 (by decide) ?_
  refine z_icmp_ne_t (tgt := 50) b dX12_after_42 (by decide) (by decide) ?_
  refine z_iload_n b dX12_after_50 rfl rfl ?_
  refine z_bipush (v := 40) b dX12_after_51 (by decide) ?_
  refine z_bipush (v := 42) b dX12_after_53 (by decide) ?_
  refine z_calli b (z_runS (As := [.int 43, .int 40, .int 42]) (st := []) b (c_X12_isIn_186 (si (sl S 2 1649317774848) 24 (-1)) ) cf_X12_isIn wm_X12_1 ws_X12_isIn dX12_after_55 rfl (Nat.le_of_ble_eq_true rfl) ⟨by decide, by decide, by decide, by decide⟩) (fun r22225 u22226 h22224 => ?_)
  obtain ⟨rfl, rfl⟩ := h22224
  refine z_if_eq_t (tgt := 71) b dX12_after_58 (by decide) (by decide) ?_
  refine z_iload_n b dX12_after_71 rfl rfl ?_
  refine z_bipush (v := 10) b dX12_after_72 (by decide) ?_
  refine z_irem (v := 3) b dX12_after_74 (by decide) (by decide) ?_
  refine z_istore_n (lv' := [(3, .int 3), (0, .ref (a 0)), (1, .int 5), (2, .int 43)]) b dX12_after_75 rfl (by decide) rfl ?_
  refine z_iload_n b dX12_after_76 rfl rfl ?_
  refine z_bipush (v := 10) b dX12_after_77 (by decide) ?_
  refine z_bipush (v := 38) b dX12_after_79 (by decide) ?_
  refine z_calli b (z_runS (As := [.int 43, .int 10, .int 38]) (st := []) b (c_X12_isIn_187 (si (sl S 2 1649317774848) 24 (-1)) ) cf_X12_isIn wm_X12_1 ws_X12_isIn dX12_after_81 rfl (Nat.le_of_ble_eq_true rfl) ⟨by decide, by decide, by decide, by decide⟩) (fun r22228 u22229 h22227 => ?_)
  obtain ⟨rfl, rfl⟩ := h22227
  refine z_if_eq_t (tgt := 102) b dX12_after_84 (by decide) (by decide) ?_
  refine z_iconst (v := (-1)) b dX12_after_102 (by decide) ?_
  exact z_iret (u := (si (sl S 2 1649317774848) 24 (-1))) b rfl dX12_after_103 ⟨rfl, rfl⟩ rfl (by decide) (by decide)

set_option maxHeartbeats 4000000 in
set_option maxRecDepth 100000 in
theorem c_X11_after_319 {l : Launch} {D : va_G} {cy : Nat → ClassId} {T0 tB tE : Nat} {a : Nat → Nat} {rw : Nat → Option Nat} (S : GS)   : Ct l D cy T0 tB tE yX11_after cX11_after 3 (some .int) 2 41 0 0 (cw cy tE a rw S) [.ref (a 0), .int 5, .int 44] (QI D (U := GS) (fun r u => (-1) = r ∧ S = u) (cw cy tE a rw)) := by
  refine Ct.ofZ RX11 "after" [(0, .ref (a 0)), (1, .int 5), (2, .int 44)] rfl rfl rfl rfl (Nat.le_of_ble_eq_true rfl) ?_
  intro p e R s m args below meth c A b
  refine z_iload_n b dX11_after_0 rfl rfl ?_
  refine z_calli b (z_runS (As := [.int 5]) (st := []) b (c_X11_isRow_8 S ) cf_X11_isRow wm_X11_169 ws_X11_isRow dX11_after_1 rfl (Nat.le_of_ble_eq_true rfl) ⟨by decide, by decide, by decide, by decide⟩) (fun r22231 u22232 h22230 => ?_)
  obtain ⟨rfl, rfl⟩ := h22230
  refine z_if_eq_f (tgt := 14) b dX11_after_4 (by decide) (by decide) ?_
  refine z_iload_n b dX11_after_7 rfl rfl ?_
  refine z_calli b (z_runS (As := [.int 44]) (st := []) b (c_X9_has_47 S ) cf_X9_has wm_X11_191 ws_X9_has dX11_after_8 rfl (Nat.le_of_ble_eq_true rfl) ⟨by decide, by decide, by decide, by decide⟩) (fun r22234 u22235 h22233 => ?_)
  obtain ⟨rfl, rfl⟩ := h22233
  refine z_if_ne_f (tgt := 16) b dX11_after_11 (by decide) (by decide) ?_
  refine z_iconst (v := (-1)) b dX11_after_14 (by decide) ?_
  exact z_iret (u := S) b rfl dX11_after_15 ⟨rfl, rfl⟩ rfl (by decide) (by decide)

set_option maxHeartbeats 4000000 in
set_option maxRecDepth 100000 in
theorem c_X12_after_319 {l : Launch} {D : va_G} {cy : Nat → ClassId} {T0 tB tE : Nat} {a : Nat → Nat} (S : GS)  (h_l_0 : fl S 0 = 1649317774848) (h_a_38_5 : ar S 38 5 = 0) (h_a_4_7 : ar S 4 7 = 0) (h_a_1_7 : ar S 1 7 = 0) (h_a_4_6 : ar S 4 6 = 0) (h_a_1_6 : ar S 1 6 = 0) (h_a_3_6 : ar S 3 6 = 0) (h_a_3_2 : ar S 3 2 = 0) (h_a_2_2 : ar S 2 2 = 3) (h_a_0_2 : ar S 0 2 = 0) (h_a_4_3 : ar S 4 3 = 0) (h_a_1_3 : ar S 1 3 = 0) (h_a_4_5 : ar S 4 5 = 0) (h_a_1_5 : ar S 1 5 = 0) (h_a_3_5 : ar S 3 5 = 0) (h_a_3_7 : ar S 3 7 = 0) (h_a_2_1 : ar S 2 1 = 3) (h_a_0_1 : ar S 0 1 = 0) (h_a_4_2 : ar S 4 2 = 0) (h_a_1_2 : ar S 1 2 = 0) (h_a_4_1 : ar S 4 1 = 0) (h_a_1_1 : ar S 1 1 = 0) (h_a_3_1 : ar S 3 1 = 0) (h_a_3_3 : ar S 3 3 = 0) (h_a_2_0 : ar S 2 0 = 3) (h_a_0_0 : ar S 0 0 = 0) (h_i_0 : fi S 0 = 0) : Ct l D cy T0 tB tE yX12_after cX12_after 4 (some .int) 2 47 0 0 (mw cy a S) [.ref (a 0), .int 5, .int 44] (QI D (U := GS) (fun r u => (-1) = r ∧ (si (sl S 2 1649317774848) 24 (-1)) = u) (mw cy a)) := by
  refine Ct.ofZ RX12 "after" [(0, .ref (a 0)), (1, .int 5), (2, .int 44)] rfl rfl rfl rfl (Nat.le_of_ble_eq_true rfl) ?_
  intro p e R s m args below meth c A b
  refine z_iload_n b dX12_after_0 rfl rfl ?_
  refine z_calli b (z_runS (As := [.int 5]) (st := []) b (c_X12_isRow_8 S ) cf_X12_isRow wm_X12_452 ws_X12_isRow dX12_after_1 rfl (Nat.le_of_ble_eq_true rfl) ⟨by decide, by decide, by decide, by decide⟩) (fun r22237 u22238 h22236 => ?_)
  obtain ⟨rfl, rfl⟩ := h22236
  refine z_if_ne_t (tgt := 9) b dX12_after_4 (by decide) (by decide) ?_
  refine z_aload_n b dX12_after_9 rfl rfl ?_
  refine z_iload_n b dX12_after_10 rfl rfl ?_
  refine z_iconst (v := 3) b dX12_after_11 (by decide) ?_
  refine z_iconst (v := 0) b dX12_after_12 (by decide) ?_
  refine z_calli b (z_runV (q0 := 0) (As := [.int 5, .int 3, .int 0]) (st := []) b (c_X12_goes_12 S h_l_0 h_a_38_5) cf_X12_goes (mw_0 cy a S) rfl wm_X12_464 wi_X12_goes ws_X12_goes dX12_after_13 rfl (Nat.le_of_ble_eq_true rfl) ⟨by decide, by decide, by decide, by decide⟩) (fun r22240 u22241 h22239 => ?_)
  obtain ⟨rfl, rfl⟩ := h22239
  refine z_pop b dX12_after_16 rfl ?_
  refine z_aload_n b dX12_after_17 rfl rfl ?_
  refine z_aload_n b dX12_after_18 rfl rfl ?_
  refine z_get (q0 := 0) (k9 := 68) (v := .long 1649317774848) b (mw_0 cy a (si (sl S 2 1649317774848) 24 (-1))) rfl in_X12 (by decide) wf_X12_458 rfl dX12_after_19 ?_
  refine z_callv b (z_runV (q0 := 0) (As := [.long 1649317774848]) (st := []) b (c_X12_takes (si (sl S 2 1649317774848) 24 (-1)) h_a_4_7 h_a_1_7 h_a_4_6 h_a_1_6 h_a_3_6 h_a_3_2 h_a_2_2 h_a_0_2 h_a_4_3 h_a_1_3 h_a_4_5 h_a_1_5 h_a_3_5 h_a_3_7 h_a_2_1 h_a_0_1 h_a_4_2 h_a_1_2 h_a_4_1 h_a_1_1 h_a_3_1 h_a_3_3 h_a_2_0 h_a_0_0 h_i_0) cf_X12_takes (mw_0 cy a (si (sl S 2 1649317774848) 24 (-1))) rfl wm_X12_174 wi_X12_takes ws_X12_takes dX12_after_22 rfl (Nat.le_of_ble_eq_true rfl) ⟨by decide, by decide, by decide, by decide⟩) (fun u22244 h22242 => ?_)
  obtain rfl := h22242
  refine z_iload_n b dX12_after_25 rfl rfl ?_
  refine z_calli b (z_runS (As := [.int 44]) (st := []) b (c_X12_isOne_49 (si (sl S 2 1649317774848) 24 (-1)) ) cf_X12_isOne wm_X12_170 ws_X12_isOne dX12_after_26 rfl (Nat.le_of_ble_eq_true rfl) ⟨by decide, by decide, by decide, by decide⟩) (fun r22246 u22247 h22245 => ?_)
  obtain ⟨rfl, rfl⟩ := h22245
  refine z_if_eq_t (tgt := 39) b dX12_after_29 (by decide) (by decide) ?_
  refine z_iload_n b dX12_after_39 rfl rfl ?_
  refine z_bipush (v := 50) b dX12_after_40 (by decide) ?_
  refine z_icmp_ne_t (tgt := 50) b dX12_after_42 (by decide) (by decide) ?_
  refine z_iload_n b dX12_after_50 rfl rfl ?_
  refine z_bipush (v := 40) b dX12_after_51 (by decide) ?_
  refine z_bipush (v := 42) b dX12_after_53 (by decide) ?_
  refine z_calli b (z_runS (As := [.int 44, .int 40, .int 42]) (st := []) b (c_X12_isIn_189 (si (sl S 2 1649317774848) 24 (-1)) ) cf_X12_isIn wm_X12_1 ws_X12_isIn dX12_after_55 rfl (Nat.le_of_ble_eq_true rfl) ⟨by decide, by decide, by decide, by decide⟩) (fun r22249 u22250 h22248 => ?_)
  obtain ⟨rfl, rfl⟩ := h22248
  refine z_if_eq_t (tgt := 71) b dX12_after_58 (by decide) (by decide) ?_
  refine z_iload_n b dX12_after_71 rfl rfl ?_
  refine z_bipush (v := 10) b dX12_after_72 (by decide) ?_
  refine z_irem (v := 4) b dX12_after_74 (by decide) (by decide) ?_
  refine z_istore_n (lv' := [(3, .int 4), (0, .ref (a 0)), (1, .int 5), (2, .int 44)]) b dX12_after_75 rfl (by decide) rfl ?_
  refine z_iload_n b dX12_after_76 rfl rfl ?_
  refine z_bipush (v := 10) b dX12_after_77 (by decide) ?_
  refine z_bipush (v := 38) b dX12_after_79 (by decide) ?_
  refine z_calli b (z_runS (As := [.int 44, .int 10, .int 38]) (st := []) b (c_X12_isIn_190 (si (sl S 2 1649317774848) 24 (-1)) ) cf_X12_isIn wm_X12_1 ws_X12_isIn dX12_after_81 rfl (Nat.le_of_ble_eq_true rfl) ⟨by decide, by decide, by decide, by decide⟩) (fun r22252 u22253 h22251 => ?_)
  obtain ⟨rfl, rfl⟩ := h22251
  refine z_if_eq_t (tgt := 102) b dX12_after_84 (by decide) (by decide) ?_
  refine z_iconst (v := (-1)) b dX12_after_102 (by decide) ?_
  exact z_iret (u := (si (sl S 2 1649317774848) 24 (-1))) b rfl dX12_after_103 ⟨rfl, rfl⟩ rfl (by decide) (by decide)

set_option maxHeartbeats 4000000 in
set_option maxRecDepth 100000 in
theorem c_X11_after_320 {l : Launch} {D : va_G} {cy : Nat → ClassId} {T0 tB tE : Nat} {a : Nat → Nat} {rw : Nat → Option Nat} (S : GS)   : Ct l D cy T0 tB tE yX11_after cX11_after 3 (some .int) 2 41 0 0 (cw cy tE a rw S) [.ref (a 0), .int 5, .int 45] (QI D (U := GS) (fun r u => (-1) = r ∧ S = u) (cw cy tE a rw)) := by
  refine Ct.ofZ RX11 "after" [(0, .ref (a 0)), (1, .int 5), (2, .int 45)] rfl rfl rfl rfl (Nat.le_of_ble_eq_true rfl) ?_
  intro p e R s m args below meth c A b
  refine z_iload_n b dX11_after_0 rfl rfl ?_
  refine z_calli b (z_runS (As := [.int 5]) (st := []) b (c_X11_isRow_8 S ) cf_X11_isRow wm_X11_169 ws_X11_isRow dX11_after_1 rfl (Nat.le_of_ble_eq_true rfl) ⟨by decide, by decide, by decide, by decide⟩) (fun r22255 u22256 h22254 => ?_)
  obtain ⟨rfl, rfl⟩ := h22254
  refine z_if_eq_f (tgt := 14) b dX11_after_4 (by decide) (by decide) ?_
  refine z_iload_n b dX11_after_7 rfl rfl ?_
  refine z_calli b (z_runS (As := [.int 45]) (st := []) b (c_X9_has_48 S ) cf_X9_has wm_X11_191 ws_X9_has dX11_after_8 rfl (Nat.le_of_ble_eq_true rfl) ⟨by decide, by decide, by decide, by decide⟩) (fun r22258 u22259 h22257 => ?_)
  obtain ⟨rfl, rfl⟩ := h22257
  refine z_if_ne_f (tgt := 16) b dX11_after_11 (by decide) (by decide) ?_
  refine z_iconst (v := (-1)) b dX11_after_14 (by decide) ?_
  exact z_iret (u := S) b rfl dX11_after_15 ⟨rfl, rfl⟩ rfl (by decide) (by decide)

set_option maxHeartbeats 4000000 in
set_option maxRecDepth 100000 in
theorem c_X12_after_320 {l : Launch} {D : va_G} {cy : Nat → ClassId} {T0 tB tE : Nat} {a : Nat → Nat} (S : GS)  (h_l_0 : fl S 0 = 1649317774848) (h_a_38_5 : ar S 38 5 = 0) (h_a_4_7 : ar S 4 7 = 0) (h_a_1_7 : ar S 1 7 = 0) (h_a_4_6 : ar S 4 6 = 0) (h_a_1_6 : ar S 1 6 = 0) (h_a_3_6 : ar S 3 6 = 0) (h_a_3_2 : ar S 3 2 = 0) (h_a_2_2 : ar S 2 2 = 3) (h_a_0_2 : ar S 0 2 = 0) (h_a_4_3 : ar S 4 3 = 0) (h_a_1_3 : ar S 1 3 = 0) (h_a_4_5 : ar S 4 5 = 0) (h_a_1_5 : ar S 1 5 = 0) (h_a_3_5 : ar S 3 5 = 0) (h_a_3_7 : ar S 3 7 = 0) (h_a_2_1 : ar S 2 1 = 3) (h_a_0_1 : ar S 0 1 = 0) (h_a_4_2 : ar S 4 2 = 0) (h_a_1_2 : ar S 1 2 = 0) (h_a_4_1 : ar S 4 1 = 0) (h_a_1_1 : ar S 1 1 = 0) (h_a_3_1 : ar S 3 1 = 0) (h_a_3_3 : ar S 3 3 = 0) (h_a_2_0 : ar S 2 0 = 3) (h_a_0_0 : ar S 0 0 = 0) (h_i_0 : fi S 0 = 0) : Ct l D cy T0 tB tE yX12_after cX12_after 4 (some .int) 2 47 0 0 (mw cy a S) [.ref (a 0), .int 5, .int 45] (QI D (U := GS) (fun r u => (-1) = r ∧ (si (sl S 2 1649317774848) 24 (-1)) = u) (mw cy a)) := by
  refine Ct.ofZ RX12 "after" [(0, .ref (a 0)), (1, .int 5), (2, .int 45)] rfl rfl rfl rfl (Nat.le_of_ble_eq_true rfl) ?_
  intro p e R s m args below meth c A b
  refine z_iload_n b dX12_after_0 rfl rfl ?_
  refine z_calli b (z_runS (As := [.int 5]) (st := []) b (c_X12_isRow_8 S ) cf_X12_isRow wm_X12_452 ws_X12_isRow dX12_after_1 rfl (Nat.le_of_ble_eq_true rfl) ⟨by decide, by decide, by decide, by decide⟩) (fun r22261 u22262 h22260 => ?_)
  obtain ⟨rfl, rfl⟩ := h22260
  refine z_if_ne_t (tgt := 9) b dX12_after_4 (by decide) (by decide) ?_
  refine z_aload_n b dX12_after_9 rfl rfl ?_
  refine z_iload_n b dX12_after_10 rfl rfl ?_
  refine z_iconst (v := 3) b dX12_after_11 (by decide) ?_
  refine z_iconst (v := 0) b dX12_after_12 (by decide) ?_
  refine z_calli b (z_runV (q0 := 0) (As := [.int 5, .int 3, .int 0]) (st := []) b (c_X12_goes_12 S h_l_0 h_a_38_5) cf_X12_goes (mw_0 cy a S) rfl wm_X12_464 wi_X12_goes ws_X12_goes dX12_after_13 rfl (Nat.le_of_ble_eq_true rfl) ⟨by decide, by decide, by decide, by decide⟩) (fun r22264 u22265 h22263 => ?_)
  obtain ⟨rfl, rfl⟩ := h22263
  refine z_pop b dX12_after_16 rfl ?_
  refine z_aload_n b dX12_after_17 rfl rfl ?_
  refine z_aload_n b dX12_after_18 rfl rfl ?_
  refine z_get (q0 := 0) (k9 := 68) (v := .long 1649317774848) b (mw_0 cy a (si (sl S 2 1649317774848) 24 (-1))) rfl in_X12 (by decide) wf_X12_458 rfl dX12_after_19 ?_
  refine z_callv b (z_runV (q0 := 0) (As := [.long 1649317774848]) (st := []) b (c_X12_takes (si (sl S 2 1649317774848) 24 (-1)) h_a_4_7 h_a_1_7 h_a_4_6 h_a_1_6 h_a_3_6 h_a_3_2 h_a_2_2 h_a_0_2 h_a_4_3 h_a_1_3 h_a_4_5 h_a_1_5 h_a_3_5 h_a_3_7 h_a_2_1 h_a_0_1 h_a_4_2 h_a_1_2 h_a_4_1 h_a_1_1 h_a_3_1 h_a_3_3 h_a_2_0 h_a_0_0 h_i_0) cf_X12_takes (mw_0 cy a (si (sl S 2 1649317774848) 24 (-1))) rfl wm_X12_174 wi_X12_takes ws_X12_takes dX12_after_22 rfl (Nat.le_of_ble_eq_true rfl) ⟨by decide, by decide, by decide, by decide⟩) (fun u22268 h22266 => ?_)
  obtain rfl := h22266
  refine z_iload_n b dX12_after_25 rfl rfl ?_
  refine z_calli b (z_runS (As := [.int 45]) (st := []) b (c_X12_isOne_50 (si (sl S 2 1649317774848) 24 (-1)) ) cf_X12_isOne wm_X12_170 ws_X12_isOne dX12_after_26 rfl (Nat.le_of_ble_eq_true rfl) ⟨by decide, by decide, by decide, by decide⟩) (fun r22270 u22271 h22269 => ?_)
  obtain ⟨rfl, rfl⟩ := h22269
  refine z_if_eq_t (tgt := 39) b dX12_after_29 (by decide) (by decide) ?_
  refine z_iload_n b dX12_after_39 rfl rfl ?_
  refine z_bipush (v := 50) b dX12_after_40 (by decide) ?_
  refine z_icmp_ne_t (tgt := 50) b dX12_after_42 (by decide) (by decide) ?_
  refine z_iload_n b dX12_after_50 rfl rfl ?_
  refine z_bipush (v := 40) b dX12_after_51 (by decide) ?_
  refine z_bipush (v := 42) b dX12_after_53 (by decide) ?_
  refine z_calli b (z_runS (As := [.int 45, .int 40, .int 42]) (st := []) b (c_X12_isIn_192 (si (sl S 2 1649317774848) 24 (-1)) ) cf_X12_isIn wm_X12_1 ws_X12_isIn dX12_after_55 rfl (Nat.le_of_ble_eq_true rfl) ⟨by decide, by decide, by decide, by decide⟩) (fun r22273 u22274 h22272 => ?_)
  obtain ⟨rfl, rfl⟩ := h22272
  refine z_if_eq_t (tgt := 71) b dX12_after_58 (by decide) (by decide) ?_
  refine z_iload_n b dX12_after_71 rfl rfl ?_
  refine z_bipush (v := 10) b dX12_after_72 (by decide) ?_
  refine z_irem (v := 5) b dX12_after_74 (by decide) (by decide) ?_
  refine z_istore_n (lv' := [(3, .int 5), (0, .ref (a 0)), (1, .int 5), (2, .int 45)]) b dX12_after_75 rfl (by decide) rfl ?_
  refine z_iload_n b dX12_after_76 rfl rfl ?_
  refine z_bipush (v := 10) b dX12_after_77 (by decide) ?_
  refine z_bipush (v := 38) b dX12_after_79 (by decide) ?_
  refine z_calli b (z_runS (As := [.int 45, .int 10, .int 38]) (st := []) b (c_X12_isIn_193 (si (sl S 2 1649317774848) 24 (-1)) ) cf_X12_isIn wm_X12_1 ws_X12_isIn dX12_after_81 rfl (Nat.le_of_ble_eq_true rfl) ⟨by decide, by decide, by decide, by decide⟩) (fun r22276 u22277 h22275 => ?_)
  obtain ⟨rfl, rfl⟩ := h22275
  refine z_if_eq_t (tgt := 102) b dX12_after_84 (by decide) (by decide) ?_
  refine z_iconst (v := (-1)) b dX12_after_102 (by decide) ?_
  exact z_iret (u := (si (sl S 2 1649317774848) 24 (-1))) b rfl dX12_after_103 ⟨rfl, rfl⟩ rfl (by decide) (by decide)

set_option maxHeartbeats 4000000 in
set_option maxRecDepth 100000 in
theorem c_X11_after_321 {l : Launch} {D : va_G} {cy : Nat → ClassId} {T0 tB tE : Nat} {a : Nat → Nat} {rw : Nat → Option Nat} (S : GS)   : Ct l D cy T0 tB tE yX11_after cX11_after 3 (some .int) 2 41 0 0 (cw cy tE a rw S) [.ref (a 0), .int 5, .int 46] (QI D (U := GS) (fun r u => (-1) = r ∧ S = u) (cw cy tE a rw)) := by
  refine Ct.ofZ RX11 "after" [(0, .ref (a 0)), (1, .int 5), (2, .int 46)] rfl rfl rfl rfl (Nat.le_of_ble_eq_true rfl) ?_
  intro p e R s m args below meth c A b
  refine z_iload_n b dX11_after_0 rfl rfl ?_
  refine z_calli b (z_runS (As := [.int 5]) (st := []) b (c_X11_isRow_8 S ) cf_X11_isRow wm_X11_169 ws_X11_isRow dX11_after_1 rfl (Nat.le_of_ble_eq_true rfl) ⟨by decide, by decide, by decide, by decide⟩) (fun r22279 u22280 h22278 => ?_)
  obtain ⟨rfl, rfl⟩ := h22278
  refine z_if_eq_f (tgt := 14) b dX11_after_4 (by decide) (by decide) ?_
  refine z_iload_n b dX11_after_7 rfl rfl ?_
  refine z_calli b (z_runS (As := [.int 46]) (st := []) b (c_X9_has_49 S ) cf_X9_has wm_X11_191 ws_X9_has dX11_after_8 rfl (Nat.le_of_ble_eq_true rfl) ⟨by decide, by decide, by decide, by decide⟩) (fun r22282 u22283 h22281 => ?_)
  obtain ⟨rfl, rfl⟩ := h22281
  refine z_if_ne_f (tgt := 16) b dX11_after_11 (by decide) (by decide) ?_
  refine z_iconst (v := (-1)) b dX11_after_14 (by decide) ?_
  exact z_iret (u := S) b rfl dX11_after_15 ⟨rfl, rfl⟩ rfl (by decide) (by decide)

set_option maxHeartbeats 4000000 in
set_option maxRecDepth 100000 in
theorem c_X12_after_321 {l : Launch} {D : va_G} {cy : Nat → ClassId} {T0 tB tE : Nat} {a : Nat → Nat} (S : GS)  (h_l_0 : fl S 0 = 1649317774848) (h_a_38_5 : ar S 38 5 = 0) (h_a_4_7 : ar S 4 7 = 0) (h_a_1_7 : ar S 1 7 = 0) (h_a_4_6 : ar S 4 6 = 0) (h_a_1_6 : ar S 1 6 = 0) (h_a_3_6 : ar S 3 6 = 0) (h_a_3_2 : ar S 3 2 = 0) (h_a_2_2 : ar S 2 2 = 3) (h_a_0_2 : ar S 0 2 = 0) (h_a_4_3 : ar S 4 3 = 0) (h_a_1_3 : ar S 1 3 = 0) (h_a_4_5 : ar S 4 5 = 0) (h_a_1_5 : ar S 1 5 = 0) (h_a_3_5 : ar S 3 5 = 0) (h_a_3_7 : ar S 3 7 = 0) (h_a_2_1 : ar S 2 1 = 3) (h_a_0_1 : ar S 0 1 = 0) (h_a_4_2 : ar S 4 2 = 0) (h_a_1_2 : ar S 1 2 = 0) (h_a_4_1 : ar S 4 1 = 0) (h_a_1_1 : ar S 1 1 = 0) (h_a_3_1 : ar S 3 1 = 0) (h_a_3_3 : ar S 3 3 = 0) (h_a_2_0 : ar S 2 0 = 3) (h_a_0_0 : ar S 0 0 = 0) (h_i_0 : fi S 0 = 0) : Ct l D cy T0 tB tE yX12_after cX12_after 4 (some .int) 2 47 0 0 (mw cy a S) [.ref (a 0), .int 5, .int 46] (QI D (U := GS) (fun r u => (-1) = r ∧ (si (sl S 2 1649317774848) 24 (-1)) = u) (mw cy a)) := by
  refine Ct.ofZ RX12 "after" [(0, .ref (a 0)), (1, .int 5), (2, .int 46)] rfl rfl rfl rfl (Nat.le_of_ble_eq_true rfl) ?_
  intro p e R s m args below meth c A b
  refine z_iload_n b dX12_after_0 rfl rfl ?_
  refine z_calli b (z_runS (As := [.int 5]) (st := []) b (c_X12_isRow_8 S ) cf_X12_isRow wm_X12_452 ws_X12_isRow dX12_after_1 rfl (Nat.le_of_ble_eq_true rfl) ⟨by decide, by decide, by decide, by decide⟩) (fun r22285 u22286 h22284 => ?_)
  obtain ⟨rfl, rfl⟩ := h22284
  refine z_if_ne_t (tgt := 9) b dX12_after_4 (by decide) (by decide) ?_
  refine z_aload_n b dX12_after_9 rfl rfl ?_
  refine z_iload_n b dX12_after_10 rfl rfl ?_
  refine z_iconst (v := 3) b dX12_after_11 (by decide) ?_
  refine z_iconst (v := 0) b dX12_after_12 (by decide) ?_
  refine z_calli b (z_runV (q0 := 0) (As := [.int 5, .int 3, .int 0]) (st := []) b (c_X12_goes_12 S h_l_0 h_a_38_5) cf_X12_goes (mw_0 cy a S) rfl wm_X12_464 wi_X12_goes ws_X12_goes dX12_after_13 rfl (Nat.le_of_ble_eq_true rfl) ⟨by decide, by decide, by decide, by decide⟩) (fun r22288 u22289 h22287 => ?_)
  obtain ⟨rfl, rfl⟩ := h22287
  refine z_pop b dX12_after_16 rfl ?_
  refine z_aload_n b dX12_after_17 rfl rfl ?_
  refine z_aload_n b dX12_after_18 rfl rfl ?_
  refine z_get (q0 := 0) (k9 := 68) (v := .long 1649317774848) b (mw_0 cy a (si (sl S 2 1649317774848) 24 (-1))) rfl in_X12 (by decide) wf_X12_458 rfl dX12_after_19 ?_
  refine z_callv b (z_runV (q0 := 0) (As := [.long 1649317774848]) (st := []) b (c_X12_takes (si (sl S 2 1649317774848) 24 (-1)) h_a_4_7 h_a_1_7 h_a_4_6 h_a_1_6 h_a_3_6 h_a_3_2 h_a_2_2 h_a_0_2 h_a_4_3 h_a_1_3 h_a_4_5 h_a_1_5 h_a_3_5 h_a_3_7 h_a_2_1 h_a_0_1 h_a_4_2 h_a_1_2 h_a_4_1 h_a_1_1 h_a_3_1 h_a_3_3 h_a_2_0 h_a_0_0 h_i_0) cf_X12_takes (mw_0 cy a (si (sl S 2 1649317774848) 24 (-1))) rfl wm_X12_174 wi_X12_takes ws_X12_takes dX12_after_22 rfl (Nat.le_of_ble_eq_true rfl) ⟨by decide, by decide, by decide, by decide⟩) (fun u22292 h22290 => ?_)
  obtain rfl := h22290
  refine z_iload_n b dX12_after_25 rfl rfl ?_
  refine z_calli b (z_runS (As := [.int 46]) (st := []) b (c_X12_isOne_51 (si (sl S 2 1649317774848) 24 (-1)) ) cf_X12_isOne wm_X12_170 ws_X12_isOne dX12_after_26 rfl (Nat.le_of_ble_eq_true rfl) ⟨by decide, by decide, by decide, by decide⟩) (fun r22294 u22295 h22293 => ?_)
  obtain ⟨rfl, rfl⟩ := h22293
  refine z_if_eq_t (tgt := 39) b dX12_after_29 (by decide) (by decide) ?_
  refine z_iload_n b dX12_after_39 rfl rfl ?_
  refine z_bipush (v := 50) b dX12_after_40 (by decide) ?_
  refine z_icmp_ne_t (tgt := 50) b dX12_after_42 (by decide) (by decide) ?_
  refine z_iload_n b dX12_after_50 rfl rfl ?_
  refine z_bipush (v := 40) b dX12_after_51 (by decide) ?_
  refine z_bipush (v := 42) b dX12_after_53 (by decide) ?_
  refine z_calli b (z_runS (As := [.int 46, .int 40, .int 42]) (st := []) b (c_X12_isIn_195 (si (sl S 2 1649317774848) 24 (-1)) ) cf_X12_isIn wm_X12_1 ws_X12_isIn dX12_after_55 rfl (Nat.le_of_ble_eq_true rfl) ⟨by decide, by decide, by decide, by decide⟩) (fun r22297 u22298 h22296 => ?_)
  obtain ⟨rfl, rfl⟩ := h22296
  refine z_if_eq_t (tgt := 71) b dX12_after_58 (by decide) (by decide) ?_
  refine z_iload_n b dX12_after_71 rfl rfl ?_
  refine z_bipush (v := 10) b dX12_after_72 (by decide) ?_
  refine z_irem (v := 6) b dX12_after_74 (by decide) (by decide) ?_
  refine z_istore_n (lv' := [(3, .int 6), (0, .ref (a 0)), (1, .int 5), (2, .int 46)]) b dX12_after_75 rfl (by decide) rfl ?_
  refine z_iload_n b dX12_after_76 rfl rfl ?_
  refine z_bipush (v := 10) b dX12_after_77 (by decide) ?_
  refine z_bipush (v := 38) b dX12_after_79 (by decide) ?_
  refine z_calli b (z_runS (As := [.int 46, .int 10, .int 38]) (st := []) b (c_X12_isIn_196 (si (sl S 2 1649317774848) 24 (-1)) ) cf_X12_isIn wm_X12_1 ws_X12_isIn dX12_after_81 rfl (Nat.le_of_ble_eq_true rfl) ⟨by decide, by decide, by decide, by decide⟩) (fun r22300 u22301 h22299 => ?_)
  obtain ⟨rfl, rfl⟩ := h22299
  refine z_if_eq_t (tgt := 102) b dX12_after_84 (by decide) (by decide) ?_
  refine z_iconst (v := (-1)) b dX12_after_102 (by decide) ?_
  exact z_iret (u := (si (sl S 2 1649317774848) 24 (-1))) b rfl dX12_after_103 ⟨rfl, rfl⟩ rfl (by decide) (by decide)

set_option maxHeartbeats 4000000 in
set_option maxRecDepth 100000 in
theorem c_X11_after_322 {l : Launch} {D : va_G} {cy : Nat → ClassId} {T0 tB tE : Nat} {a : Nat → Nat} {rw : Nat → Option Nat} (S : GS)   : Ct l D cy T0 tB tE yX11_after cX11_after 3 (some .int) 2 41 0 0 (cw cy tE a rw S) [.ref (a 0), .int 5, .int 47] (QI D (U := GS) (fun r u => (-1) = r ∧ S = u) (cw cy tE a rw)) := by
  refine Ct.ofZ RX11 "after" [(0, .ref (a 0)), (1, .int 5), (2, .int 47)] rfl rfl rfl rfl (Nat.le_of_ble_eq_true rfl) ?_
  intro p e R s m args below meth c A b
  refine z_iload_n b dX11_after_0 rfl rfl ?_
  refine z_calli b (z_runS (As := [.int 5]) (st := []) b (c_X11_isRow_8 S ) cf_X11_isRow wm_X11_169 ws_X11_isRow dX11_after_1 rfl (Nat.le_of_ble_eq_true rfl) ⟨by decide, by decide, by decide, by decide⟩) (fun r22303 u22304 h22302 => ?_)
  obtain ⟨rfl, rfl⟩ := h22302
  refine z_if_eq_f (tgt := 14) b dX11_after_4 (by decide) (by decide) ?_
  refine z_iload_n b dX11_after_7 rfl rfl ?_
  refine z_calli b (z_runS (As := [.int 47]) (st := []) b (c_X9_has_50 S ) cf_X9_has wm_X11_191 ws_X9_has dX11_after_8 rfl (Nat.le_of_ble_eq_true rfl) ⟨by decide, by decide, by decide, by decide⟩) (fun r22306 u22307 h22305 => ?_)
  obtain ⟨rfl, rfl⟩ := h22305
  refine z_if_ne_f (tgt := 16) b dX11_after_11 (by decide) (by decide) ?_
  refine z_iconst (v := (-1)) b dX11_after_14 (by decide) ?_
  exact z_iret (u := S) b rfl dX11_after_15 ⟨rfl, rfl⟩ rfl (by decide) (by decide)

set_option maxHeartbeats 4000000 in
set_option maxRecDepth 100000 in
theorem c_X12_after_322 {l : Launch} {D : va_G} {cy : Nat → ClassId} {T0 tB tE : Nat} {a : Nat → Nat} (S : GS)  (h_l_0 : fl S 0 = 1649317774848) (h_a_38_5 : ar S 38 5 = 0) (h_a_4_7 : ar S 4 7 = 0) (h_a_1_7 : ar S 1 7 = 0) (h_a_4_6 : ar S 4 6 = 0) (h_a_1_6 : ar S 1 6 = 0) (h_a_3_6 : ar S 3 6 = 0) (h_a_3_2 : ar S 3 2 = 0) (h_a_2_2 : ar S 2 2 = 3) (h_a_0_2 : ar S 0 2 = 0) (h_a_4_3 : ar S 4 3 = 0) (h_a_1_3 : ar S 1 3 = 0) (h_a_4_5 : ar S 4 5 = 0) (h_a_1_5 : ar S 1 5 = 0) (h_a_3_5 : ar S 3 5 = 0) (h_a_3_7 : ar S 3 7 = 0) (h_a_2_1 : ar S 2 1 = 3) (h_a_0_1 : ar S 0 1 = 0) (h_a_4_2 : ar S 4 2 = 0) (h_a_1_2 : ar S 1 2 = 0) (h_a_4_1 : ar S 4 1 = 0) (h_a_1_1 : ar S 1 1 = 0) (h_a_3_1 : ar S 3 1 = 0) (h_a_3_3 : ar S 3 3 = 0) (h_a_2_0 : ar S 2 0 = 3) (h_a_0_0 : ar S 0 0 = 0) (h_i_0 : fi S 0 = 0) : Ct l D cy T0 tB tE yX12_after cX12_after 4 (some .int) 2 47 0 0 (mw cy a S) [.ref (a 0), .int 5, .int 47] (QI D (U := GS) (fun r u => (-1) = r ∧ (si (sl S 2 1649317774848) 24 (-1)) = u) (mw cy a)) := by
  refine Ct.ofZ RX12 "after" [(0, .ref (a 0)), (1, .int 5), (2, .int 47)] rfl rfl rfl rfl (Nat.le_of_ble_eq_true rfl) ?_
  intro p e R s m args below meth c A b
  refine z_iload_n b dX12_after_0 rfl rfl ?_
  refine z_calli b (z_runS (As := [.int 5]) (st := []) b (c_X12_isRow_8 S ) cf_X12_isRow wm_X12_452 ws_X12_isRow dX12_after_1 rfl (Nat.le_of_ble_eq_true rfl) ⟨by decide, by decide, by decide, by decide⟩) (fun r22309 u22310 h22308 => ?_)
  obtain ⟨rfl, rfl⟩ := h22308
  refine z_if_ne_t (tgt := 9) b dX12_after_4 (by decide) (by decide) ?_
  refine z_aload_n b dX12_after_9 rfl rfl ?_
  refine z_iload_n b dX12_after_10 rfl rfl ?_
  refine z_iconst (v := 3) b dX12_after_11 (by decide) ?_
  refine z_iconst (v := 0) b dX12_after_12 (by decide) ?_
  refine z_calli b (z_runV (q0 := 0) (As := [.int 5, .int 3, .int 0]) (st := []) b (c_X12_goes_12 S h_l_0 h_a_38_5) cf_X12_goes (mw_0 cy a S) rfl wm_X12_464 wi_X12_goes ws_X12_goes dX12_after_13 rfl (Nat.le_of_ble_eq_true rfl) ⟨by decide, by decide, by decide, by decide⟩) (fun r22312 u22313 h22311 => ?_)
  obtain ⟨rfl, rfl⟩ := h22311
  refine z_pop b dX12_after_16 rfl ?_
  refine z_aload_n b dX12_after_17 rfl rfl ?_
  refine z_aload_n b dX12_after_18 rfl rfl ?_
  refine z_get (q0 := 0) (k9 := 68) (v := .long 1649317774848) b (mw_0 cy a (si (sl S 2 1649317774848) 24 (-1))) rfl in_X12 (by decide) wf_X12_458 rfl dX12_after_19 ?_
  refine z_callv b (z_runV (q0 := 0) (As := [.long 1649317774848]) (st := []) b (c_X12_takes (si (sl S 2 1649317774848) 24 (-1)) h_a_4_7 h_a_1_7 h_a_4_6 h_a_1_6 h_a_3_6 h_a_3_2 h_a_2_2 h_a_0_2 h_a_4_3 h_a_1_3 h_a_4_5 h_a_1_5 h_a_3_5 h_a_3_7 h_a_2_1 h_a_0_1 h_a_4_2 h_a_1_2 h_a_4_1 h_a_1_1 h_a_3_1 h_a_3_3 h_a_2_0 h_a_0_0 h_i_0) cf_X12_takes (mw_0 cy a (si (sl S 2 1649317774848) 24 (-1))) rfl wm_X12_174 wi_X12_takes ws_X12_takes dX12_after_22 rfl (Nat.le_of_ble_eq_true rfl) ⟨by decide, by decide, by decide, by decide⟩) (fun u22316 h22314 => ?_)
  obtain rfl := h22314
  refine z_iload_n b dX12_after_25 rfl rfl ?_
  refine z_calli b (z_runS (As := [.int 47]) (st := []) b (c_X12_isOne_52 (si (sl S 2 1649317774848) 24 (-1)) ) cf_X12_isOne wm_X12_170 ws_X12_isOne dX12_after_26 rfl (Nat.le_of_ble_eq_true rfl) ⟨by decide, by decide, by decide, by decide⟩) (fun r22318 u22319 h22317 => ?_)
  obtain ⟨rfl, rfl⟩ := h22317
  refine z_if_eq_t (tgt := 39) b dX12_after_29 (by decide) (by decide) ?_
  refine z_iload_n b dX12_after_39 rfl rfl ?_
  refine z_bipush (v := 50) b dX12_after_40 (by decide) ?_
  refine z_icmp_ne_t (tgt := 50) b dX12_after_42 (by decide) (by decide) ?_
  refine z_iload_n b dX12_after_50 rfl rfl ?_
  refine z_bipush (v := 40) b dX12_after_51 (by decide) ?_
  refine z_bipush (v := 42) b dX12_after_53 (by decide) ?_
  refine z_calli b (z_runS (As := [.int 47, .int 40, .int 42]) (st := []) b (c_X12_isIn_198 (si (sl S 2 1649317774848) 24 (-1)) ) cf_X12_isIn wm_X12_1 ws_X12_isIn dX12_after_55 rfl (Nat.le_of_ble_eq_true rfl) ⟨by decide, by decide, by decide, by decide⟩) (fun r22321 u22322 h22320 => ?_)
  obtain ⟨rfl, rfl⟩ := h22320
  refine z_if_eq_t (tgt := 71) b dX12_after_58 (by decide) (by decide) ?_
  refine z_iload_n b dX12_after_71 rfl rfl ?_
  refine z_bipush (v := 10) b dX12_after_72 (by decide) ?_
  refine z_irem (v := 7) b dX12_after_74 (by decide) (by decide) ?_
  refine z_istore_n (lv' := [(3, .int 7), (0, .ref (a 0)), (1, .int 5), (2, .int 47)]) b dX12_after_75 rfl (by decide) rfl ?_
  refine z_iload_n b dX12_after_76 rfl rfl ?_
  refine z_bipush (v := 10) b dX12_after_77 (by decide) ?_
  refine z_bipush (v := 38) b dX12_after_79 (by decide) ?_
  refine z_calli b (z_runS (As := [.int 47, .int 10, .int 38]) (st := []) b (c_X12_isIn_199 (si (sl S 2 1649317774848) 24 (-1)) ) cf_X12_isIn wm_X12_1 ws_X12_isIn dX12_after_81 rfl (Nat.le_of_ble_eq_true rfl) ⟨by decide, by decide, by decide, by decide⟩) (fun r22324 u22325 h22323 => ?_)
  obtain ⟨rfl, rfl⟩ := h22323
  refine z_if_eq_t (tgt := 102) b dX12_after_84 (by decide) (by decide) ?_
  refine z_iconst (v := (-1)) b dX12_after_102 (by decide) ?_
  exact z_iret (u := (si (sl S 2 1649317774848) 24 (-1))) b rfl dX12_after_103 ⟨rfl, rfl⟩ rfl (by decide) (by decide)

set_option maxHeartbeats 4000000 in
set_option maxRecDepth 100000 in
theorem c_X11_after_323 {l : Launch} {D : va_G} {cy : Nat → ClassId} {T0 tB tE : Nat} {a : Nat → Nat} {rw : Nat → Option Nat} (S : GS)   : Ct l D cy T0 tB tE yX11_after cX11_after 3 (some .int) 2 41 0 0 (cw cy tE a rw S) [.ref (a 0), .int 5, .int 48] (QI D (U := GS) (fun r u => (-1) = r ∧ S = u) (cw cy tE a rw)) := by
  refine Ct.ofZ RX11 "after" [(0, .ref (a 0)), (1, .int 5), (2, .int 48)] rfl rfl rfl rfl (Nat.le_of_ble_eq_true rfl) ?_
  intro p e R s m args below meth c A b
  refine z_iload_n b dX11_after_0 rfl rfl ?_
  refine z_calli b (z_runS (As := [.int 5]) (st := []) b (c_X11_isRow_8 S ) cf_X11_isRow wm_X11_169 ws_X11_isRow dX11_after_1 rfl (Nat.le_of_ble_eq_true rfl) ⟨by decide, by decide, by decide, by decide⟩) (fun r22327 u22328 h22326 => ?_)
  obtain ⟨rfl, rfl⟩ := h22326
  refine z_if_eq_f (tgt := 14) b dX11_after_4 (by decide) (by decide) ?_
  refine z_iload_n b dX11_after_7 rfl rfl ?_
  refine z_calli b (z_runS (As := [.int 48]) (st := []) b (c_X9_has_51 S ) cf_X9_has wm_X11_191 ws_X9_has dX11_after_8 rfl (Nat.le_of_ble_eq_true rfl) ⟨by decide, by decide, by decide, by decide⟩) (fun r22330 u22331 h22329 => ?_)
  obtain ⟨rfl, rfl⟩ := h22329
  refine z_if_ne_f (tgt := 16) b dX11_after_11 (by decide) (by decide) ?_
  refine z_iconst (v := (-1)) b dX11_after_14 (by decide) ?_
  exact z_iret (u := S) b rfl dX11_after_15 ⟨rfl, rfl⟩ rfl (by decide) (by decide)

set_option maxHeartbeats 4000000 in
set_option maxRecDepth 100000 in
theorem c_X12_after_323 {l : Launch} {D : va_G} {cy : Nat → ClassId} {T0 tB tE : Nat} {a : Nat → Nat} (S : GS)  (h_l_0 : fl S 0 = 1649317774848) (h_a_38_5 : ar S 38 5 = 0) (h_a_4_7 : ar S 4 7 = 0) (h_a_1_7 : ar S 1 7 = 0) (h_a_4_6 : ar S 4 6 = 0) (h_a_1_6 : ar S 1 6 = 0) (h_a_3_6 : ar S 3 6 = 0) (h_a_3_2 : ar S 3 2 = 0) (h_a_2_2 : ar S 2 2 = 3) (h_a_0_2 : ar S 0 2 = 0) (h_a_4_3 : ar S 4 3 = 0) (h_a_1_3 : ar S 1 3 = 0) (h_a_4_5 : ar S 4 5 = 0) (h_a_1_5 : ar S 1 5 = 0) (h_a_3_5 : ar S 3 5 = 0) (h_a_3_7 : ar S 3 7 = 0) (h_a_2_1 : ar S 2 1 = 3) (h_a_0_1 : ar S 0 1 = 0) (h_a_4_2 : ar S 4 2 = 0) (h_a_1_2 : ar S 1 2 = 0) (h_a_4_1 : ar S 4 1 = 0) (h_a_1_1 : ar S 1 1 = 0) (h_a_3_1 : ar S 3 1 = 0) (h_a_3_3 : ar S 3 3 = 0) (h_a_2_0 : ar S 2 0 = 3) (h_a_0_0 : ar S 0 0 = 0) (h_i_0 : fi S 0 = 0) : Ct l D cy T0 tB tE yX12_after cX12_after 4 (some .int) 2 47 0 0 (mw cy a S) [.ref (a 0), .int 5, .int 48] (QI D (U := GS) (fun r u => (-1) = r ∧ (si (sl S 2 1649317774848) 24 (-1)) = u) (mw cy a)) := by
  refine Ct.ofZ RX12 "after" [(0, .ref (a 0)), (1, .int 5), (2, .int 48)] rfl rfl rfl rfl (Nat.le_of_ble_eq_true rfl) ?_
  intro p e R s m args below meth c A b
  refine z_iload_n b dX12_after_0 rfl rfl ?_
  refine z_calli b (z_runS (As := [.int 5]) (st := []) b (c_X12_isRow_8 S ) cf_X12_isRow wm_X12_452 ws_X12_isRow dX12_after_1 rfl (Nat.le_of_ble_eq_true rfl) ⟨by decide, by decide, by decide, by decide⟩) (fun r22333 u22334 h22332 => ?_)
  obtain ⟨rfl, rfl⟩ := h22332
  refine z_if_ne_t (tgt := 9) b dX12_after_4 (by decide) (by decide) ?_
  refine z_aload_n b dX12_after_9 rfl rfl ?_
  refine z_iload_n b dX12_after_10 rfl rfl ?_
  refine z_iconst (v := 3) b dX12_after_11 (by decide) ?_
  refine z_iconst (v := 0) b dX12_after_12 (by decide) ?_
  refine z_calli b (z_runV (q0 := 0) (As := [.int 5, .int 3, .int 0]) (st := []) b (c_X12_goes_12 S h_l_0 h_a_38_5) cf_X12_goes (mw_0 cy a S) rfl wm_X12_464 wi_X12_goes ws_X12_goes dX12_after_13 rfl (Nat.le_of_ble_eq_true rfl) ⟨by decide, by decide, by decide, by decide⟩) (fun r22336 u22337 h22335 => ?_)
  obtain ⟨rfl, rfl⟩ := h22335
  refine z_pop b dX12_after_16 rfl ?_
  refine z_aload_n b dX12_after_17 rfl rfl ?_
  refine z_aload_n b dX12_after_18 rfl rfl ?_
  refine z_get (q0 := 0) (k9 := 68) (v := .long 1649317774848) b (mw_0 cy a (si (sl S 2 1649317774848) 24 (-1))) rfl in_X12 (by decide) wf_X12_458 rfl dX12_after_19 ?_
  refine z_callv b (z_runV (q0 := 0) (As := [.long 1649317774848]) (st := []) b (c_X12_takes (si (sl S 2 1649317774848) 24 (-1)) h_a_4_7 h_a_1_7 h_a_4_6 h_a_1_6 h_a_3_6 h_a_3_2 h_a_2_2 h_a_0_2 h_a_4_3 h_a_1_3 h_a_4_5 h_a_1_5 h_a_3_5 h_a_3_7 h_a_2_1 h_a_0_1 h_a_4_2 h_a_1_2 h_a_4_1 h_a_1_1 h_a_3_1 h_a_3_3 h_a_2_0 h_a_0_0 h_i_0) cf_X12_takes (mw_0 cy a (si (sl S 2 1649317774848) 24 (-1))) rfl wm_X12_174 wi_X12_takes ws_X12_takes dX12_after_22 rfl (Nat.le_of_ble_eq_true rfl) ⟨by decide, by decide, by decide, by decide⟩) (fun u22340 h22338 => ?_)
  obtain rfl := h22338
  refine z_iload_n b dX12_after_25 rfl rfl ?_
  refine z_calli b (z_runS (As := [.int 48]) (st := []) b (c_X12_isOne_53 (si (sl S 2 1649317774848) 24 (-1)) ) cf_X12_isOne wm_X12_170 ws_X12_isOne dX12_after_26 rfl (Nat.le_of_ble_eq_true rfl) ⟨by decide, by decide, by decide, by decide⟩) (fun r22342 u22343 h22341 => ?_)
  obtain ⟨rfl, rfl⟩ := h22341
  refine z_if_eq_t (tgt := 39) b dX12_after_29 (by decide) (by decide) ?_
  refine z_iload_n b dX12_after_39 rfl rfl ?_
  refine z_bipush (v := 50) b dX12_after_40 (by decide) ?_
  refine z_icmp_ne_t (tgt := 50) b dX12_after_42 (by decide) (by decide) ?_
  refine z_iload_n b dX12_after_50 rfl rfl ?_
  refine z_bipush (v := 40) b dX12_after_51 (by decide) ?_
  refine z_bipush (v := 42) b dX12_after_53 (by decide) ?_
  refine z_calli b (z_runS (As := [.int 48, .int 40, .int 42]) (st := []) b (c_X12_isIn_201 (si (sl S 2 1649317774848) 24 (-1)) ) cf_X12_isIn wm_X12_1 ws_X12_isIn dX12_after_55 rfl (Nat.le_of_ble_eq_true rfl) ⟨by decide, by decide, by decide, by decide⟩) (fun r22345 u22346 h22344 => ?_)
  obtain ⟨rfl, rfl⟩ := h22344
  refine z_if_eq_t (tgt := 71) b dX12_after_58 (by decide) (by decide) ?_
  refine z_iload_n b dX12_after_71 rfl rfl ?_
  refine z_bipush (v := 10) b dX12_after_72 (by decide) ?_
  refine z_irem (v := 8) b dX12_after_74 (by decide) (by decide) ?_
  refine z_istore_n (lv' := [(3, .int 8), (0, .ref (a 0)), (1, .int 5), (2, .int 48)]) b dX12_after_75 rfl (by decide) rfl ?_
  refine z_iload_n b dX12_after_76 rfl rfl ?_
  refine z_bipush (v := 10) b dX12_after_77 (by decide) ?_
  refine z_bipush (v := 38) b dX12_after_79 (by decide) ?_
  refine z_calli b (z_runS (As := [.int 48, .int 10, .int 38]) (st := []) b (c_X12_isIn_202 (si (sl S 2 1649317774848) 24 (-1)) ) cf_X12_isIn wm_X12_1 ws_X12_isIn dX12_after_81 rfl (Nat.le_of_ble_eq_true rfl) ⟨by decide, by decide, by decide, by decide⟩) (fun r22348 u22349 h22347 => ?_)
  obtain ⟨rfl, rfl⟩ := h22347
  refine z_if_eq_t (tgt := 102) b dX12_after_84 (by decide) (by decide) ?_
  refine z_iconst (v := (-1)) b dX12_after_102 (by decide) ?_
  exact z_iret (u := (si (sl S 2 1649317774848) 24 (-1))) b rfl dX12_after_103 ⟨rfl, rfl⟩ rfl (by decide) (by decide)

set_option maxHeartbeats 4000000 in
set_option maxRecDepth 100000 in
theorem c_X11_after_324 {l : Launch} {D : va_G} {cy : Nat → ClassId} {T0 tB tE : Nat} {a : Nat → Nat} {rw : Nat → Option Nat} (S : GS)   : Ct l D cy T0 tB tE yX11_after cX11_after 3 (some .int) 2 41 0 0 (cw cy tE a rw S) [.ref (a 0), .int 5, .int 49] (QI D (U := GS) (fun r u => (-1) = r ∧ S = u) (cw cy tE a rw)) := by
  refine Ct.ofZ RX11 "after" [(0, .ref (a 0)), (1, .int 5), (2, .int 49)] rfl rfl rfl rfl (Nat.le_of_ble_eq_true rfl) ?_
  intro p e R s m args below meth c A b
  refine z_iload_n b dX11_after_0 rfl rfl ?_
  refine z_calli b (z_runS (As := [.int 5]) (st := []) b (c_X11_isRow_8 S ) cf_X11_isRow wm_X11_169 ws_X11_isRow dX11_after_1 rfl (Nat.le_of_ble_eq_true rfl) ⟨by decide, by decide, by decide, by decide⟩) (fun r22351 u22352 h22350 => ?_)
  obtain ⟨rfl, rfl⟩ := h22350
  refine z_if_eq_f (tgt := 14) b dX11_after_4 (by decide) (by decide) ?_
  refine z_iload_n b dX11_after_7 rfl rfl ?_
  refine z_calli b (z_runS (As := [.int 49]) (st := []) b (c_X9_has_52 S ) cf_X9_has wm_X11_191 ws_X9_has dX11_after_8 rfl (Nat.le_of_ble_eq_true rfl) ⟨by decide, by decide, by decide, by decide⟩) (fun r22354 u22355 h22353 => ?_)
  obtain ⟨rfl, rfl⟩ := h22353
  refine z_if_ne_f (tgt := 16) b dX11_after_11 (by decide) (by decide) ?_
  refine z_iconst (v := (-1)) b dX11_after_14 (by decide) ?_
  exact z_iret (u := S) b rfl dX11_after_15 ⟨rfl, rfl⟩ rfl (by decide) (by decide)

set_option maxHeartbeats 4000000 in
set_option maxRecDepth 100000 in
theorem c_X12_after_324 {l : Launch} {D : va_G} {cy : Nat → ClassId} {T0 tB tE : Nat} {a : Nat → Nat} (S : GS)  (h_l_0 : fl S 0 = 1649317774848) (h_a_38_5 : ar S 38 5 = 0) (h_a_4_7 : ar S 4 7 = 0) (h_a_1_7 : ar S 1 7 = 0) (h_a_4_6 : ar S 4 6 = 0) (h_a_1_6 : ar S 1 6 = 0) (h_a_3_6 : ar S 3 6 = 0) (h_a_3_2 : ar S 3 2 = 0) (h_a_2_2 : ar S 2 2 = 3) (h_a_0_2 : ar S 0 2 = 0) (h_a_4_3 : ar S 4 3 = 0) (h_a_1_3 : ar S 1 3 = 0) (h_a_4_5 : ar S 4 5 = 0) (h_a_1_5 : ar S 1 5 = 0) (h_a_3_5 : ar S 3 5 = 0) (h_a_3_7 : ar S 3 7 = 0) (h_a_2_1 : ar S 2 1 = 3) (h_a_0_1 : ar S 0 1 = 0) (h_a_4_2 : ar S 4 2 = 0) (h_a_1_2 : ar S 1 2 = 0) (h_a_4_1 : ar S 4 1 = 0) (h_a_1_1 : ar S 1 1 = 0) (h_a_3_1 : ar S 3 1 = 0) (h_a_3_3 : ar S 3 3 = 0) (h_a_2_0 : ar S 2 0 = 3) (h_a_0_0 : ar S 0 0 = 0) (h_i_0 : fi S 0 = 0) : Ct l D cy T0 tB tE yX12_after cX12_after 4 (some .int) 2 47 0 0 (mw cy a S) [.ref (a 0), .int 5, .int 49] (QI D (U := GS) (fun r u => (-1) = r ∧ (si (sl S 2 1649317774848) 24 (-1)) = u) (mw cy a)) := by
  refine Ct.ofZ RX12 "after" [(0, .ref (a 0)), (1, .int 5), (2, .int 49)] rfl rfl rfl rfl (Nat.le_of_ble_eq_true rfl) ?_
  intro p e R s m args below meth c A b
  refine z_iload_n b dX12_after_0 rfl rfl ?_
  refine z_calli b (z_runS (As := [.int 5]) (st := []) b (c_X12_isRow_8 S ) cf_X12_isRow wm_X12_452 ws_X12_isRow dX12_after_1 rfl (Nat.le_of_ble_eq_true rfl) ⟨by decide, by decide, by decide, by decide⟩) (fun r22357 u22358 h22356 => ?_)
  obtain ⟨rfl, rfl⟩ := h22356
  refine z_if_ne_t (tgt := 9) b dX12_after_4 (by decide) (by decide) ?_
  refine z_aload_n b dX12_after_9 rfl rfl ?_
  refine z_iload_n b dX12_after_10 rfl rfl ?_
  refine z_iconst (v := 3) b dX12_after_11 (by decide) ?_
  refine z_iconst (v := 0) b dX12_after_12 (by decide) ?_
  refine z_calli b (z_runV (q0 := 0) (As := [.int 5, .int 3, .int 0]) (st := []) b (c_X12_goes_12 S h_l_0 h_a_38_5) cf_X12_goes (mw_0 cy a S) rfl wm_X12_464 wi_X12_goes ws_X12_goes dX12_after_13 rfl (Nat.le_of_ble_eq_true rfl) ⟨by decide, by decide, by decide, by decide⟩) (fun r22360 u22361 h22359 => ?_)
  obtain ⟨rfl, rfl⟩ := h22359
  refine z_pop b dX12_after_16 rfl ?_
  refine z_aload_n b dX12_after_17 rfl rfl ?_
  refine z_aload_n b dX12_after_18 rfl rfl ?_
  refine z_get (q0 := 0) (k9 := 68) (v := .long 1649317774848) b (mw_0 cy a (si (sl S 2 1649317774848) 24 (-1))) rfl in_X12 (by decide) wf_X12_458 rfl dX12_after_19 ?_
  refine z_callv b (z_runV (q0 := 0) (As := [.long 1649317774848]) (st := []) b (c_X12_takes (si (sl S 2 1649317774848) 24 (-1)) h_a_4_7 h_a_1_7 h_a_4_6 h_a_1_6 h_a_3_6 h_a_3_2 h_a_2_2 h_a_0_2 h_a_4_3 h_a_1_3 h_a_4_5 h_a_1_5 h_a_3_5 h_a_3_7 h_a_2_1 h_a_0_1 h_a_4_2 h_a_1_2 h_a_4_1 h_a_1_1 h_a_3_1 h_a_3_3 h_a_2_0 h_a_0_0 h_i_0) cf_X12_takes (mw_0 cy a (si (sl S 2 1649317774848) 24 (-1))) rfl wm_X12_174 wi_X12_takes ws_X12_takes dX12_after_22 rfl (Nat.le_of_ble_eq_true rfl) ⟨by decide, by decide, by decide, by decide⟩) (fun u22364 h22362 => ?_)
  obtain rfl := h22362
  refine z_iload_n b dX12_after_25 rfl rfl ?_
  refine z_calli b (z_runS (As := [.int 49]) (st := []) b (c_X12_isOne_54 (si (sl S 2 1649317774848) 24 (-1)) ) cf_X12_isOne wm_X12_170 ws_X12_isOne dX12_after_26 rfl (Nat.le_of_ble_eq_true rfl) ⟨by decide, by decide, by decide, by decide⟩) (fun r22366 u22367 h22365 => ?_)
  obtain ⟨rfl, rfl⟩ := h22365
  refine z_if_eq_t (tgt := 39) b dX12_after_29 (by decide) (by decide) ?_
  refine z_iload_n b dX12_after_39 rfl rfl ?_
  refine z_bipush (v := 50) b dX12_after_40 (by decide) ?_
  refine z_icmp_ne_t (tgt := 50) b dX12_after_42 (by decide) (by decide) ?_
  refine z_iload_n b dX12_after_50 rfl rfl ?_
  refine z_bipush (v := 40) b dX12_after_51 (by decide) ?_
  refine z_bipush (v := 42) b dX12_after_53 (by decide) ?_
  refine z_calli b (z_runS (As := [.int 49, .int 40, .int 42]) (st := []) b (c_X12_isIn_204 (si (sl S 2 1649317774848) 24 (-1)) ) cf_X12_isIn wm_X12_1 ws_X12_isIn dX12_after_55 rfl (Nat.le_of_ble_eq_true rfl) ⟨by decide, by decide, by decide, by decide⟩) (fun r22369 u22370 h22368 => ?_)
  obtain ⟨rfl, rfl⟩ := h22368
  refine z_if_eq_t (tgt := 71) b dX12_after_58 (by decide) (by decide) ?_
  refine z_iload_n b dX12_after_71 rfl rfl ?_
  refine z_bipush (v := 10) b dX12_after_72 (by decide) ?_
  refine z_irem (v := 9) b dX12_after_74 (by decide) (by decide) ?_
  refine z_istore_n (lv' := [(3, .int 9), (0, .ref (a 0)), (1, .int 5), (2, .int 49)]) b dX12_after_75 rfl (by decide) rfl ?_
  refine z_iload_n b dX12_after_76 rfl rfl ?_
  refine z_bipush (v := 10) b dX12_after_77 (by decide) ?_
  refine z_bipush (v := 38) b dX12_after_79 (by decide) ?_
  refine z_calli b (z_runS (As := [.int 49, .int 10, .int 38]) (st := []) b (c_X12_isIn_205 (si (sl S 2 1649317774848) 24 (-1)) ) cf_X12_isIn wm_X12_1 ws_X12_isIn dX12_after_81 rfl (Nat.le_of_ble_eq_true rfl) ⟨by decide, by decide, by decide, by decide⟩) (fun r22372 u22373 h22371 => ?_)
  obtain ⟨rfl, rfl⟩ := h22371
  refine z_if_eq_t (tgt := 102) b dX12_after_84 (by decide) (by decide) ?_
  refine z_iconst (v := (-1)) b dX12_after_102 (by decide) ?_
  exact z_iret (u := (si (sl S 2 1649317774848) 24 (-1))) b rfl dX12_after_103 ⟨rfl, rfl⟩ rfl (by decide) (by decide)

set_option maxHeartbeats 4000000 in
set_option maxRecDepth 100000 in
theorem c_X11_after_325 {l : Launch} {D : va_G} {cy : Nat → ClassId} {T0 tB tE : Nat} {a : Nat → Nat} {rw : Nat → Option Nat} (S : GS)  (h_i_14 : fi S 14 = (-1)) (h_i_37 : fi S 37 = 0) (h_a_4_50 : ar S 4 50 = 0) (hrw : ∀ i, i < 6 → rw i = some (a (36 + 2 * i))) : Ct l D cy T0 tB tE yX11_after cX11_after 3 (some .int) 3 86 0 0 (cw cy tE a rw S) [.ref (a 0), .int 5, .int 50] (QI D (U := GS) (fun r u => 0 = r ∧ (sa S 8 (va_cpy (ar S 4) (ar S 8) 0 0 51)) = u) (cw cy tE a rw)) := by
  refine Ct.ofZ RX11 "after" [(0, .ref (a 0)), (1, .int 5), (2, .int 50)] rfl rfl rfl rfl (Nat.le_of_ble_eq_true rfl) ?_
  intro p e R s m args below meth c A b
  refine z_iload_n b dX11_after_0 rfl rfl ?_
  refine z_calli b (z_runS (As := [.int 5]) (st := []) b (c_X11_isRow_8 S ) cf_X11_isRow wm_X11_169 ws_X11_isRow dX11_after_1 rfl (Nat.le_of_ble_eq_true rfl) ⟨by decide, by decide, by decide, by decide⟩) (fun r22375 u22376 h22374 => ?_)
  obtain ⟨rfl, rfl⟩ := h22374
  refine z_if_eq_f (tgt := 14) b dX11_after_4 (by decide) (by decide) ?_
  refine z_iload_n b dX11_after_7 rfl rfl ?_
  refine z_calli b (z_runS (As := [.int 50]) (st := []) b (c_X9_has_53 S ) cf_X9_has wm_X11_191 ws_X9_has dX11_after_8 rfl (Nat.le_of_ble_eq_true rfl) ⟨by decide, by decide, by decide, by decide⟩) (fun r22378 u22379 h22377 => ?_)
  obtain ⟨rfl, rfl⟩ := h22377
  refine z_if_ne_t (tgt := 16) b dX11_after_11 (by decide) (by decide) ?_
  refine z_aload_n b dX11_after_16 rfl rfl ?_
  refine z_get (q0 := 0) (k9 := 5) (v := .ref (a 16)) b (cw_0 cy tE a rw S) rfl in_X11 (by decide) wf_X11_43 rfl dX11_after_17 ?_
  refine z_aload_n b dX11_after_20 rfl rfl ?_
  refine z_get (q0 := 0) (k9 := 7) (v := .ref (a 35)) b (cw_0 cy tE a rw S) rfl in_X11 (by decide) wf_X11_58 rfl dX11_after_21 ?_
  refine z_iload_n b dX11_after_24 rfl rfl ?_
  refine y_aald (q0 := 35) (t0 := 4) (j := 5) (v := .ref (a 46)) b (cw_35 cy tE a rw S) rfl (by decide) (by rw [hrw 5 (by decide)]; rfl) dX11_after_25 ?_
  refine z_aload_n b dX11_after_26 rfl rfl ?_
  refine z_get (q0 := 0) (k9 := 4) (v := .ref (a 14)) b (cw_0 cy tE a rw S) rfl in_X11 (by decide) wf_X11_34 rfl dX11_after_27 ?_
  refine z_iconst (v := 3) b dX11_after_30 (by decide) ?_
  refine z_iconst (v := 0) b dX11_after_31 (by decide) ?_
  refine z_calli b (z_runV (q0 := 16) (As := [.ref (a 46), .ref (a 14), .int 3, .int 0]) (st := []) b (c_X2_follow_12 S h_i_14 h_i_37) cf_X2_follow (cw_16 cy tE a rw S) rfl wm_X11_184 wi_X2_follow ws_X2_follow dX11_after_32 rfl (Nat.le_of_ble_eq_true rfl) ⟨by decide, by decide, by decide, by decide⟩) (fun r22381 u22382 h22380 => ?_)
  obtain ⟨rfl, rfl⟩ := h22380
  refine z_pop b dX11_after_35 rfl ?_
  refine z_aload_n b dX11_after_36 rfl rfl ?_
  refine z_get (q0 := 0) (k9 := 5) (v := .ref (a 16)) b (cw_0 cy tE a rw (sa S 8 (va_cpy (ar S 4) (ar S 8) 0 0 51))) rfl in_X11 (by decide) wf_X11_43 rfl dX11_after_37 ?_
  refine z_get (q0 := 16) (k9 := 3) (v := .ref (a 23)) b (cw_16 cy tE a rw (sa S 8 (va_cpy (ar S 4) (ar S 8) 0 0 51))) rfl in_X2 (by decide) wf_X11_194 rfl dX11_after_40 ?_
  refine z_iload_n b dX11_after_43 rfl rfl ?_
  refine z_calli b (z_runV (q0 := 23) (As := [.int 50]) (st := []) b (c_X9_get_34 (sa S 8 (va_cpy (ar S 4) (ar S 8) 0 0 51)) h_a_4_50) cf_X9_get (cw_23 cy tE a rw (sa S 8 (va_cpy (ar S 4) (ar S 8) 0 0 51))) rfl wm_X11_197 wi_X9_get ws_X9_get dX11_after_44 rfl (Nat.le_of_ble_eq_true rfl) ⟨by decide, by decide, by decide, by decide⟩) (fun r22384 u22385 h22383 => ?_)
  obtain ⟨rfl, rfl⟩ := h22383
  exact z_iret (u := (sa S 8 (va_cpy (ar S 4) (ar S 8) 0 0 51))) b rfl dX11_after_47 ⟨rfl, rfl⟩ rfl (by decide) (by decide)

set_option maxHeartbeats 4000000 in
set_option maxRecDepth 100000 in
theorem c_X12_after_325 {l : Launch} {D : va_G} {cy : Nat → ClassId} {T0 tB tE : Nat} {a : Nat → Nat} (S : GS)  (h_l_0 : fl S 0 = 1649317774848) (h_a_38_5 : ar S 38 5 = 0) (h_a_4_7 : ar S 4 7 = 0) (h_a_1_7 : ar S 1 7 = 0) (h_a_4_6 : ar S 4 6 = 0) (h_a_1_6 : ar S 1 6 = 0) (h_a_3_6 : ar S 3 6 = 0) (h_a_3_2 : ar S 3 2 = 0) (h_a_2_2 : ar S 2 2 = 3) (h_a_0_2 : ar S 0 2 = 0) (h_a_4_3 : ar S 4 3 = 0) (h_a_1_3 : ar S 1 3 = 0) (h_a_4_5 : ar S 4 5 = 0) (h_a_1_5 : ar S 1 5 = 0) (h_a_3_5 : ar S 3 5 = 0) (h_a_3_7 : ar S 3 7 = 0) (h_a_2_1 : ar S 2 1 = 3) (h_a_0_1 : ar S 0 1 = 0) (h_a_4_2 : ar S 4 2 = 0) (h_a_1_2 : ar S 1 2 = 0) (h_a_4_1 : ar S 4 1 = 0) (h_a_1_1 : ar S 1 1 = 0) (h_a_3_1 : ar S 3 1 = 0) (h_a_3_3 : ar S 3 3 = 0) (h_a_2_0 : ar S 2 0 = 3) (h_a_0_0 : ar S 0 0 = 0) (h_i_0 : fi S 0 = 0) : Ct l D cy T0 tB tE yX12_after cX12_after 4 (some .int) 2 47 0 0 (mw cy a S) [.ref (a 0), .int 5, .int 50] (QI D (U := GS) (fun r u => 0 = r ∧ (si (sl S 2 1649317774848) 24 (-1)) = u) (mw cy a)) := by
  refine Ct.ofZ RX12 "after" [(0, .ref (a 0)), (1, .int 5), (2, .int 50)] rfl rfl rfl rfl (Nat.le_of_ble_eq_true rfl) ?_
  intro p e R s m args below meth c A b
  refine z_iload_n b dX12_after_0 rfl rfl ?_
  refine z_calli b (z_runS (As := [.int 5]) (st := []) b (c_X12_isRow_8 S ) cf_X12_isRow wm_X12_452 ws_X12_isRow dX12_after_1 rfl (Nat.le_of_ble_eq_true rfl) ⟨by decide, by decide, by decide, by decide⟩) (fun r22387 u22388 h22386 => ?_)
  obtain ⟨rfl, rfl⟩ := h22386
  refine z_if_ne_t (tgt := 9) b dX12_after_4 (by decide) (by decide) ?_
  refine z_aload_n b dX12_after_9 rfl rfl ?_
  refine z_iload_n b dX12_after_10 rfl rfl ?_
  refine z_iconst (v := 3) b dX12_after_11 (by decide) ?_
  refine z_iconst (v := 0) b dX12_after_12 (by decide) ?_
  refine z_calli b (z_runV (q0 := 0) (As := [.int 5, .int 3, .int 0]) (st := []) b (c_X12_goes_12 S h_l_0 h_a_38_5) cf_X12_goes (mw_0 cy a S) rfl wm_X12_464 wi_X12_goes ws_X12_goes dX12_after_13 rfl (Nat.le_of_ble_eq_true rfl) ⟨by decide, by decide, by decide, by decide⟩) (fun r22390 u22391 h22389 => ?_)
  obtain ⟨rfl, rfl⟩ := h22389
  refine z_pop b dX12_after_16 rfl ?_
  refine z_aload_n b dX12_after_17 rfl rfl ?_
  refine z_aload_n b dX12_after_18 rfl rfl ?_
  refine z_get (q0 := 0) (k9 := 68) (v := .long 1649317774848) b (mw_0 cy a (si (sl S 2 1649317774848) 24 (-1))) rfl in_X12 (by decide) wf_X12_458 rfl dX12_after_19 ?_
  refine z_callv b (z_runV (q0 := 0) (As := [.long 1649317774848]) (st := []) b (c_X12_takes (si (sl S 2 1649317774848) 24 (-1)) h_a_4_7 h_a_1_7 h_a_4_6 h_a_1_6 h_a_3_6 h_a_3_2 h_a_2_2 h_a_0_2 h_a_4_3 h_a_1_3 h_a_4_5 h_a_1_5 h_a_3_5 h_a_3_7 h_a_2_1 h_a_0_1 h_a_4_2 h_a_1_2 h_a_4_1 h_a_1_1 h_a_3_1 h_a_3_3 h_a_2_0 h_a_0_0 h_i_0) cf_X12_takes (mw_0 cy a (si (sl S 2 1649317774848) 24 (-1))) rfl wm_X12_174 wi_X12_takes ws_X12_takes dX12_after_22 rfl (Nat.le_of_ble_eq_true rfl) ⟨by decide, by decide, by decide, by decide⟩) (fun u22394 h22392 => ?_)
  obtain rfl := h22392
  refine z_iload_n b dX12_after_25 rfl rfl ?_
  refine z_calli b (z_runS (As := [.int 50]) (st := []) b (c_X12_isOne_55 (si (sl S 2 1649317774848) 24 (-1)) ) cf_X12_isOne wm_X12_170 ws_X12_isOne dX12_after_26 rfl (Nat.le_of_ble_eq_true rfl) ⟨by decide, by decide, by decide, by decide⟩) (fun r22396 u22397 h22395 => ?_)
  obtain ⟨rfl, rfl⟩ := h22395
  refine z_if_eq_t (tgt := 39) b dX12_after_29 (by decide) (by decide) ?_
  refine z_iload_n b dX12_after_39 rfl rfl ?_
  refine z_bipush (v := 50) b dX12_after_40 (by decide) ?_
  refine z_icmp_ne_f (tgt := 50) b dX12_after_42 (by decide) (by decide) ?_
  refine z_aload_n b dX12_after_45 rfl rfl ?_
  refine z_get (q0 := 0) (k9 := 5) (v := .int (fi (si (sl S 2 1649317774848) 24 (-1)) 0)) b (mw_0 cy a (si (sl S 2 1649317774848) 24 (-1))) rfl in_X12 (by decide) wf_X12_157 rfl dX12_after_46 ?_
  refine z_eqi h_i_0 ?_
  exact z_iret (u := (si (sl S 2 1649317774848) 24 (-1))) b rfl dX12_after_49 ⟨rfl, rfl⟩ rfl (by decide) (by decide)

set_option maxHeartbeats 4000000 in
set_option maxRecDepth 100000 in
theorem c_X11_after_326 {l : Launch} {D : va_G} {cy : Nat → ClassId} {T0 tB tE : Nat} {a : Nat → Nat} {rw : Nat → Option Nat} (S : GS) (p0 : Int32)  (hr_p0 : 51 ≤ p0.toInt ∧ p0.toInt ≤ 2147483647) : Ct l D cy T0 tB tE yX11_after cX11_after 3 (some .int) 2 41 0 0 (cw cy tE a rw S) [.ref (a 0), .int 5, .int p0] (QI D (U := GS) (fun r u => (-1) = r ∧ S = u) (cw cy tE a rw)) := by
  refine Ct.ofZ RX11 "after" [(0, .ref (a 0)), (1, .int 5), (2, .int p0)] rfl rfl rfl rfl (Nat.le_of_ble_eq_true rfl) ?_
  intro p e R s m args below meth c A b
  refine z_iload_n b dX11_after_0 rfl rfl ?_
  refine z_calli b (z_runS (As := [.int 5]) (st := []) b (c_X11_isRow_8 S ) cf_X11_isRow wm_X11_169 ws_X11_isRow dX11_after_1 rfl (Nat.le_of_ble_eq_true rfl) ⟨by decide, by decide, by decide, by decide⟩) (fun r22399 u22400 h22398 => ?_)
  obtain ⟨rfl, rfl⟩ := h22398
  refine z_if_eq_f (tgt := 14) b dX11_after_4 (by decide) (by decide) ?_
  refine z_iload_n b dX11_after_7 rfl rfl ?_
  refine z_calli b (z_runS (As := [.int p0]) (st := []) b (c_X9_has_54 S p0 ⟨by omega, by omega⟩) cf_X9_has wm_X11_191 ws_X9_has dX11_after_8 rfl (Nat.le_of_ble_eq_true rfl) ⟨by decide, by decide, by decide, by decide⟩) (fun r22402 u22403 h22401 => ?_)
  obtain ⟨rfl, rfl⟩ := h22401
  refine z_if_ne_f (tgt := 16) b dX11_after_11 (by decide) (by decide) ?_
  refine z_iconst (v := (-1)) b dX11_after_14 (by decide) ?_
  exact z_iret (u := S) b rfl dX11_after_15 ⟨rfl, rfl⟩ rfl (by decide) (by decide)

set_option maxHeartbeats 4000000 in
set_option maxRecDepth 100000 in
theorem c_X12_after_326 {l : Launch} {D : va_G} {cy : Nat → ClassId} {T0 tB tE : Nat} {a : Nat → Nat} (S : GS) (p0 : Int32) (h_l_0 : fl S 0 = 1649317774848) (h_a_38_5 : ar S 38 5 = 0) (h_a_4_7 : ar S 4 7 = 0) (h_a_1_7 : ar S 1 7 = 0) (h_a_4_6 : ar S 4 6 = 0) (h_a_1_6 : ar S 1 6 = 0) (h_a_3_6 : ar S 3 6 = 0) (h_a_3_2 : ar S 3 2 = 0) (h_a_2_2 : ar S 2 2 = 3) (h_a_0_2 : ar S 0 2 = 0) (h_a_4_3 : ar S 4 3 = 0) (h_a_1_3 : ar S 1 3 = 0) (h_a_4_5 : ar S 4 5 = 0) (h_a_1_5 : ar S 1 5 = 0) (h_a_3_5 : ar S 3 5 = 0) (h_a_3_7 : ar S 3 7 = 0) (h_a_2_1 : ar S 2 1 = 3) (h_a_0_1 : ar S 0 1 = 0) (h_a_4_2 : ar S 4 2 = 0) (h_a_1_2 : ar S 1 2 = 0) (h_a_4_1 : ar S 4 1 = 0) (h_a_1_1 : ar S 1 1 = 0) (h_a_3_1 : ar S 3 1 = 0) (h_a_3_3 : ar S 3 3 = 0) (h_a_2_0 : ar S 2 0 = 3) (h_a_0_0 : ar S 0 0 = 0) (h_i_0 : fi S 0 = 0) (hr_p0 : 51 ≤ p0.toInt ∧ p0.toInt ≤ 2147483647) : Ct l D cy T0 tB tE yX12_after cX12_after 4 (some .int) 2 47 0 0 (mw cy a S) [.ref (a 0), .int 5, .int p0] (QI D (U := GS) (fun r u => (-1) = r ∧ (si (sl S 2 1649317774848) 24 (-1)) = u) (mw cy a)) := by
  refine Ct.ofZ RX12 "after" [(0, .ref (a 0)), (1, .int 5), (2, .int p0)] rfl rfl rfl rfl (Nat.le_of_ble_eq_true rfl) ?_
  intro p e R s m args below meth c A b
  refine z_iload_n b dX12_after_0 rfl rfl ?_
  refine z_calli b (z_runS (As := [.int 5]) (st := []) b (c_X12_isRow_8 S ) cf_X12_isRow wm_X12_452 ws_X12_isRow dX12_after_1 rfl (Nat.le_of_ble_eq_true rfl) ⟨by decide, by decide, by decide, by decide⟩) (fun r22405 u22406 h22404 => ?_)
  obtain ⟨rfl, rfl⟩ := h22404
  refine z_if_ne_t (tgt := 9) b dX12_after_4 (by decide) (by decide) ?_
  refine z_aload_n b dX12_after_9 rfl rfl ?_
  refine z_iload_n b dX12_after_10 rfl rfl ?_
  refine z_iconst (v := 3) b dX12_after_11 (by decide) ?_
  refine z_iconst (v := 0) b dX12_after_12 (by decide) ?_
  refine z_calli b (z_runV (q0 := 0) (As := [.int 5, .int 3, .int 0]) (st := []) b (c_X12_goes_12 S h_l_0 h_a_38_5) cf_X12_goes (mw_0 cy a S) rfl wm_X12_464 wi_X12_goes ws_X12_goes dX12_after_13 rfl (Nat.le_of_ble_eq_true rfl) ⟨by decide, by decide, by decide, by decide⟩) (fun r22408 u22409 h22407 => ?_)
  obtain ⟨rfl, rfl⟩ := h22407
  refine z_pop b dX12_after_16 rfl ?_
  refine z_aload_n b dX12_after_17 rfl rfl ?_
  refine z_aload_n b dX12_after_18 rfl rfl ?_
  refine z_get (q0 := 0) (k9 := 68) (v := .long 1649317774848) b (mw_0 cy a (si (sl S 2 1649317774848) 24 (-1))) rfl in_X12 (by decide) wf_X12_458 rfl dX12_after_19 ?_
  refine z_callv b (z_runV (q0 := 0) (As := [.long 1649317774848]) (st := []) b (c_X12_takes (si (sl S 2 1649317774848) 24 (-1)) h_a_4_7 h_a_1_7 h_a_4_6 h_a_1_6 h_a_3_6 h_a_3_2 h_a_2_2 h_a_0_2 h_a_4_3 h_a_1_3 h_a_4_5 h_a_1_5 h_a_3_5 h_a_3_7 h_a_2_1 h_a_0_1 h_a_4_2 h_a_1_2 h_a_4_1 h_a_1_1 h_a_3_1 h_a_3_3 h_a_2_0 h_a_0_0 h_i_0) cf_X12_takes (mw_0 cy a (si (sl S 2 1649317774848) 24 (-1))) rfl wm_X12_174 wi_X12_takes ws_X12_takes dX12_after_22 rfl (Nat.le_of_ble_eq_true rfl) ⟨by decide, by decide, by decide, by decide⟩) (fun u22412 h22410 => ?_)
  obtain rfl := h22410
  refine z_iload_n b dX12_after_25 rfl rfl ?_
  refine z_calli b (z_runS (As := [.int p0]) (st := []) b (c_X12_isOne_56 (si (sl S 2 1649317774848) 24 (-1)) p0 ⟨by omega, by omega⟩) cf_X12_isOne wm_X12_170 ws_X12_isOne dX12_after_26 rfl (Nat.le_of_ble_eq_true rfl) ⟨by decide, by decide, by decide, by decide⟩) (fun r22414 u22415 h22413 => ?_)
  obtain ⟨rfl, rfl⟩ := h22413
  refine z_if_eq_t (tgt := 39) b dX12_after_29 (by decide) (by decide) ?_
  refine z_iload_n b dX12_after_39 rfl rfl ?_
  refine z_bipush (v := 50) b dX12_after_40 (by decide) ?_
  refine y_icmp_ne (tgt := 50) (xl := p0.toInt) (yl := 50) b rfl (by decide) dX12_after_42 (by decide) (fun c22416 => ?_) (fun c22416 => ?_)
  · refine z_iload_n b dX12_after_50 rfl rfl ?_
    refine z_bipush (v := 40) b dX12_after_51 (by decide) ?_
    refine z_bipush (v := 42) b dX12_after_53 (by decide) ?_
    refine z_calli b (z_runS (As := [.int p0, .int 40, .int 42]) (st := []) b (c_X12_isIn_208 (si (sl S 2 1649317774848) 24 (-1)) p0 ⟨by omega, by omega⟩) cf_X12_isIn wm_X12_1 ws_X12_isIn dX12_after_55 rfl (Nat.le_of_ble_eq_true rfl) ⟨by decide, by decide, by decide, by decide⟩) (fun r22418 u22419 h22417 => ?_)
    obtain ⟨rfl, rfl⟩ := h22417
    refine z_if_eq_t (tgt := 71) b dX12_after_58 (by decide) (by decide) ?_
    refine z_iload_n b dX12_after_71 rfl rfl ?_
    refine z_bipush (v := 10) b dX12_after_72 (by decide) ?_
    refine z_irem b dX12_after_74 (by decide) rfl ?_
    refine z_istore_n (lv' := [(3, .int (p0 - p0 / 10 * 10)), (0, .ref (a 0)), (1, .int 5), (2, .int p0)]) b dX12_after_75 rfl (by decide) rfl ?_
    refine z_iload_n b dX12_after_76 rfl rfl ?_
    refine z_bipush (v := 10) b dX12_after_77 (by decide) ?_
    refine z_bipush (v := 38) b dX12_after_79 (by decide) ?_
    refine z_calli b (z_runS (As := [.int p0, .int 10, .int 38]) (st := []) b (c_X12_isIn_209 (si (sl S 2 1649317774848) 24 (-1)) p0 ⟨by omega, by omega⟩) cf_X12_isIn wm_X12_1 ws_X12_isIn dX12_after_81 rfl (Nat.le_of_ble_eq_true rfl) ⟨by decide, by decide, by decide, by decide⟩) (fun r22421 u22422 h22420 => ?_)
    obtain ⟨rfl, rfl⟩ := h22420
    refine z_if_eq_t (tgt := 102) b dX12_after_84 (by decide) (by decide) ?_
    refine z_iconst (v := (-1)) b dX12_after_102 (by decide) ?_
    exact z_iret (u := (si (sl S 2 1649317774848) 24 (-1))) b rfl dX12_after_103 ⟨rfl, rfl⟩ rfl (by decide) (by decide)
  · exfalso; omega

