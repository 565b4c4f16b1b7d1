theorem wm_X11_84 : Cond.methodLink RX11 84 yX11_arePair ∈ gT := gT_of 495 (by decide +kernel) (by decide +kernel)
theorem cf_X11_arePair : Cf yX11_arePair cX11_arePair 2 (some .boolean) 2 := ⟨gT_of 497 (by decide +kernel) (by decide +kernel), gT_of 84 (by decide +kernel) (by decide +kernel), by decide +kernel, by decide +kernel, by decide +kernel⟩
theorem ws_X11_arePair : Cond.static yX11_arePair ∈ gT := gT_of 496 (by decide +kernel) (by decide +kernel)
theorem dX11_arePair_0 : decode cX11_arePair 0 = .ok (.iload_n 0, 1) := by decide +kernel
theorem dX11_arePair_1 : decode cX11_arePair 1 = .ok (.invokestatic 69, 3) := by decide +kernel
theorem dX11_arePair_4 : decode cX11_arePair 4 = .ok (.ifCond .eq 19, 3) := by decide +kernel
theorem dX11_arePair_7 : decode cX11_arePair 7 = .ok (.iload_n 1, 1) := by decide +kernel
theorem dX11_arePair_8 : decode cX11_arePair 8 = .ok (.invokestatic 69, 3) := by decide +kernel
theorem dX11_arePair_11 : decode cX11_arePair 11 = .ok (.ifCond .eq 12, 3) := by decide +kernel
theorem dX11_arePair_14 : decode cX11_arePair 14 = .ok (.iload_n 0, 1) := by decide +kernel
theorem dX11_arePair_15 : decode cX11_arePair 15 = .ok (.iload_n 1, 1) := by decide +kernel
theorem dX11_arePair_16 : decode cX11_arePair 16 = .ok (.if_icmp .eq 7, 3) := by decide +kernel
theorem dX11_arePair_19 : decode cX11_arePair 19 = .ok (.iconst 1, 1) := by decide +kernel
theorem dX11_arePair_20 : decode cX11_arePair 20 = .ok (.goto 4, 3) := by decide +kernel
theorem dX11_arePair_23 : decode cX11_arePair 23 = .ok (.iconst 0, 1) := by decide +kernel
theorem dX11_arePair_24 : decode cX11_arePair 24 = .ok (.ireturn, 1) := by decide +kernel
theorem dX11_debt_0 : decode cX11_debt 0 = .ok (.iload_n 1, 1) := by decide +kernel
theorem dX11_debt_1 : decode cX11_debt 1 = .ok (.iload_n 2, 1) := by decide +kernel
theorem dX11_debt_2 : decode cX11_debt 2 = .ok (.invokestatic 84, 3) := by decide +kernel
theorem dX11_debt_5 : decode cX11_debt 5 = .ok (.ifCond .eq 12, 3) := by decide +kernel
theorem dX11_debt_8 : decode cX11_debt 8 = .ok (.iload_n 3, 1) := by decide +kernel
theorem dX11_debt_9 : decode cX11_debt 9 = .ok (.bipush 7, 2) := by decide +kernel
theorem dX11_debt_11 : decode cX11_debt 11 = .ok (.invokestatic 73, 3) := by decide +kernel
theorem dX11_debt_14 : decode cX11_debt 14 = .ok (.ifCond .ne 5, 3) := by decide +kernel
theorem dX11_debt_17 : decode cX11_debt 17 = .ok (.iconst 0, 1) := by decide +kernel
theorem dX11_debt_18 : decode cX11_debt 18 = .ok (.ireturn, 1) := by decide +kernel
theorem dX11_debt_19 : decode cX11_debt 19 = .ok (.aload_n 0, 1) := by decide +kernel
theorem dX11_debt_20 : decode cX11_debt 20 = .ok (.getfield 34, 3) := by decide +kernel
theorem dX11_debt_23 : decode cX11_debt 23 = .ok (.bipush 10, 2) := by decide +kernel
theorem dX11_debt_25 : decode cX11_debt 25 = .ok (.iconst 3, 1) := by decide +kernel
theorem dX11_debt_26 : decode cX11_debt 26 = .ok (.iload_n 1, 1) := by decide +kernel
theorem dX11_debt_27 : decode cX11_debt 27 = .ok (.imul, 1) := by decide +kernel
theorem dX11_debt_28 : decode cX11_debt 28 = .ok (.iadd, 1) := by decide +kernel
theorem dX11_debt_29 : decode cX11_debt 29 = .ok (.iload_n 2, 1) := by decide +kernel
theorem dX11_debt_30 : decode cX11_debt 30 = .ok (.iadd, 1) := by decide +kernel
theorem dX11_debt_31 : decode cX11_debt 31 = .ok (.iload_n 3, 1) := by decide +kernel
theorem dX11_debt_32 : decode cX11_debt 32 = .ok (.invokevirtual 77, 3) := by decide +kernel
theorem dX11_debt_35 : decode cX11_debt 35 = .ok (.aload_n 0, 1) := by decide +kernel
theorem dX11_debt_36 : decode cX11_debt 36 = .ok (.getfield 52, 3) := by decide +kernel
theorem dX11_debt_39 : decode cX11_debt 39 = .ok (.invokevirtual 81, 3) := by decide +kernel
theorem dX11_debt_42 : decode cX11_debt 42 = .ok (.iconst 1, 1) := by decide +kernel
theorem dX11_debt_43 : decode cX11_debt 43 = .ok (.ireturn, 1) := by decide +kernel
theorem dX12_debt_0 : decode cX12_debt 0 = .ok (.iload_n 1, 1) := by decide +kernel
theorem dX12_debt_1 : decode cX12_debt 1 = .ok (.invokestatic 170, 3) := by decide +kernel
theorem dX12_debt_4 : decode cX12_debt 4 = .ok (.ifCond .eq 25, 3) := by decide +kernel
theorem dX12_debt_7 : decode cX12_debt 7 = .ok (.iload_n 2, 1) := by decide +kernel
theorem dX12_debt_8 : decode cX12_debt 8 = .ok (.invokestatic 170, 3) := by decide +kernel
theorem dX12_debt_11 : decode cX12_debt 11 = .ok (.ifCond .eq 18, 3) := by decide +kernel
theorem dX12_debt_14 : decode cX12_debt 14 = .ok (.iload_n 1, 1) := by decide +kernel
theorem dX12_debt_15 : decode cX12_debt 15 = .ok (.iload_n 2, 1) := by decide +kernel
theorem dX12_debt_16 : decode cX12_debt 16 = .ok (.if_icmp .eq 13, 3) := by decide +kernel
theorem dX12_debt_19 : decode cX12_debt 19 = .ok (.iload_n 3, 1) := by decide +kernel
theorem dX12_debt_20 : decode cX12_debt 20 = .ok (.iconst 0, 1) := by decide +kernel
theorem dX12_debt_21 : decode cX12_debt 21 = .ok (.bipush 7, 2) := by decide +kernel
theorem dX12_debt_23 : decode cX12_debt 23 = .ok (.invokestatic 1, 3) := by decide +kernel
theorem dX12_debt_26 : decode cX12_debt 26 = .ok (.ifCond .ne 5, 3) := by decide +kernel
theorem dX12_debt_29 : decode cX12_debt 29 = .ok (.iconst 0, 1) := by decide +kernel
theorem dX12_debt_30 : decode cX12_debt 30 = .ok (.ireturn, 1) := by decide +kernel
theorem dX12_debt_31 : decode cX12_debt 31 = .ok (.aload_n 0, 1) := by decide +kernel
theorem dX12_debt_32 : decode cX12_debt 32 = .ok (.aload_n 0, 1) := by decide +kernel
theorem dX12_debt_33 : decode cX12_debt 33 = .ok (.getfield 153, 3) := by decide +kernel
theorem dX12_debt_36 : decode cX12_debt 36 = .ok (.invokevirtual 174, 3) := by decide +kernel
theorem dX12_debt_39 : decode cX12_debt 39 = .ok (.aload_n 0, 1) := by decide +kernel
theorem dX12_debt_40 : decode cX12_debt 40 = .ok (.getfield 17, 3) := by decide +kernel
theorem dX12_debt_43 : decode cX12_debt 43 = .ok (.iconst 3, 1) := by decide +kernel
theorem dX12_debt_44 : decode cX12_debt 44 = .ok (.iload_n 1, 1) := by decide +kernel
theorem dX12_debt_45 : decode cX12_debt 45 = .ok (.imul, 1) := by decide +kernel
theorem dX12_debt_46 : decode cX12_debt 46 = .ok (.iload_n 2, 1) := by decide +kernel
theorem dX12_debt_47 : decode cX12_debt 47 = .ok (.iadd, 1) := by decide +kernel
theorem dX12_debt_48 : decode cX12_debt 48 = .ok (.iload_n 3, 1) := by decide +kernel
theorem dX12_debt_49 : decode cX12_debt 49 = .ok (.iastore, 1) := by decide +kernel
theorem dX12_debt_50 : decode cX12_debt 50 = .ok (.aload_n 0, 1) := by decide +kernel
theorem dX12_debt_51 : decode cX12_debt 51 = .ok (.invokevirtual 178, 3) := by decide +kernel
theorem dX12_debt_54 : decode cX12_debt 54 = .ok (.ireturn, 1) := by decide +kernel
set_option maxHeartbeats 4000000 in
set_option maxRecDepth 100000 in
theorem c_X11_arePair {l : Launch} {D : va_G} {cy : Nat → ClassId} {T0 tB tE : Nat} {a : Nat → Nat} {rw : Nat → Option Nat} (S : GS) (p0 : Int32) (p1 : Int32)  (hr_p0 : (-2147483648) ≤ p0.toInt ∧ p0.toInt ≤ (-1)) : Ct l D cy T0 tB tE yX11_arePair cX11_arePair 2 (some .boolean) 1 20 0 0 (cw cy tE a rw S) [.int p0, .int p1] (QI D (U := GS) (fun r u => 0 = r ∧ S = u) (cw cy tE a rw)) := by
  refine Ct.ofZ RX11 "arePair" [(0, .int p0), (1, .int p1)] rfl rfl rfl rfl (Nat.le_of_ble_eq_true rfl) ?_
  intro p e R s m args below meth c A b
  refine z_iload_n b dX11_arePair_0 rfl rfl ?_
  refine z_calli b (z_runS (As := [.int p0]) (st := []) b (c_X11_isPerson S p0 ⟨by omega, by omega⟩) cf_X11_isPerson wm_X11_69 ws_X11_isPerson dX11_arePair_1 rfl (Nat.le_of_ble_eq_true rfl) ⟨by decide, by decide, by decide, by decide⟩) (fun r769 u770 h768 => ?_)
  obtain ⟨rfl, rfl⟩ := h768
  refine z_if_eq_t (tgt := 23) b dX11_arePair_4 (by decide) (by decide) ?_
  refine z_iconst (v := 0) b dX11_arePair_23 (by decide) ?_
  exact z_zret (u := S) b rfl (by decide) dX11_arePair_24 ⟨rfl, rfl⟩ rfl (by decide) (by decide)

set_option maxHeartbeats 4000000 in
set_option maxRecDepth 100000 in
theorem c_X11_debt {l : Launch} {D : va_G} {cy : Nat → ClassId} {T0 tB tE : Nat} {a : Nat → Nat} {rw : Nat → Option Nat} (S : GS) (p0 : Int32) (p1 : Int32) (p2 : Int32)  (hr_p0 : (-2147483648) ≤ p0.toInt ∧ p0.toInt ≤ (-1)) : Ct l D cy T0 tB tE yX11_debt cX11_debt 4 (some .boolean) 2 41 0 0 (cw cy tE a rw S) [.ref (a 0), .int p0, .int p1, .int p2] (QI D (U := GS) (fun r u => 0 = r ∧ S = u) (cw cy tE a rw)) := by
  refine Ct.ofZ RX11 "debt" [(0, .ref (a 0)), (1, .int p0), (2, .int p1), (3, .int p2)] rfl rfl rfl rfl (Nat.le_of_ble_eq_true rfl) ?_
  intro p e R s m args below meth c A b
  refine z_iload_n b dX11_debt_0 rfl rfl ?_
  refine z_iload_n b dX11_debt_1 rfl rfl ?_
  refine z_calli b (z_runS (As := [.int p0, .int p1]) (st := []) b (c_X11_arePair S p0 p1 ⟨by omega, by omega⟩) cf_X11_arePair wm_X11_84 ws_X11_arePair dX11_debt_2 rfl (Nat.le_of_ble_eq_true rfl) ⟨by decide, by decide, by decide, by decide⟩) (fun r772 u773 h771 => ?_)
  obtain ⟨rfl, rfl⟩ := h771
  refine z_if_eq_t (tgt := 17) b dX11_debt_5 (by decide) (by decide) ?_
  refine z_iconst (v := 0) b dX11_debt_17 (by decide) ?_
  exact z_zret (u := S) b rfl (by decide) dX11_debt_18 ⟨rfl, rfl⟩ rfl (by decide) (by decide)

set_option maxHeartbeats 4000000 in
set_option maxRecDepth 100000 in
theorem c_X12_debt {l : Launch} {D : va_G} {cy : Nat → ClassId} {T0 tB tE : Nat} {a : Nat → Nat} (S : GS) (p0 : Int32) (p1 : Int32) (p2 : Int32)  (hr_p0 : (-2147483648) ≤ p0.toInt ∧ p0.toInt ≤ (-1)) : Ct l D cy T0 tB tE yX12_debt cX12_debt 4 (some .boolean) 2 42 0 0 (mw cy a S) [.ref (a 0), .int p0, .int p1, .int p2] (QI D (U := GS) (fun r u => 0 = r ∧ S = u) (mw cy a)) := by
  refine Ct.ofZ RX12 "debt" [(0, .ref (a 0)), (1, .int p0), (2, .int p1), (3, .int p2)] rfl rfl rfl rfl (Nat.le_of_ble_eq_true rfl) ?_
  intro p e R s m args below meth c A b
  refine z_iload_n b dX12_debt_0 rfl rfl ?_
  refine z_calli b (z_runS (As := [.int p0]) (st := []) b (c_X12_isOne S p0 ⟨by omega, by omega⟩) cf_X12_isOne wm_X12_170 ws_X12_isOne dX12_debt_1 rfl (Nat.le_of_ble_eq_true rfl) ⟨by decide, by decide, by decide, by decide⟩) (fun r775 u776 h774 => ?_)
  obtain ⟨rfl, rfl⟩ := h774
  refine z_if_eq_t (tgt := 29) b dX12_debt_4 (by decide) (by decide) ?_
  refine z_iconst (v := 0) b dX12_debt_29 (by decide) ?_
  exact z_zret (u := S) b rfl (by decide) dX12_debt_30 ⟨rfl, rfl⟩ rfl (by decide) (by decide)

set_option maxHeartbeats 4000000 in
set_option maxRecDepth 100000 in
theorem c_X11_arePair_2 {l : Launch} {D : va_G} {cy : Nat → ClassId} {T0 tB tE : Nat} {a : Nat → Nat} {rw : Nat → Option Nat} (S : GS) (p0 : Int32) (p1 : Int32)  (hr_p0 : 3 ≤ p0.toInt ∧ p0.toInt ≤ 2147483647) : Ct l D cy T0 tB tE yX11_arePair cX11_arePair 2 (some .boolean) 1 20 0 0 (cw cy tE a rw S) [.int p0, .int p1] (QI D (U := GS) (fun r u => 0 = r ∧ S = u) (cw cy tE a rw)) := by
  refine Ct.ofZ RX11 "arePair" [(0, .int p0), (1, .int p1)] rfl rfl rfl rfl (Nat.le_of_ble_eq_true rfl) ?_
  intro p e R s m args below meth c A b
  refine z_iload_n b dX11_arePair_0 rfl rfl ?_
  refine z_calli b (z_runS (As := [.int p0]) (st := []) b (c_X11_isPerson_2 S p0 ⟨by omega, by omega⟩) cf_X11_isPerson wm_X11_69 ws_X11_isPerson dX11_arePair_1 rfl (Nat.le_of_ble_eq_true rfl) ⟨by decide, by decide, by decide, by decide⟩) (fun r778 u779 h777 => ?_)
  obtain ⟨rfl, rfl⟩ := h777
  refine z_if_eq_t (tgt := 23) b dX11_arePair_4 (by decide) (by decide) ?_
  refine z_iconst (v := 0) b dX11_arePair_23 (by decide) ?_
  exact z_zret (u := S) b rfl (by decide) dX11_arePair_24 ⟨rfl, rfl⟩ rfl (by decide) (by decide)

set_option maxHeartbeats 4000000 in
set_option maxRecDepth 100000 in
theorem c_X11_debt_2 {l : Launch} {D : va_G} {cy : Nat → ClassId} {T0 tB tE : Nat} {a : Nat → Nat} {rw : Nat → Option Nat} (S : GS) (p0 : Int32) (p1 : Int32) (p2 : Int32)  (hr_p0 : 3 ≤ p0.toInt ∧ p0.toInt ≤ 2147483647) : Ct l D cy T0 tB tE yX11_debt cX11_debt 4 (some .boolean) 2 41 0 0 (cw cy tE a rw S) [.ref (a 0), .int p0, .int p1, .int p2] (QI D (U := GS) (fun r u => 0 = r ∧ S = u) (cw cy tE a rw)) := by
  refine Ct.ofZ RX11 "debt" [(0, .ref (a 0)), (1, .int p0), (2, .int p1), (3, .int p2)] rfl rfl rfl rfl (Nat.le_of_ble_eq_true rfl) ?_
  intro p e R s m args below meth c A b
  refine z_iload_n b dX11_debt_0 rfl rfl ?_
  refine z_iload_n b dX11_debt_1 rfl rfl ?_
  refine z_calli b (z_runS (As := [.int p0, .int p1]) (st := []) b (c_X11_arePair_2 S p0 p1 ⟨by omega, by omega⟩) cf_X11_arePair wm_X11_84 ws_X11_arePair dX11_debt_2 rfl (Nat.le_of_ble_eq_true rfl) ⟨by decide, by decide, by decide, by decide⟩) (fun r781 u782 h780 => ?_)
  obtain ⟨rfl, rfl⟩ := h780
  refine z_if_eq_t (tgt := 17) b dX11_debt_5 (by decide) (by decide) ?_
  refine z_iconst (v := 0) b dX11_debt_17 (by decide) ?_
  exact z_zret (u := S) b rfl (by decide) dX11_debt_18 ⟨rfl, rfl⟩ rfl (by decide) (by decide)

set_option maxHeartbeats 4000000 in
set_option maxRecDepth 100000 in
theorem c_X12_debt_2 {l : Launch} {D : va_G} {cy : Nat → ClassId} {T0 tB tE : Nat} {a : Nat → Nat} (S : GS) (p0 : Int32) (p1 : Int32) (p2 : Int32)  (hr_p0 : 3 ≤ p0.toInt ∧ p0.toInt ≤ 2147483647) : Ct l D cy T0 tB tE yX12_debt cX12_debt 4 (some .boolean) 2 42 0 0 (mw cy a S) [.ref (a 0), .int p0, .int p1, .int p2] (QI D (U := GS) (fun r u => 0 = r ∧ S = u) (mw cy a)) := by
  refine Ct.ofZ RX12 "debt" [(0, .ref (a 0)), (1, .int p0), (2, .int p1), (3, .int p2)] rfl rfl rfl rfl (Nat.le_of_ble_eq_true rfl) ?_
  intro p e R s m args below meth c A b
  refine z_iload_n b dX12_debt_0 rfl rfl ?_
  refine z_calli b (z_runS (As := [.int p0]) (st := []) b (c_X12_isOne_2 S p0 ⟨by omega, by omega⟩) cf_X12_isOne wm_X12_170 ws_X12_isOne dX12_debt_1 rfl (Nat.le_of_ble_eq_true rfl) ⟨by decide, by decide, by decide, by decide⟩) (fun r784 u785 h783 => ?_)
  obtain ⟨rfl, rfl⟩ := h783
  refine z_if_eq_t (tgt := 29) b dX12_debt_4 (by decide) (by decide) ?_
  refine z_iconst (v := 0) b dX12_debt_29 (by decide) ?_
  exact z_zret (u := S) b rfl (by decide) dX12_debt_30 ⟨rfl, rfl⟩ rfl (by decide) (by decide)

set_option maxHeartbeats 4000000 in
set_option maxRecDepth 100000 in
theorem c_X11_arePair_3 {l : Launch} {D : va_G} {cy : Nat → ClassId} {T0 tB tE : Nat} {a : Nat → Nat} {rw : Nat → Option Nat} (S : GS) (p0 : Int32)  (hr_p0 : (-2147483648) ≤ p0.toInt ∧ p0.toInt ≤ (-1)) : Ct l D cy T0 tB tE yX11_arePair cX11_arePair 2 (some .boolean) 1 20 0 0 (cw cy tE a rw S) [.int 0, .int p0] (QI D (U := GS) (fun r u => 0 = r ∧ S = u) (cw cy tE a rw)) := by
  refine Ct.ofZ RX11 "arePair" [(0, .int 0), (1, .int p0)] rfl rfl rfl rfl (Nat.le_of_ble_eq_true rfl) ?_
  intro p e R s m args below meth c A b
  refine z_iload_n b dX11_arePair_0 rfl rfl ?_
  refine z_calli b (z_runS (As := [.int 0]) (st := []) b (c_X11_isPerson_3 S ) cf_X11_isPerson wm_X11_69 ws_X11_isPerson dX11_arePair_1 rfl (Nat.le_of_ble_eq_true rfl) ⟨by decide, by decide, by decide, by decide⟩) (fun r787 u788 h786 => ?_)
  obtain ⟨rfl, rfl⟩ := h786
  refine z_if_eq_f (tgt := 23) b dX11_arePair_4 (by decide) (by decide) ?_
  refine z_iload_n b dX11_arePair_7 rfl rfl ?_
  refine z_calli b (z_runS (As := [.int p0]) (st := []) b (c_X11_isPerson S p0 ⟨by omega, by omega⟩) cf_X11_isPerson wm_X11_69 ws_X11_isPerson dX11_arePair_8 rfl (Nat.le_of_ble_eq_true rfl) ⟨by decide, by decide, by decide, by decide⟩) (fun r790 u791 h789 => ?_)
  obtain ⟨rfl, rfl⟩ := h789
  refine z_if_eq_t (tgt := 23) b dX11_arePair_11 (by decide) (by decide) ?_
  refine z_iconst (v := 0) b dX11_arePair_23 (by decide) ?_
  exact z_zret (u := S) b rfl (by decide) dX11_arePair_24 ⟨rfl, rfl⟩ rfl (by decide) (by decide)

set_option maxHeartbeats 4000000 in
set_option maxRecDepth 100000 in
theorem c_X11_debt_3 {l : Launch} {D : va_G} {cy : Nat → ClassId} {T0 tB tE : Nat} {a : Nat → Nat} {rw : Nat → Option Nat} (S : GS) (p0 : Int32) (p1 : Int32)  (hr_p0 : (-2147483648) ≤ p0.toInt ∧ p0.toInt ≤ (-1)) : Ct l D cy T0 tB tE yX11_debt cX11_debt 4 (some .boolean) 2 41 0 0 (cw cy tE a rw S) [.ref (a 0), .int 0, .int p0, .int p1] (QI D (U := GS) (fun r u => 0 = r ∧ S = u) (cw cy tE a rw)) := by
  refine Ct.ofZ RX11 "debt" [(0, .ref (a 0)), (1, .int 0), (2, .int p0), (3, .int p1)] rfl rfl rfl rfl (Nat.le_of_ble_eq_true rfl) ?_
  intro p e R s m args below meth c A b
  refine z_iload_n b dX11_debt_0 rfl rfl ?_
  refine z_iload_n b dX11_debt_1 rfl rfl ?_
  refine z_calli b (z_runS (As := [.int 0, .int p0]) (st := []) b (c_X11_arePair_3 S p0 ⟨by omega, by omega⟩) cf_X11_arePair wm_X11_84 ws_X11_arePair dX11_debt_2 rfl (Nat.le_of_ble_eq_true rfl) ⟨by decide, by decide, by decide, by decide⟩) (fun r793 u794 h792 => ?_)
  obtain ⟨rfl, rfl⟩ := h792
  refine z_if_eq_t (tgt := 17) b dX11_debt_5 (by decide) (by decide) ?_
  refine z_iconst (v := 0) b dX11_debt_17 (by decide) ?_
  exact z_zret (u := S) b rfl (by decide) dX11_debt_18 ⟨rfl, rfl⟩ rfl (by decide) (by decide)

set_option maxHeartbeats 4000000 in
set_option maxRecDepth 100000 in
theorem c_X12_debt_3 {l : Launch} {D : va_G} {cy : Nat → ClassId} {T0 tB tE : Nat} {a : Nat → Nat} (S : GS) (p0 : Int32) (p1 : Int32)  (hr_p0 : (-2147483648) ≤ p0.toInt ∧ p0.toInt ≤ (-1)) : Ct l D cy T0 tB tE yX12_debt cX12_debt 4 (some .boolean) 2 42 0 0 (mw cy a S) [.ref (a 0), .int 0, .int p0, .int p1] (QI D (U := GS) (fun r u => 0 = r ∧ S = u) (mw cy a)) := by
  refine Ct.ofZ RX12 "debt" [(0, .ref (a 0)), (1, .int 0), (2, .int p0), (3, .int p1)] rfl rfl rfl rfl (Nat.le_of_ble_eq_true rfl) ?_
  intro p e R s m args below meth c A b
  refine z_iload_n b dX12_debt_0 rfl rfl ?_
  refine z_calli b (z_runS (As := [.int 0]) (st := []) b (c_X12_isOne_3 S ) cf_X12_isOne wm_X12_170 ws_X12_isOne dX12_debt_1 rfl (Nat.le_of_ble_eq_true rfl) ⟨by decide, by decide, by decide, by decide⟩) (fun r796 u797 h795 => ?_)
  obtain ⟨rfl, rfl⟩ := h795
  refine z_if_eq_f (tgt := 29) b dX12_debt_4 (by decide) (by decide) ?_
  refine z_iload_n b dX12_debt_7 rfl rfl ?_
  refine z_calli b (z_runS (As := [.int p0]) (st := []) b (c_X12_isOne S p0 ⟨by omega, by omega⟩) cf_X12_isOne wm_X12_170 ws_X12_isOne dX12_debt_8 rfl (Nat.le_of_ble_eq_true rfl) ⟨by decide, by decide, by decide, by decide⟩) (fun r799 u800 h798 => ?_)
  obtain ⟨rfl, rfl⟩ := h798
  refine z_if_eq_t (tgt := 29) b dX12_debt_11 (by decide) (by decide) ?_
  refine z_iconst (v := 0) b dX12_debt_29 (by decide) ?_
  exact z_zret (u := S) b rfl (by decide) dX12_debt_30 ⟨rfl, rfl⟩ rfl (by decide) (by decide)

set_option maxHeartbeats 4000000 in
set_option maxRecDepth 100000 in
theorem c_X11_arePair_4 {l : Launch} {D : va_G} {cy : Nat → ClassId} {T0 tB tE : Nat} {a : Nat → Nat} {rw : Nat → Option Nat} (S : GS) (p0 : Int32)  (hr_p0 : 3 ≤ p0.toInt ∧ p0.toInt ≤ 2147483647) : Ct l D cy T0 tB tE yX11_arePair cX11_arePair 2 (some .boolean) 1 20 0 0 (cw cy tE a rw S) [.int 0, .int p0] (QI D (U := GS) (fun r u => 0 = r ∧ S = u) (cw cy tE a rw)) := by
  refine Ct.ofZ RX11 "arePair" [(0, .int 0), (1, .int p0)] rfl rfl rfl rfl (Nat.le_of_ble_eq_true rfl) ?_
  intro p e R s m args below meth c A b
  refine z_iload_n b dX11_arePair_0 rfl rfl ?_
  refine z_calli b (z_runS (As := [.int 0]) (st := []) b (c_X11_isPerson_3 S ) cf_X11_isPerson wm_X11_69 ws_X11_isPerson dX11_arePair_1 rfl (Nat.le_of_ble_eq_true rfl) ⟨by decide, by decide, by decide, by decide⟩) (fun r802 u803 h801 => ?_)
  obtain ⟨rfl, rfl⟩ := h801
  refine z_if_eq_f (tgt := 23) b dX11_arePair_4 (by decide) (by decide) ?_
  refine z_iload_n b dX11_arePair_7 rfl rfl ?_
  refine z_calli b (z_runS (As := [.int p0]) (st := []) b (c_X11_isPerson_2 S p0 ⟨by omega, by omega⟩) cf_X11_isPerson wm_X11_69 ws_X11_isPerson dX11_arePair_8 rfl (Nat.le_of_ble_eq_true rfl) ⟨by decide, by decide, by decide, by decide⟩) (fun r805 u806 h804 => ?_)
  obtain ⟨rfl, rfl⟩ := h804
  refine z_if_eq_t (tgt := 23) b dX11_arePair_11 (by decide) (by decide) ?_
  refine z_iconst (v := 0) b dX11_arePair_23 (by decide) ?_
  exact z_zret (u := S) b rfl (by decide) dX11_arePair_24 ⟨rfl, rfl⟩ rfl (by decide) (by decide)

set_option maxHeartbeats 4000000 in
set_option maxRecDepth 100000 in
theorem c_X11_debt_4 {l : Launch} {D : va_G} {cy : Nat → ClassId} {T0 tB tE : Nat} {a : Nat → Nat} {rw : Nat → Option Nat} (S : GS) (p0 : Int32) (p1 : Int32)  (hr_p0 : 3 ≤ p0.toInt ∧ p0.toInt ≤ 2147483647) : Ct l D cy T0 tB tE yX11_debt cX11_debt 4 (some .boolean) 2 41 0 0 (cw cy tE a rw S) [.ref (a 0), .int 0, .int p0, .int p1] (QI D (U := GS) (fun r u => 0 = r ∧ S = u) (cw cy tE a rw)) := by
  refine Ct.ofZ RX11 "debt" [(0, .ref (a 0)), (1, .int 0), (2, .int p0), (3, .int p1)] rfl rfl rfl rfl (Nat.le_of_ble_eq_true rfl) ?_
  intro p e R s m args below meth c A b
  refine z_iload_n b dX11_debt_0 rfl rfl ?_
  refine z_iload_n b dX11_debt_1 rfl rfl ?_
  refine z_calli b (z_runS (As := [.int 0, .int p0]) (st := []) b (c_X11_arePair_4 S p0 ⟨by omega, by omega⟩) cf_X11_arePair wm_X11_84 ws_X11_arePair dX11_debt_2 rfl (Nat.le_of_ble_eq_true rfl) ⟨by decide, by decide, by decide, by decide⟩) (fun r808 u809 h807 => ?_)
  obtain ⟨rfl, rfl⟩ := h807
  refine z_if_eq_t (tgt := 17) b dX11_debt_5 (by decide) (by decide) ?_
  refine z_iconst (v := 0) b dX11_debt_17 (by decide) ?_
  exact z_zret (u := S) b rfl (by decide) dX11_debt_18 ⟨rfl, rfl⟩ rfl (by decide) (by decide)

set_option maxHeartbeats 4000000 in
set_option maxRecDepth 100000 in
theorem c_X12_debt_4 {l : Launch} {D : va_G} {cy : Nat → ClassId} {T0 tB tE : Nat} {a : Nat → Nat} (S : GS) (p0 : Int32) (p1 : Int32)  (hr_p0 : 3 ≤ p0.toInt ∧ p0.toInt ≤ 2147483647) : Ct l D cy T0 tB tE yX12_debt cX12_debt 4 (some .boolean) 2 42 0 0 (mw cy a S) [.ref (a 0), .int 0, .int p0, .int p1] (QI D (U := GS) (fun r u => 0 = r ∧ S = u) (mw cy a)) := by
  refine Ct.ofZ RX12 "debt" [(0, .ref (a 0)), (1, .int 0), (2, .int p0), (3, .int p1)] rfl rfl rfl rfl (Nat.le_of_ble_eq_true rfl) ?_
  intro p e R s m args below meth c A b
  refine z_iload_n b dX12_debt_0 rfl rfl ?_
  refine z_calli b (z_runS (As := [.int 0]) (st := []) b (c_X12_isOne_3 S ) cf_X12_isOne wm_X12_170 ws_X12_isOne dX12_debt_1 rfl (Nat.le_of_ble_eq_true rfl) ⟨by decide, by decide, by decide, by decide⟩) (fun r811 u812 h810 => ?_)
  obtain ⟨rfl, rfl⟩ := h810
  refine z_if_eq_f (tgt := 29) b dX12_debt_4 (by decide) (by decide) ?_
  refine z_iload_n b dX12_debt_7 rfl rfl ?_
  refine z_calli b (z_runS (As := [.int p0]) (st := []) b (c_X12_isOne_2 S p0 ⟨by omega, by omega⟩) cf_X12_isOne wm_X12_170 ws_X12_isOne dX12_debt_8 rfl (Nat.le_of_ble_eq_true rfl) ⟨by decide, by decide, by decide, by decide⟩) (fun r814 u815 h813 => ?_)
  obtain ⟨rfl, rfl⟩ := h813
  refine z_if_eq_t (tgt := 29) b dX12_debt_11 (by decide) (by decide) ?_
  refine z_iconst (v := 0) b dX12_debt_29 (by decide) ?_
  exact z_zret (u := S) b rfl (by decide) dX12_debt_30 ⟨rfl, rfl⟩ rfl (by decide) (by decide)

set_option maxHeartbeats 4000000 in
set_option maxRecDepth 100000 in
theorem c_X11_arePair_5 {l : Launch} {D : va_G} {cy : Nat → ClassId} {T0 tB tE : Nat} {a : Nat → Nat} {rw : Nat → Option Nat} (S : GS) (p0 : Int32)  (hr_p0 : (-2147483648) ≤ p0.toInt ∧ p0.toInt ≤ (-1)) : Ct l D cy T0 tB tE yX11_arePair cX11_arePair 2 (some .boolean) 1 20 0 0 (cw cy tE a rw S) [.int 1, .int p0] (QI D (U := GS) (fun r u => 0 = r ∧ S = u) (cw cy tE a rw)) := by
  refine Ct.ofZ RX11 "arePair" [(0, .int 1), (1, .int p0)] rfl rfl rfl rfl (Nat.le_of_ble_eq_true rfl) ?_
  intro p e R s m args below meth c A b
  refine z_iload_n b dX11_arePair_0 rfl rfl ?_
  refine z_calli b (z_runS (As := [.int 1]) (st := []) b (c_X11_isPerson_4 S ) cf_X11_isPerson wm_X11_69 ws_X11_isPerson dX11_arePair_1 rfl (Nat.le_of_ble_eq_true rfl) ⟨by decide, by decide, by decide, by decide⟩) (fun r817 u818 h816 => ?_)
  obtain ⟨rfl, rfl⟩ := h816
  refine z_if_eq_f (tgt := 23) b dX11_arePair_4 (by decide) (by decide) ?_
  refine z_iload_n b dX11_arePair_7 rfl rfl ?_
  refine z_calli b (z_runS (As := [.int p0]) (st := []) b (c_X11_isPerson S p0 ⟨by omega, by omega⟩) cf_X11_isPerson wm_X11_69 ws_X11_isPerson dX11_arePair_8 rfl (Nat.le_of_ble_eq_true rfl) ⟨by decide, by decide, by decide, by decide⟩) (fun r820 u821 h819 => ?_)
  obtain ⟨rfl, rfl⟩ := h819
  refine z_if_eq_t (tgt := 23) b dX11_arePair_11 (by decide) (by decide) ?_
  refine z_iconst (v := 0) b dX11_arePair_23 (by decide) ?_
  exact z_zret (u := S) b rfl (by decide) dX11_arePair_24 ⟨rfl, rfl⟩ rfl (by decide) (by decide)

set_option maxHeartbeats 4000000 in
set_option maxRecDepth 100000 in
theorem c_X11_debt_5 {l : Launch} {D : va_G} {cy : Nat → ClassId} {T0 tB tE : Nat} {a : Nat → Nat} {rw : Nat → Option Nat} (S : GS) (p0 : Int32) (p1 : Int32)  (hr_p0 : (-2147483648) ≤ p0.toInt ∧ p0.toInt ≤ (-1)) : Ct l D cy T0 tB tE yX11_debt cX11_debt 4 (some .boolean) 2 41 0 0 (cw cy tE a rw S) [.ref (a 0), .int 1, .int p0, .int p1] (QI D (U := GS) (fun r u => 0 = r ∧ S = u) (cw cy tE a rw)) := by
  refine Ct.ofZ RX11 "debt" [(0, .ref (a 0)), (1, .int 1), (2, .int p0), (3, .int p1)] rfl rfl rfl rfl (Nat.le_of_ble_eq_true rfl) ?_
  intro p e R s m args below meth c A b
  refine z_iload_n b dX11_debt_0 rfl rfl ?_
  refine z_iload_n b dX11_debt_1 rfl rfl ?_
  refine z_calli b (z_runS (As := [.int 1, .int p0]) (st := []) b (c_X11_arePair_5 S p0 ⟨by omega, by omega⟩) cf_X11_arePair wm_X11_84 ws_X11_arePair dX11_debt_2 rfl (Nat.le_of_ble_eq_true rfl) ⟨by decide, by decide, by decide, by decide⟩) (fun r823 u824 h822 => ?_)
  obtain ⟨rfl, rfl⟩ := h822
  refine z_if_eq_t (tgt := 17) b dX11_debt_5 (by decide) (by decide) ?_
  refine z_iconst (v := 0) b dX11_debt_17 (by decide) ?_
  exact z_zret (u := S) b rfl (by decide) dX11_debt_18 ⟨rfl, rfl⟩ rfl (by decide) (by decide)

set_option maxHeartbeats 4000000 in
set_option maxRecDepth 100000 in
theorem c_X12_debt_5 {l : Launch} {D : va_G} {cy : Nat → ClassId} {T0 tB tE : Nat} {a : Nat → Nat} (S : GS) (p0 : Int32) (p1 : Int32)  (hr_p0 : (-2147483648) ≤ p0.toInt ∧ p0.toInt ≤ (-1)) : Ct l D cy T0 tB tE yX12_debt cX12_debt 4 (some .boolean) 2 42 0 0 (mw cy a S) [.ref (a 0), .int 1, .int p0, .int p1] (QI D (U := GS) (fun r u => 0 = r ∧ S = u) (mw cy a)) := by
  refine Ct.ofZ RX12 "debt" [(0, .ref (a 0)), (1, .int 1), (2, .int p0), (3, .int p1)] rfl rfl rfl rfl (Nat.le_of_ble_eq_true rfl) ?_
  intro p e R s m args below meth c A b
  refine z_iload_n b dX12_debt_0 rfl rfl ?_
  refine z_calli b (z_runS (As := [.int 1]) (st := []) b (c_X12_isOne_4 S ) cf_X12_isOne wm_X12_170 ws_X12_isOne dX12_debt_1 rfl (Nat.le_of_ble_eq_true rfl) ⟨by decide, by decide, by decide, by decide⟩) (fun r826 u827 h825 => ?_)
  obtain ⟨rfl, rfl⟩ := h825
  refine z_if_eq_f (tgt := 29) b dX12_debt_4 (by decide) (by decide) ?_
  refine z_iload_n b dX12_debt_7 rfl rfl ?_
  refine z_calli b (z_runS (As := [.int p0]) (st := []) b (c_X12_isOne S p0 ⟨by omega, by omega⟩) cf_X12_isOne wm_X12_170 ws_X12_isOne dX12_debt_8 rfl (Nat.le_of_ble_eq_true rfl) ⟨by decide, by decide, by decide, by decide⟩) (fun r829 u830 h828 => ?_)
  obtain ⟨rfl, rfl⟩ := h828
  refine z_if_eq_t (tgt := 29) b dX12_debt_11 (by decide) (by decide) ?_
  refine z_iconst (v := 0) b dX12_debt_29 (by decide) ?_
  exact z_zret (u := S) b rfl (by decide) dX12_debt_30 ⟨rfl, rfl⟩ rfl (by decide) (by decide)

set_option maxHeartbeats 4000000 in
set_option maxRecDepth 100000 in
theorem c_X11_arePair_6 {l : Launch} {D : va_G} {cy : Nat → ClassId} {T0 tB tE : Nat} {a : Nat → Nat} {rw : Nat → Option Nat} (S : GS) (p0 : Int32)  (hr_p0 : 3 ≤ p0.toInt ∧ p0.toInt ≤ 2147483647) : Ct l D cy T0 tB tE yX11_arePair cX11_arePair 2 (some .boolean) 1 20 0 0 (cw cy tE a rw S) [.int 1, .int p0] (QI D (U := GS) (fun r u => 0 = r ∧ S = u) (cw cy tE a rw)) := by
  refine Ct.ofZ RX11 "arePair" [(0, .int 1), (1, .int p0)] rfl rfl rfl rfl (Nat.le_of_ble_eq_true rfl) ?_
  intro p e R s m args below meth c A b
  refine z_iload_n b dX11_arePair_0 rfl rfl ?_
  refine z_calli b (z_runS (As := [.int 1]) (st := []) b (c_X11_isPerson_4 S ) cf_X11_isPerson wm_X11_69 ws_X11_isPerson dX11_arePair_1 rfl (Nat.le_of_ble_eq_true rfl) ⟨by decide, by decide, by decide, by decide⟩) (fun r832 u833 h831 => ?_)
  obtain ⟨rfl, rfl⟩ := h831
  refine z_if_eq_f (tgt := 23) b dX11_arePair_4 (by decide) (by decide) ?_
  refine z_iload_n b dX11_arePair_7 rfl rfl ?_
  refine z_calli b (z_runS (As := [.int p0]) (st := []) b (c_X11_isPerson_2 S p0 ⟨by omega, by omega⟩) cf_X11_isPerson wm_X11_69 ws_X11_isPerson dX11_arePair_8 rfl (Nat.le_of_ble_eq_true rfl) ⟨by decide, by decide, by decide, by decide⟩) (fun r835 u836 h834 => ?_)
  obtain ⟨rfl, rfl⟩ := h834
  refine z_if_eq_t (tgt := 23) b dX11_arePair_11 (by decide) (by decide) ?_
  refine z_iconst (v := 0) b dX11_arePair_23 (by decide) ?_
  exact z_zret (u := S) b rfl (by decide) dX11_arePair_24 ⟨rfl, rfl⟩ rfl (by decide) (by decide)

set_option maxHeartbeats 4000000 in
set_option maxRecDepth 100000 in
theorem c_X11_debt_6 {l : Launch} {D : va_G} {cy : Nat → ClassId} {T0 tB tE : Nat} {a : Nat → Nat} {rw : Nat → Option Nat} (S : GS) (p0 : Int32) (p1 : Int32)  (hr_p0 : 3 ≤ p0.toInt ∧ p0.toInt ≤ 2147483647) : Ct l D cy T0 tB tE yX11_debt cX11_debt 4 (some .boolean) 2 41 0 0 (cw cy tE a rw S) [.ref (a 0), .int 1, .int p0, .int p1] (QI D (U := GS) (fun r u => 0 = r ∧ S = u) (cw cy tE a rw)) := by
  refine Ct.ofZ RX11 "debt" [(0, .ref (a 0)), (1, .int 1), (2, .int p0), (3, .int p1)] rfl rfl rfl rfl (Nat.le_of_ble_eq_true rfl) ?_
  intro p e R s m args below meth c A b
  refine z_iload_n b dX11_debt_0 rfl rfl ?_
  refine z_iload_n b dX11_debt_1 rfl rfl ?_
  refine z_calli b (z_runS (As := [.int 1, .int p0]) (st := []) b (c_X11_arePair_6 S p0 ⟨by omega, by omega⟩) cf_X11_arePair wm_X11_84 ws_X11_arePair dX11_debt_2 rfl (Nat.le_of_ble_eq_true rfl) ⟨by decide, by decide, by decide, by decide⟩) (fun r838 u839 h837 => ?_)
  obtain ⟨rfl, rfl⟩ := h837
  refine z_if_eq_t (tgt := 17) b dX11_debt_5 (by decide) (by decide) ?_
  refine z_iconst (v := 0) b dX11_debt_17 (by decide) ?_
  exact z_zret (u := S) b rfl (by decide) dX11_debt_18 ⟨rfl, rfl⟩ rfl (by decide) (by decide)

set_option maxHeartbeats 4000000 in
set_option maxRecDepth 100000 in
theorem c_X12_debt_6 {l : Launch} {D : va_G} {cy : Nat → ClassId} {T0 tB tE : Nat} {a : Nat → Nat} (S : GS) (p0 : Int32) (p1 : Int32)  (hr_p0 : 3 ≤ p0.toInt ∧ p0.toInt ≤ 2147483647) : Ct l D cy T0 tB tE yX12_debt cX12_debt 4 (some .boolean) 2 42 0 0 (mw cy a S) [.ref (a 0), .int 1, .int p0, .int p1] (QI D (U := GS) (fun r u => 0 = r ∧ S = u) (mw cy a)) := by
  refine Ct.ofZ RX12 "debt" [(0, .ref (a 0)), (1, .int 1), (2, .int p0), (3, .int p1)] rfl rfl rfl rfl (Nat.le_of_ble_eq_true rfl) ?_
  intro p e R s m args below meth c A b
  refine z_iload_n b dX12_debt_0 rfl rfl ?_
  refine z_calli b (z_runS (As := [.int 1]) (st := []) b (c_X12_isOne_4 S ) cf_X12_isOne wm_X12_170 ws_X12_isOne dX12_debt_1 rfl (Nat.le_of_ble_eq_true rfl) ⟨by decide, by decide, by decide, by decide⟩) (fun r841 u842 h840 => ?_)
  obtain ⟨rfl, rfl⟩ := h840
  refine z_if_eq_f (tgt := 29) b dX12_debt_4 (by decide) (by decide) ?_
  refine z_iload_n b dX12_debt_7 rfl rfl ?_
  refine z_calli b (z_runS (As := [.int p0]) (st := []) b (c_X12_isOne_2 S p0 ⟨by omega, by omega⟩) cf_X12_isOne wm_X12_170 ws_X12_isOne dX12_debt_8 rfl (Nat.le_of_ble_eq_true rfl) ⟨by decide, by decide, by decide, by decide⟩) (fun r844 u845 h843 => ?_)
  obtain ⟨rfl, rfl⟩ := h843
  refine z_if_eq_t (tgt := 29) b dX12_debt_11 (by decide) (by decide) ?_
  refine z_iconst (v := 0) b dX12_debt_29 (by decide) ?_
  exact z_zret (u := S) b rfl (by decide) dX12_debt_30 ⟨rfl, rfl⟩ rfl (by decide) (by decide)

set_option maxHeartbeats 4000000 in
set_option maxRecDepth 100000 in
theorem c_X11_arePair_7 {l : Launch} {D : va_G} {cy : Nat → ClassId} {T0 tB tE : Nat} {a : Nat → Nat} {rw : Nat → Option Nat} (S : GS) (p0 : Int32)  (hr_p0 : (-2147483648) ≤ p0.toInt ∧ p0.toInt ≤ (-1)) : Ct l D cy T0 tB tE yX11_arePair cX11_arePair 2 (some .boolean) 1 20 0 0 (cw cy tE a rw S) [.int 2, .int p0] (QI D (U := GS) (fun r u => 0 = r ∧ S = u) (cw cy tE a rw)) := by
  refine Ct.ofZ RX11 "arePair" [(0, .int 2), (1, .int p0)] rfl rfl rfl rfl (Nat.le_of_ble_eq_true rfl) ?_
  intro p e R s m args below meth c A b
  refine z_iload_n b dX11_arePair_0 rfl rfl ?_
  refine z_calli b (z_runS (As := [.int 2]) (st := []) b (c_X11_isPerson_5 S ) cf_X11_isPerson wm_X11_69 ws_X11_isPerson dX11_arePair_1 rfl (Nat.le_of_ble_eq_true rfl) ⟨by decide, by decide, by decide, by decide⟩) (fun r847 u848 h846 => ?_)
  obtain ⟨rfl, rfl⟩ := h846
  refine z_if_eq_f (tgt := 23) b dX11_arePair_4 (by decide) (by decide) ?_
  refine z_iload_n b dX11_arePair_7 rfl rfl ?_
  refine z_calli b (z_runS (As := [.int p0]) (st := []) b (c_X11_isPerson S p0 ⟨by omega, by omega⟩) cf_X11_isPerson wm_X11_69 ws_X11_isPerson dX11_arePair_8 rfl (Nat.le_of_ble_eq_true rfl) ⟨by decide, by decide, by decide, by decide⟩) (fun r850 u851 h849 => ?_)
  obtain ⟨rfl, rfl⟩ := h849
  refine z_if_eq_t (tgt := 23) b dX11_arePair_11 (by decide) (by decide) ?_
  refine z_iconst (v := 0) b dX11_arePair_23 (by decide) ?_
  exact z_zret (u := S) b rfl (by decide) dX11_arePair_24 ⟨rfl, rfl⟩ rfl (by decide) (by decide)

set_option maxHeartbeats 4000000 in
set_option maxRecDepth 100000 in
theorem c_X11_debt_7 {l : Launch} {D : va_G} {cy : Nat → ClassId} {T0 tB tE : Nat} {a : Nat → Nat} {rw : Nat → Option Nat} (S : GS) (p0 : Int32) (p1 : Int32)  (hr_p0 : (-2147483648) ≤ p0.toInt ∧ p0.toInt ≤ (-1)) : Ct l D cy T0 tB tE yX11_debt cX11_debt 4 (some .boolean) 2 41 0 0 (cw cy tE a rw S) [.ref (a 0), .int 2, .int p0, .int p1] (QI D (U := GS) (fun r u => 0 = r ∧ S = u) (cw cy tE a rw)) := by
  refine Ct.ofZ RX11 "debt" [(0, .ref (a 0)), (1, .int 2), (2, .int p0), (3, .int p1)] rfl rfl rfl rfl (Nat.le_of_ble_eq_true rfl) ?_
  intro p e R s m args below meth c A b
  refine z_iload_n b dX11_debt_0 rfl rfl ?_
  refine z_iload_n b dX11_debt_1 rfl rfl ?_
  refine z_calli b (z_runS (As := [.int 2, .int p0]) (st := []) b (c_X11_arePair_7 S p0 ⟨by omega, by omega⟩) cf_X11_arePair wm_X11_84 ws_X11_arePair dX11_debt_2 rfl (Nat.le_of_ble_eq_true rfl) ⟨by decide, by decide, by decide, by decide⟩) (fun r853 u854 h852 => ?_)
  obtain ⟨rfl, rfl⟩ := h852
  refine z_if_eq_t (tgt := 17) b dX11_debt_5 (by decide) (by decide) ?_
  refine z_iconst (v := 0) b dX11_debt_17 (by decide) ?_
  exact z_zret (u := S) b rfl (by decide) dX11_debt_18 ⟨rfl, rfl⟩ rfl (by decide) (by decide)

set_option maxHeartbeats 4000000 in
set_option maxRecDepth 100000 in
theorem c_X12_debt_7 {l : Launch} {D : va_G} {cy : Nat → ClassId} {T0 tB tE : Nat} {a : Nat → Nat} (S : GS) (p0 : Int32) (p1 : Int32)  (hr_p0 : (-2147483648) ≤ p0.toInt ∧ p0.toInt ≤ (-1)) : Ct l D cy T0 tB tE yX12_debt cX12_debt 4 (some .boolean) 2 42 0 0 (mw cy a S) [.ref (a 0), .int 2, .int p0, .int p1] (QI D (U := GS) (fun r u => 0 = r ∧ S = u) (mw cy a)) := by
  refine Ct.ofZ RX12 "debt" [(0, .ref (a 0)), (1, .int 2), (2, .int p0), (3, .int p1)] rfl rfl rfl rfl (Nat.le_of_ble_eq_true rfl) ?_
  intro p e R s m args below meth c A b
  refine z_iload_n b dX12_debt_0 rfl rfl ?_
  refine z_calli b (z_runS (As := [.int 2]) (st := []) b (c_X12_isOne_5 S ) cf_X12_isOne wm_X12_170 ws_X12_isOne dX12_debt_1 rfl (Nat.le_of_ble_eq_true rfl) ⟨by decide, by decide, by decide, by decide⟩) (fun r856 u857 h855 => ?_)
  obtain ⟨rfl, rfl⟩ := h855
  refine z_if_eq_f (tgt := 29) b dX12_debt_4 (by decide) (by decide) ?_
  refine z_iload_n b dX12_debt_7 rfl rfl ?_
  refine z_calli b (z_runS (As := [.int p0]) (st := []) b (c_X12_isOne S p0 ⟨by omega, by omega⟩) cf_X12_isOne wm_X12_170 ws_X12_isOne dX12_debt_8 rfl (Nat.le_of_ble_eq_true rfl) ⟨by decide, by decide, by decide, by decide⟩) (fun r859 u860 h858 => ?_)
  obtain ⟨rfl, rfl⟩ := h858
  refine z_if_eq_t (tgt := 29) b dX12_debt_11 (by decide) (by decide) ?_
  refine z_iconst (v := 0) b dX12_debt_29 (by decide) ?_
  exact z_zret (u := S) b rfl (by decide) dX12_debt_30 ⟨rfl, rfl⟩ rfl (by decide) (by decide)

set_option maxHeartbeats 4000000 in
set_option maxRecDepth 100000 in
theorem c_X11_arePair_8 {l : Launch} {D : va_G} {cy : Nat → ClassId} {T0 tB tE : Nat} {a : Nat → Nat} {rw : Nat → Option Nat} (S : GS) (p0 : Int32)  (hr_p0 : 3 ≤ p0.toInt ∧ p0.toInt ≤ 2147483647) : Ct l D cy T0 tB tE yX11_arePair cX11_arePair 2 (some .boolean) 1 20 0 0 (cw cy tE a rw S) [.int 2, .int p0] (QI D (U := GS) (fun r u => 0 = r ∧ S = u) (cw cy tE a rw)) := by
  refine Ct.ofZ RX11 "arePair" [(0, .int 2), (1, .int p0)] rfl rfl rfl rfl (Nat.le_of_ble_eq_true rfl) ?_
  intro p e R s m args below meth c A b
  refine z_iload_n b dX11_arePair_0 rfl rfl ?_
  refine z_calli b (z_runS (As := [.int 2]) (st := []) b (c_X11_isPerson_5 S ) cf_X11_isPerson wm_X11_69 ws_X11_isPerson dX11_arePair_1 rfl (Nat.le_of_ble_eq_true rfl) ⟨by decide, by decide, by decide, by decide⟩) (fun r862 u863 h861 => ?_)
  obtain ⟨rfl, rfl⟩ := h861
  refine z_if_eq_f (tgt := 23) b dX11_arePair_4 (by decide) (by decide) ?_
  refine z_iload_n b dX11_arePair_7 rfl rfl ?_
  refine z_calli b (z_runS (As := [.int p0]) (st := []) b (c_X11_isPerson_2 S p0 ⟨by omega, by omega⟩) cf_X11_isPerson wm_X11_69 ws_X11_isPerson dX11_arePair_8 rfl (Nat.le_of_ble_eq_true rfl) ⟨by decide, by decide, by decide, by decide⟩) (fun r865 u866 h864 => ?_)
  obtain ⟨rfl, rfl⟩ := h864
  refine z_if_eq_t (tgt := 23) b dX11_arePair_11 (by decide) (by decide) ?_
  refine z_iconst (v := 0) b dX11_arePair_23 (by decide) ?_
  exact z_zret (u := S) b rfl (by decide) dX11_arePair_24 ⟨rfl, rfl⟩ rfl (by decide) (by decide)

set_option maxHeartbeats 4000000 in
set_option maxRecDepth 100000 in
theorem c_X11_debt_8 {l : Launch} {D : va_G} {cy : Nat → ClassId} {T0 tB tE : Nat} {a : Nat → Nat} {rw : Nat → Option Nat} (S : GS) (p0 : Int32) (p1 : Int32)  (hr_p0 : 3 ≤ p0.toInt ∧ p0.toInt ≤ 2147483647) : Ct l D cy T0 tB tE yX11_debt cX11_debt 4 (some .boolean) 2 41 0 0 (cw cy tE a rw S) [.ref (a 0), .int 2, .int p0, .int p1] (QI D (U := GS) (fun r u => 0 = r ∧ S = u) (cw cy tE a rw)) := by
  refine Ct.ofZ RX11 "debt" [(0, .ref (a 0)), (1, .int 2), (2, .int p0), (3, .int p1)] rfl rfl rfl rfl (Nat.le_of_ble_eq_true rfl) ?_
  intro p e R s m args below meth c A b
  refine z_iload_n b dX11_debt_0 rfl rfl ?_
  refine z_iload_n b dX11_debt_1 rfl rfl ?_
  refine z_calli b (z_runS (As := [.int 2, .int p0]) (st := []) b (c_X11_arePair_8 S p0 ⟨by omega, by omega⟩) cf_X11_arePair wm_X11_84 ws_X11_arePair dX11_debt_2 rfl (Nat.le_of_ble_eq_true rfl) ⟨by decide, by decide, by decide, by decide⟩) (fun r868 u869 h867 => ?_)
  obtain ⟨rfl, rfl⟩ := h867
  refine z_if_eq_t (tgt := 17) b dX11_debt_5 (by decide) (by decide) ?_
  refine z_iconst (v := 0) b dX11_debt_17 (by decide) ?_
  exact z_zret (u := S) b rfl (by decide) dX11_debt_18 ⟨rfl, rfl⟩ rfl (by decide) (by decide)

set_option maxHeartbeats 4000000 in
set_option maxRecDepth 100000 in
theorem c_X12_debt_8 {l : Launch} {D : va_G} {cy : Nat → ClassId} {T0 tB tE : Nat} {a : Nat → Nat} (S : GS) (p0 : Int32) (p1 : Int32)  (hr_p0 : 3 ≤ p0.toInt ∧ p0.toInt ≤ 2147483647) : Ct l D cy T0 tB tE yX12_debt cX12_debt 4 (some .boolean) 2 42 0 0 (mw cy a S) [.ref (a 0), .int 2, .int p0, .int p1] (QI D (U := GS) (fun r u => 0 = r ∧ S = u) (mw cy a)) := by
  refine Ct.ofZ RX12 "debt" [(0, .ref (a 0)), (1, .int 2), (2, .int p0), (3, .int p1)] rfl rfl rfl rfl (Nat.le_of_ble_eq_true rfl) ?_
  intro p e R s m args below meth c A b
  refine z_iload_n b dX12_debt_0 rfl rfl ?_
  refine z_calli b (z_runS (As := [.int 2]) (st := []) b (c_X12_isOne_5 S ) cf_X12_isOne wm_X12_170 ws_X12_isOne dX12_debt_1 rfl (Nat.le_of_ble_eq_true rfl) ⟨by decide, by decide, by decide, by decide⟩) (fun r871 u872 h870 => ?_)
  obtain ⟨rfl, rfl⟩ := h870
  refine z_if_eq_f (tgt := 29) b dX12_debt_4 (by decide) (by decide) ?_
  refine z_iload_n b dX12_debt_7 rfl rfl ?_
  refine z_calli b (z_runS (As := [.int p0]) (st := []) b (c_X12_isOne_2 S p0 ⟨by omega, by omega⟩) cf_X12_isOne wm_X12_170 ws_X12_isOne dX12_debt_8 rfl (Nat.le_of_ble_eq_true rfl) ⟨by decide, by decide, by decide, by decide⟩) (fun r874 u875 h873 => ?_)
  obtain ⟨rfl, rfl⟩ := h873
  refine z_if_eq_t (tgt := 29) b dX12_debt_11 (by decide) (by decide) ?_
  refine z_iconst (v := 0) b dX12_debt_29 (by decide) ?_
  exact z_zret (u := S) b rfl (by decide) dX12_debt_30 ⟨rfl, rfl⟩ rfl (by decide) (by decide)

set_option maxHeartbeats 4000000 in
set_option maxRecDepth 100000 in
theorem c_X11_arePair_9 {l : Launch} {D : va_G} {cy : Nat → ClassId} {T0 tB tE : Nat} {a : Nat → Nat} {rw : Nat → Option Nat} (S : GS)   : Ct l D cy T0 tB tE yX11_arePair cX11_arePair 2 (some .boolean) 1 20 0 0 (cw cy tE a rw S) [.int 0, .int 0] (QI D (U := GS) (fun r u => 0 = r ∧ S = u) (cw cy tE a rw)) := by
  refine Ct.ofZ RX11 "arePair" [(0, .int 0), (1, .int 0)] rfl rfl rfl rfl (Nat.le_of_ble_eq_true rfl) ?_
  intro p e R s m args below meth c A b
  refine z_iload_n b dX11_arePair_0 rfl rfl ?_
  refine z_calli b (z_runS (As := [.int 0]) (st := []) b (c_X11_isPerson_3 S ) cf_X11_isPerson wm_X11_69 ws_X11_isPerson dX11_arePair_1 rfl (Nat.le_of_ble_eq_true rfl) ⟨by decide, by decide, by decide, by decide⟩) (fun r877 u878 h876 => ?_)
  obtain ⟨rfl, rfl⟩ := h876
  refine z_if_eq_f (tgt := 23) b dX11_arePair_4 (by decide) (by decide) ?_
  refine z_iload_n b dX11_arePair_7 rfl rfl ?_
  refine z_calli b (z_runS (As := [.int 0]) (st := []) b (c_X11_isPerson_3 S ) cf_X11_isPerson wm_X11_69 ws_X11_isPerson dX11_arePair_8 rfl (Nat.le_of_ble_eq_true rfl) ⟨by decide, by decide, by decide, by decide⟩) (fun r880 u881 h879 => ?_)
  obtain ⟨rfl, rfl⟩ := h879
  refine z_if_eq_f (tgt := 23) b dX11_arePair_11 (by decide) (by decide) ?_
  refine z_iload_n b dX11_arePair_14 rfl rfl ?_
  refine z_iload_n b dX11_arePair_15 rfl rfl ?_
  refine z_icmp_eq_t (tgt := 23) b dX11_arePair_16 (by decide) (by decide) ?_
  refine z_iconst (v := 0) b dX11_arePair_23 (by decide) ?_
  exact z_zret (u := S) b rfl (by decide) dX11_arePair_24 ⟨rfl, rfl⟩ rfl (by decide) (by decide)

set_option maxHeartbeats 4000000 in
set_option maxRecDepth 100000 in
theorem c_X11_debt_9 {l : Launch} {D : va_G} {cy : Nat → ClassId} {T0 tB tE : Nat} {a : Nat → Nat} {rw : Nat → Option Nat} (S : GS) (p0 : Int32)  : Ct l D cy T0 tB tE yX11_debt cX11_debt 4 (some .boolean) 2 41 0 0 (cw cy tE a rw S) [.ref (a 0), .int 0, .int 0, .int p0] (QI D (U := GS) (fun r u => 0 = r ∧ S = u) (cw cy tE a rw)) := by
  refine Ct.ofZ RX11 "debt" [(0, .ref (a 0)), (1, .int 0), (2, .int 0), (3, .int p0)] rfl rfl rfl rfl (Nat.le_of_ble_eq_true rfl) ?_
  intro p e R s m args below meth c A b
  refine z_iload_n b dX11_debt_0 rfl rfl ?_
  refine z_iload_n b dX11_debt_1 rfl rfl ?_
  refine z_calli b (z_runS (As := [.int 0, .int 0]) (st := []) b (c_X11_arePair_9 S ) cf_X11_arePair wm_X11_84 ws_X11_arePair dX11_debt_2 rfl (Nat.le_of_ble_eq_true rfl) ⟨by decide, by decide, by decide, by decide⟩) (fun r883 u884 h882 => ?_)
  obtain ⟨rfl, rfl⟩ := h882
  refine z_if_eq_t (tgt := 17) b dX11_debt_5 (by decide) (by decide) ?_
  refine z_iconst (v := 0) b dX11_debt_17 (by decide) ?_
  exact z_zret (u := S) b rfl (by decide) dX11_debt_18 ⟨rfl, rfl⟩ rfl (by decide) (by decide)

set_option maxHeartbeats 4000000 in
set_option maxRecDepth 100000 in
theorem c_X12_debt_9 {l : Launch} {D : va_G} {cy : Nat → ClassId} {T0 tB tE : Nat} {a : Nat → Nat} (S : GS) (p0 : Int32)  : Ct l D cy T0 tB tE yX12_debt cX12_debt 4 (some .boolean) 2 42 0 0 (mw cy a S) [.ref (a 0), .int 0, .int 0, .int p0] (QI D (U := GS) (fun r u => 0 = r ∧ S = u) (mw cy a)) := by
  refine Ct.ofZ RX12 "debt" [(0, .ref (a 0)), (1, .int 0), (2, .int 0), (3, .int p0)] rfl rfl rfl rfl (Nat.le_of_ble_eq_true rfl) ?_
  intro p e R s m args below meth c A b
  refine z_iload_n b dX12_debt_0 rfl rfl ?_
  refine z_calli b (z_runS (As := [.int 0]) (st := []) b (c_X12_isOne_3 S ) cf_X12_isOne wm_X12_170 ws_X12_isOne dX12_debt_1 rfl (Nat.le_of_ble_eq_true rfl) ⟨by decide, by decide, by decide, by decide⟩) (fun r886 u887 h885 => ?_)
  obtain ⟨rfl, rfl⟩ := h885
  refine z_if_eq_f (tgt := 29) b dX12_debt_4 (by decide) (by decide) ?_
  refine z_iload_n b dX12_debt_7 rfl rfl ?_
  refine z_calli b (z_runS (As := [.int 0]) (st := []) b (c_X12_isOne_3 S ) cf_X12_isOne wm_X12_170 ws_X12_isOne dX12_debt_8 rfl (Nat.le_of_ble_eq_true rfl) ⟨by decide, by decide, by decide, by decide⟩) (fun r889 u890 h888 => ?_)
  obtain ⟨rfl, rfl⟩ := h888
  refine z_if_eq_f (tgt := 29) b dX12_debt_11 (by decide) (by decide) ?_
  refine z_iload_n b dX12_debt_14 rfl rfl ?_
  refine z_iload_n b dX12_debt_15 rfl rfl ?_
  refine z_icmp_eq_t (tgt := 29) b dX12_debt_16 (by decide) (by decide) ?_
  refine z_iconst (v := 0) b dX12_debt_29 (by decide) ?_
  exact z_zret (u := S) b rfl (by decide) dX12_debt_30 ⟨rfl, rfl⟩ rfl (by decide) (by decide)

set_option maxHeartbeats 4000000 in
set_option maxRecDepth 100000 in
theorem c_X11_arePair_10 {l : Launch} {D : va_G} {cy : Nat → ClassId} {T0 tB tE : Nat} {a : Nat → Nat} {rw : Nat → Option Nat} (S : GS)   : Ct l D cy T0 tB tE yX11_arePair cX11_arePair 2 (some .boolean) 1 20 0 0 (cw cy tE a rw S) [.int 1, .int 1] (QI D (U := GS) (fun r u => 0 = r ∧ S = u) (cw cy tE a rw)) := by
  refine Ct.ofZ RX11 "arePair" [(0, .int 1), (1, .int 1)] rfl rfl rfl rfl (Nat.le_of_ble_eq_true rfl) ?_
  intro p e R s m args below meth c A b
  refine z_iload_n b dX11_arePair_0 rfl rfl ?_
  refine z_calli b (z_runS (As := [.int 1]) (st := []) b (c_X11_isPerson_4 S ) cf_X11_isPerson wm_X11_69 ws_X11_isPerson dX11_arePair_1 rfl (Nat.le_of_ble_eq_true rfl) ⟨by decide, by decide, by decide, by decide⟩) (fun r892 u893 h891 => ?_)
  obtain ⟨rfl, rfl⟩ := h891
  refine z_if_eq_f (tgt := 23) b dX11_arePair_4 (by decide) (by decide) ?_
  refine z_iload_n b dX11_arePair_7 rfl rfl ?_
  refine z_calli b (z_runS (As := [.int 1]) (st := []) b (c_X11_isPerson_4 S ) cf_X11_isPerson wm_X11_69 ws_X11_isPerson dX11_arePair_8 rfl (Nat.le_of_ble_eq_true rfl) ⟨by decide, by decide, by decide, by decide⟩) (fun r895 u896 h894 => ?_)
  obtain ⟨rfl, rfl⟩ := h894
  refine z_if_eq_f (tgt := 23) b dX11_arePair_11 (by decide) (by decide) ?_
  refine z_iload_n b dX11_arePair_14 rfl rfl ?_
  refine z_iload_n b dX11_arePair_15 rfl rfl ?_
  refine z_icmp_eq_t (tgt := 23) b dX11_arePair_16 (by decide) (by decide) ?_
  refine z_iconst (v := 0) b dX11_arePair_23 (by decide) ?_
  exact z_zret (u := S) b rfl (by decide) dX11_arePair_24 ⟨rfl, rfl⟩ rfl (by decide) (by decide)

set_option maxHeartbeats 4000000 in
set_option maxRecDepth 100000 in
theorem c_X11_debt_10 {l : Launch} {D : va_G} {cy : Nat → ClassId} {T0 tB tE : Nat} {a : Nat → Nat} {rw : Nat → Option Nat} (S : GS) (p0 : Int32)  : Ct l D cy T0 tB tE yX11_debt cX11_debt 4 (some .boolean) 2 41 0 0 (cw cy tE a rw S) [.ref (a 0), .int 1, .int 1, .int p0] (QI D (U := GS) (fun r u => 0 = r ∧ S = u) (cw cy tE a rw)) := by
  refine Ct.ofZ RX11 "debt" [(0, .ref (a 0)), (1, .int 1), (2, .int 1), (3, .int p0)] rfl rfl rfl rfl (Nat.le_of_ble_eq_true rfl) ?_
  intro p e R s m args below meth c A b
  refine z_iload_n b dX11_debt_0 rfl rfl ?_
  refine z_iload_n b dX11_debt_1 rfl rfl ?_
  refine z_calli b (z_runS (As := [.int 1, .int 1]) (st := []) b (c_X11_arePair_10 S ) cf_X11_arePair wm_X11_84 ws_X11_arePair dX11_debt_2 rfl (Nat.le_of_ble_eq_true rfl) ⟨by decide, by decide, by decide, by decide⟩) (fun r898 u899 h897 => ?_)
  obtain ⟨rfl, rfl⟩ := h897
  refine z_if_eq_t (tgt := 17) b dX11_debt_5 (by decide) (by decide) ?_
  refine z_iconst (v := 0) b dX11_debt_17 (by decide) ?_
  exact z_zret (u := S) b rfl (by decide) dX11_debt_18 ⟨rfl, rfl⟩ rfl (by decide) (by decide)

set_option maxHeartbeats 4000000 in
set_option maxRecDepth 100000 in
theorem c_X12_debt_10 {l : Launch} {D : va_G} {cy : Nat → ClassId} {T0 tB tE : Nat} {a : Nat → Nat} (S : GS) (p0 : Int32)  : Ct l D cy T0 tB tE yX12_debt cX12_debt 4 (some .boolean) 2 42 0 0 (mw cy a S) [.ref (a 0), .int 1, .int 1, .int p0] (QI D (U := GS) (fun r u => 0 = r ∧ S = u) (mw cy a)) := by
  refine Ct.ofZ RX12 "debt" [(0, .ref (a 0)), (1, .int 1), (2, .int 1), (3, .int p0)] rfl rfl rfl rfl (Nat.le_of_ble_eq_true rfl) ?_
  intro p e R s m args below meth c A b
  refine z_iload_n b dX12_debt_0 rfl rfl ?_
  refine z_calli b (z_runS (As := [.int 1]) (st := []) b (c_X12_isOne_4 S ) cf_X12_isOne wm_X12_170 ws_X12_isOne dX12_debt_1 rfl (Nat.le_of_ble_eq_true rfl) ⟨by decide, by decide, by decide, by decide⟩) (fun r901 u902 h900 => ?_)
  obtain ⟨rfl, rfl⟩ := h900
  refine z_if_eq_f (tgt := 29) b dX12_debt_4 (by decide) (by decide) ?_
  refine z_iload_n b dX12_debt_7 rfl rfl ?_
  refine z_calli b (z_runS (As := [.int 1]) (st := []) b (c_X12_isOne_4 S ) cf_X12_isOne wm_X12_170 ws_X12_isOne dX12_debt_8 rfl (Nat.le_of_ble_eq_true rfl) ⟨by decide, by decide, by decide, by decide⟩) (fun r904 u905 h903 => ?_)
  obtain ⟨rfl, rfl⟩ := h903
  refine z_if_eq_f (tgt := 29) b dX12_debt_11 (by decide) (by decide) ?_
  refine z_iload_n b dX12_debt_14 rfl rfl ?_
  refine z_iload_n b dX12_debt_15 rfl rfl ?_
  refine z_icmp_eq_t (tgt := 29) b dX12_debt_16 (by decide) (by decide) ?_
  refine z_iconst (v := 0) b dX12_debt_29 (by decide) ?_
  exact z_zret (u := S) b rfl (by decide) dX12_debt_30 ⟨rfl, rfl⟩ rfl (by decide) (by decide)

set_option maxHeartbeats 4000000 in
set_option maxRecDepth 100000 in
theorem c_X11_arePair_11 {l : Launch} {D : va_G} {cy : Nat → ClassId} {T0 tB tE : Nat} {a : Nat → Nat} {rw : Nat → Option Nat} (S : GS)   : Ct l D cy T0 tB tE yX11_arePair cX11_arePair 2 (some .boolean) 1 20 0 0 (cw cy tE a rw S) [.int 2, .int 2] (QI D (U := GS) (fun r u => 0 = r ∧ S = u) (cw cy tE a rw)) := by
  refine Ct.ofZ RX11 "arePair" [(0, .int 2), (1, .int 2)] rfl rfl rfl rfl (Nat.le_of_ble_eq_true rfl) ?_
  intro p e R s m args below meth c A b
  refine z_iload_n b dX11_arePair_0 rfl rfl ?_
  refine z_calli b (z_runS (As := [.int 2]) (st := []) b (c_X11_isPerson_5 S ) cf_X11_isPerson wm_X11_69 ws_X11_isPerson dX11_arePair_1 rfl (Nat.le_of_ble_eq_true rfl) ⟨by decide, by decide, by decide, by decide⟩) (fun r907 u908 h906 => ?_)
  obtain ⟨rfl, rfl⟩ := h906
  refine z_if_eq_f (tgt := 23) b dX11_arePair_4 (by decide) (by decide) ?_
  refine z_iload_n b dX11_arePair_7 rfl rfl ?_
  refine z_calli b (z_runS (As := [.int 2]) (st := []) b (c_X11_isPerson_5 S ) cf_X11_isPerson wm_X11_69 ws_X11_isPerson dX11_arePair_8 rfl (Nat.le_of_ble_eq_true rfl) ⟨by decide, by decide, by decide, by decide⟩) (fun r910 u911 h909 => ?_)
  obtain ⟨rfl, rfl⟩ := h909
  refine z_if_eq_f (tgt := 23) b dX11_arePair_11 (by decide) (by decide) ?_
  refine z_iload_n b dX11_arePair_14 rfl rfl ?_
  refine z_iload_n b dX11_arePair_15 rfl rfl ?_
  refine z_icmp_eq_t (tgt := 23) b dX11_arePair_16 (by decide) (by decide) ?_
  refine z_iconst (v := 0) b dX11_arePair_23 (by decide) ?_
  exact z_zret (u := S) b rfl (by decide) dX11_arePair_24 ⟨rfl, rfl⟩ rfl (by decide) (by decide)

set_option maxHeartbeats 4000000 in
set_option maxRecDepth 100000 in
theorem c_X11_debt_11 {l : Launch} {D : va_G} {cy : Nat → ClassId} {T0 tB tE : Nat} {a : Nat → Nat} {rw : Nat → Option Nat} (S : GS) (p0 : Int32)  : Ct l D cy T0 tB tE yX11_debt cX11_debt 4 (some .boolean) 2 41 0 0 (cw cy tE a rw S) [.ref (a 0), .int 2, .int 2, .int p0] (QI D (U := GS) (fun r u => 0 = r ∧ S = u) (cw cy tE a rw)) := by
  refine Ct.ofZ RX11 "debt" [(0, .ref (a 0)), (1, .int 2), (2, .int 2), (3, .int p0)] rfl rfl rfl rfl (Nat.le_of_ble_eq_true rfl) ?_
  intro p e R s m args below meth c A b
  refine z_iload_n b dX11_debt_0 rfl rfl ?_
  refine z_iload_n b dX11_debt_1 rfl rfl ?_
  refine z_calli b (z_runS (As := [.int 2, .int 2]) (st := []) b (c_X11_arePair_11 S ) cf_X11_arePair wm_X11_84 ws_X11_arePair dX11_debt_2 rfl (Nat.le_of_ble_eq_true rfl) ⟨by decide, by decide, by decide, by decide⟩) (fun r913 u914 h912 => ?_)
  obtain ⟨rfl, rfl⟩ := h912
  refine z_if_eq_t (tgt := 17) b dX11_debt_5 (by decide) (by decide) ?_
  refine z_iconst (v := 0) b dX11_debt_17 (by decide) ?_
  exact z_zret (u := S) b rfl (by decide) dX11_debt_18 ⟨rfl, rfl⟩ rfl (by decide) (by decide)

set_option maxHeartbeats 4000000 in
set_option maxRecDepth 100000 in
theorem c_X12_debt_11 {l : Launch} {D : va_G} {cy : Nat → ClassId} {T0 tB tE : Nat} {a : Nat → Nat} (S : GS) (p0 : Int32)  : Ct l D cy T0 tB tE yX12_debt cX12_debt 4 (some .boolean) 2 42 0 0 (mw cy a S) [.ref (a 0), .int 2, .int 2, .int p0] (QI D (U := GS) (fun r u => 0 = r ∧ S = u) (mw cy a)) := by
  refine Ct.ofZ RX12 "debt" [(0, .ref (a 0)), (1, .int 2), (2, .int 2), (3, .int p0)] rfl rfl rfl rfl (Nat.le_of_ble_eq_true rfl) ?_
  intro p e R s m args below meth c A b
  refine z_iload_n b dX12_debt_0 rfl rfl ?_
  refine z_calli b (z_runS (As := [.int 2]) (st := []) b (c_X12_isOne_5 S ) cf_X12_isOne wm_X12_170 ws_X12_isOne dX12_debt_1 rfl (Nat.le_of_ble_eq_true rfl) ⟨by decide, by decide, by decide, by decide⟩) (fun r916 u917 h915 => ?_)
  obtain ⟨rfl, rfl⟩ := h915
  refine z_if_eq_f (tgt := 29) b dX12_debt_4 (by decide) (by decide) ?_
  refine z_iload_n b dX12_debt_7 rfl rfl ?_
  refine z_calli b (z_runS (As := [.int 2]) (st := []) b (c_X12_isOne_5 S ) cf_X12_isOne wm_X12_170 ws_X12_isOne dX12_debt_8 rfl (Nat.le_of_ble_eq_true rfl) ⟨by decide, by decide, by decide, by decide⟩) (fun r919 u920 h918 => ?_)
  obtain ⟨rfl, rfl⟩ := h918
  refine z_if_eq_f (tgt := 29) b dX12_debt_11 (by decide) (by decide) ?_
  refine z_iload_n b dX12_debt_14 rfl rfl ?_
  refine z_iload_n b dX12_debt_15 rfl rfl ?_
  refine z_icmp_eq_t (tgt := 29) b dX12_debt_16 (by decide) (by decide) ?_
  refine z_iconst (v := 0) b dX12_debt_29 (by decide) ?_
  exact z_zret (u := S) b rfl (by decide) dX12_debt_30 ⟨rfl, rfl⟩ rfl (by decide) (by decide)

set_option maxHeartbeats 4000000 in
set_option maxRecDepth 100000 in
theorem c_X11_arePair_12 {l : Launch} {D : va_G} {cy : Nat → ClassId} {T0 tB tE : Nat} {a : Nat → Nat} {rw : Nat → Option Nat} (S : GS)   : Ct l D cy T0 tB tE yX11_arePair cX11_arePair 2 (some .boolean) 1 20 0 0 (cw cy tE a rw S) [.int 0, .int 1] (QI D (U := GS) (fun r u => 1 = r ∧ S = u) (cw cy tE a rw)) := by
  refine Ct.ofZ RX11 "arePair" [(0, .int 0), (1, .int 1)] rfl rfl rfl rfl (Nat.le_of_ble_eq_true rfl) ?_
  intro p e R s m args below meth c A b
  refine z_iload_n b dX11_arePair_0 rfl rfl ?_
  refine z_calli b (z_runS (As := [.int 0]) (st := []) b (c_X11_isPerson_3 S ) cf_X11_isPerson wm_X11_69 ws_X11_isPerson dX11_arePair_1 rfl (Nat.le_of_ble_eq_true rfl) ⟨by decide, by decide, by decide, by decide⟩) (fun r922 u923 h921 => ?_)
  obtain ⟨rfl, rfl⟩ := h921
  refine z_if_eq_f (tgt := 23) b dX11_arePair_4 (by decide) (by decide) ?_
  refine z_iload_n b dX11_arePair_7 rfl rfl ?_
  refine z_calli b (z_runS (As := [.int 1]) (st := []) b (c_X11_isPerson_4 S ) cf_X11_isPerson wm_X11_69 ws_X11_isPerson dX11_arePair_8 rfl (Nat.le_of_ble_eq_true rfl) ⟨by decide, by decide, by decide, by decide⟩) (fun r925 u926 h924 => ?_)
  obtain ⟨rfl, rfl⟩ := h924
  refine z_if_eq_f (tgt := 23) b dX11_arePair_11 (by decide) (by decide) ?_
  refine z_iload_n b dX11_arePair_14 rfl rfl ?_
  refine z_iload_n b dX11_arePair_15 rfl rfl ?_
  refine z_icmp_eq_f (tgt := 23) b dX11_arePair_16 (by decide) (by decide) ?_
  refine z_iconst (v := 1) b dX11_arePair_19 (by decide) ?_
  refine z_goto (tgt := 24) b dX11_arePair_20 (by decide) ?_
  exact z_zret (u := S) b rfl (by decide) dX11_arePair_24 ⟨rfl, rfl⟩ rfl (by decide) (by decide)

set_option maxHeartbeats 4000000 in
set_option maxRecDepth 100000 in
theorem c_X11_isWithin_7 {l : Launch} {D : va_G} {cy : Nat → ClassId} {T0 tB tE : Nat} {a : Nat → Nat} {rw : Nat → Option Nat} (S : GS) (p0 : Int32)  (hr_p0 : (-2147483648) ≤ p0.toInt ∧ p0.toInt ≤ (-1)) : Ct l D cy T0 tB tE yX11_isWithin cX11_isWithin 2 (some .boolean) 0 0 0 0 (cw cy tE a rw S) [.int p0, .int 7] (QI D (U := GS) (fun r u => 0 = r ∧ S = u) (cw cy tE a rw)) := by
  refine Ct.ofZ RX11 "isWithin" [(0, .int p0), (1, .int 7)] rfl rfl rfl rfl (Nat.le_of_ble_eq_true rfl) ?_
  intro p e R s m args below meth c A b
  refine z_iload_n b dX11_isWithin_0 rfl rfl ?_
  refine y_if_lt (tgt := 13) (xl := p0.toInt) b rfl dX11_isWithin_1 (by decide) (fun c930 => ?_) (fun c930 => ?_)
  · refine z_iconst (v := 0) b dX11_isWithin_13 (by decide) ?_
    exact z_zret (u := S) b rfl (by decide) dX11_isWithin_14 ⟨rfl, rfl⟩ rfl (by decide) (by decide)
  · exfalso; omega

set_option maxHeartbeats 4000000 in
set_option maxRecDepth 100000 in
theorem c_X11_debt_12 {l : Launch} {D : va_G} {cy : Nat → ClassId} {T0 tB tE : Nat} {a : Nat → Nat} {rw : Nat → Option Nat} (S : GS) (p0 : Int32)  (hr_p0 : (-2147483648) ≤ p0.toInt ∧ p0.toInt ≤ (-1)) : Ct l D cy T0 tB tE yX11_debt cX11_debt 4 (some .boolean) 2 41 0 0 (cw cy tE a rw S) [.ref (a 0), .int 0, .int 1, .int p0] (QI D (U := GS) (fun r u => 0 = r ∧ S = u) (cw cy tE a rw)) := by
  refine Ct.ofZ RX11 "debt" [(0, .ref (a 0)), (1, .int 0), (2, .int 1), (3, .int p0)] rfl rfl rfl rfl (Nat.le_of_ble_eq_true rfl) ?_
  intro p e R s m args below meth c A b
  refine z_iload_n b dX11_debt_0 rfl rfl ?_
  refine z_iload_n b dX11_debt_1 rfl rfl ?_
  refine z_calli b (z_runS (As := [.int 0, .int 1]) (st := []) b (c_X11_arePair_12 S ) cf_X11_arePair wm_X11_84 ws_X11_arePair dX11_debt_2 rfl (Nat.le_of_ble_eq_true rfl) ⟨by decide, by decide, by decide, by decide⟩) (fun r928 u929 h927 => ?_)
  obtain ⟨rfl, rfl⟩ := h927
  refine z_if_eq_f (tgt := 17) b dX11_debt_5 (by decide) (by decide) ?_
  refine z_iload_n b dX11_debt_8 rfl rfl ?_
  refine z_bipush (v := 7) b dX11_debt_9 (by decide) ?_
  refine z_calli b (z_runS (As := [.int p0, .int 7]) (st := []) b (c_X11_isWithin_7 S p0 ⟨by omega, by omega⟩) cf_X11_isWithin wm_X11_73 ws_X11_isWithin dX11_debt_11 rfl (Nat.le_of_ble_eq_true rfl) ⟨by decide, by decide, by decide, by decide⟩) (fun r932 u933 h931 => ?_)
  obtain ⟨rfl, rfl⟩ := h931
  refine z_if_ne_f (tgt := 19) b dX11_debt_14 (by decide) (by decide) ?_
  refine z_iconst (v := 0) b dX11_debt_17 (by decide) ?_
  exact z_zret (u := S) b rfl (by decide) dX11_debt_18 ⟨rfl, rfl⟩ rfl (by decide) (by decide)

set_option maxHeartbeats 4000000 in
set_option maxRecDepth 100000 in
theorem c_X12_isIn_12 {l : Launch} {D : va_G} {cy : Nat → ClassId} {T0 tB tE : Nat} {a : Nat → Nat} (S : GS) (p0 : Int32)  (hr_p0 : (-2147483648) ≤ p0.toInt ∧ p0.toInt ≤ (-1)) : Ct l D cy T0 tB tE yX12_isIn cX12_isIn 3 (some .boolean) 0 0 0 0 (mw cy a S) [.int p0, .int 0, .int 7] (QI D (U := GS) (fun r u => 0 = r ∧ S = u) (mw cy a)) := by
  refine Ct.ofZ RX12 "isIn" [(0, .int p0), (1, .int 0), (2, .int 7)] rfl rfl rfl rfl (Nat.le_of_ble_eq_true rfl) ?_
  intro p e R s m args below meth c A b
  refine z_iload_n b dX12_isIn_0 rfl rfl ?_
  refine z_iload_n b dX12_isIn_1 rfl rfl ?_
  refine y_icmp_lt (tgt := 14) (xl := p0.toInt) (yl := 0) b rfl (by decide) dX12_isIn_2 (by decide) (fun c940 => ?_) (fun c940 => ?_)
  · refine z_iconst (v := 0) b dX12_isIn_14 (by decide) ?_
    exact z_zret (u := S) b rfl (by decide) dX12_isIn_15 ⟨rfl, rfl⟩ rfl (by decide) (by decide)
  · exfalso; omega

set_option maxHeartbeats 4000000 in
set_option maxRecDepth 100000 in
theorem c_X12_debt_12 {l : Launch} {D : va_G} {cy : Nat → ClassId} {T0 tB tE : Nat} {a : Nat → Nat} (S : GS) (p0 : Int32)  (hr_p0 : (-2147483648) ≤ p0.toInt ∧ p0.toInt ≤ (-1)) : Ct l D cy T0 tB tE yX12_debt cX12_debt 4 (some .boolean) 2 42 0 0 (mw cy a S) [.ref (a 0), .int 0, .int 1, .int p0] (QI D (U := GS) (fun r u => 0 = r ∧ S = u) (mw cy a)) := by
  refine Ct.ofZ RX12 "debt" [(0, .ref (a 0)), (1, .int 0), (2, .int 1), (3, .int p0)] rfl rfl rfl rfl (Nat.le_of_ble_eq_true rfl) ?_
  intro p e R s m args below meth c A b
  refine z_iload_n b dX12_debt_0 rfl rfl ?_
  refine z_calli b (z_runS (As := [.int 0]) (st := []) b (c_X12_isOne_3 S ) cf_X12_isOne wm_X12_170 ws_X12_isOne dX12_debt_1 rfl (Nat.le_of_ble_eq_true rfl) ⟨by decide, by decide, by decide, by decide⟩) (fun r935 u936 h934 => ?_)
  obtain ⟨rfl, rfl⟩ := h934
  refine z_if_eq_f (tgt := 29) b dX12_debt_4 (by decide) (by decide) ?_
  refine z_iload_n b dX12_debt_7 rfl rfl ?_
  refine z_calli b (z_runS (As := [.int 1]) (st := []) b (c_X12_isOne_4 S ) cf_X12_isOne wm_X12_170 ws_X12_isOne dX12_debt_8 rfl (Nat.le_of_ble_eq_true rfl) ⟨by decide, by decide, by decide, by decide⟩) (fun r938 u939 h937 => ?_)
  obtain ⟨rfl, rfl⟩ := h937
  refine z_if_eq_f (tgt := 29) b dX12_debt_11 (by decide) (by decide) ?_
  refine z_iload_n b dX12_debt_14 rfl rfl ?_
  refine z_iload_n b dX12_debt_15 rfl rfl ?_
  refine z_icmp_eq_f (tgt := 29) b dX12_debt_16 (by decide) (by decide) ?_
  refine z_iload_n b dX12_debt_19 rfl rfl ?_
  refine z_iconst (v := 0) b dX12_debt_20 (by decide) ?_
  refine z_bipush (v := 7) b dX12_debt_21 (by decide) ?_
  refine z_calli b (z_runS (As := [.int p0, .int 0, .int 7]) (st := []) b (c_X12_isIn_12 S p0 ⟨by omega, by omega⟩) cf_X12_isIn wm_X12_1 ws_X12_isIn dX12_debt_23 rfl (Nat.le_of_ble_eq_true rfl) ⟨by decide, by decide, by decide, by decide⟩) (fun r942 u943 h941 => ?_)
  obtain ⟨rfl, rfl⟩ := h941
  refine z_if_ne_f (tgt := 31) b dX12_debt_26 (by decide) (by decide) ?_
  refine z_iconst (v := 0) b dX12_debt_29 (by decide) ?_
  exact z_zret (u := S) b rfl (by decide) dX12_debt_30 ⟨rfl, rfl⟩ rfl (by decide) (by decide)

set_option maxHeartbeats 4000000 in
set_option maxRecDepth 100000 in
theorem c_X11_isWithin_8 {l : Launch} {D : va_G} {cy : Nat → ClassId} {T0 tB tE : Nat} {a : Nat → Nat} {rw : Nat → Option Nat} (S : GS) (p0 : Int32)  (hr_p0 : 0 ≤ p0.toInt ∧ p0.toInt ≤ 7) : Ct l D cy T0 tB tE yX11_isWithin cX11_isWithin 2 (some .boolean) 0 0 0 0 (cw cy tE a rw S) [.int p0, .int 7] (QI D (U := GS) (fun r u => 1 = r ∧ S = u) (cw cy tE a rw)) := by
  refine Ct.ofZ RX11 "isWithin" [(0, .int p0), (1, .int 7)] rfl rfl rfl rfl (Nat.le_of_ble_eq_true rfl) ?_
  intro p e R s m args below meth c A b
  refine z_iload_n b dX11_isWithin_0 rfl rfl ?_
  refine y_if_lt (tgt := 13) (xl := p0.toInt) b rfl dX11_isWithin_1 (by decide) (fun c947 => ?_) (fun c947 => ?_)
  · exfalso; omega
  · refine z_iload_n b dX11_isWithin_4 rfl rfl ?_
    refine z_iload_n b dX11_isWithin_5 rfl rfl ?_
    refine y_icmp_gt (tgt := 13) (xl := p0.toInt) (yl := 7) b rfl (by decide) dX11_isWithin_6 (by decide) (fun c948 => ?_) (fun c948 => ?_)
    · exfalso; omega
    · refine z_iconst (v := 1) b dX11_isWithin_9 (by decide) ?_
      refine z_goto (tgt := 14) b dX11_isWithin_10 (by decide) ?_
      exact z_zret (u := S) b rfl (by decide) dX11_isWithin_14 ⟨rfl, rfl⟩ rfl (by decide) (by decide)

set_option maxHeartbeats 4000000 in
set_option maxRecDepth 100000 in
theorem c_X9_set_8 {l : Launch} {D : va_G} {cy : Nat → ClassId} {T0 tB tE : Nat} {a : Nat → Nat} {rw : Nat → Option Nat} (S : GS) (p0 : Int32)  (hr_p0 : 0 ≤ p0.toInt ∧ p0.toInt ≤ 7) : Ct l D cy T0 tB tE yX9_set cX9_set 3 none 0 0 0 0 (cw cy tE a rw S) [.ref (a 14), .int 11, .int p0] (QV D (U := GS) (fun u => su S 4 11 p0 = u) (cw cy tE a rw)) := by
  refine Ct.ofZ RX9 "set" [(0, .ref (a 14)), (1, .int 11), (2, .int p0)] rfl rfl rfl rfl (Nat.le_of_ble_eq_true rfl) ?_
  intro p e R s m args below meth c A b
  refine z_iload_n b dX9_set_0 rfl rfl ?_
  refine z_if_lt_f (tgt := 20) b dX9_set_1 (by decide) (by decide) ?_
  refine z_iload_n b dX9_set_4 rfl rfl ?_
  refine z_aload_n b dX9_set_5 rfl rfl ?_
  refine z_get (q0 := 14) (k9 := 0) (v := .ref (a 15)) b (cw_14 cy tE a rw S) rfl in_X9 (by decide) wf_X9_11 rfl dX9_set_6 ?_
  refine z_alen (q0 := 15) (t0 := 0) (v := 51) b (cw_15 cy tE a rw S) rfl rfl dX9_set_9 ?_
  refine z_icmp_ge_f (tgt := 20) b dX9_set_10 (by decide) (by decide) ?_
  refine z_aload_n b dX9_set_13 rfl rfl ?_
  refine z_get (q0 := 14) (k9 := 0) (v := .ref (a 15)) b (cw_14 cy tE a rw S) rfl in_X9 (by decide) wf_X9_11 rfl dX9_set_14 ?_
  refine z_iload_n b dX9_set_17 rfl rfl ?_
  refine z_iload_n b dX9_set_18 rfl rfl ?_
  refine y_iast (q0 := 15) (j := 11) b (cw_15 cy tE a rw S) (by decide) dX9_set_19 (cwa_15 cy tE a rw S 11 p0) ?_
  exact z_vret (u := (su S 4 11 p0)) b rfl dX9_set_20 rfl rfl (by decide) (by decide)

set_option maxHeartbeats 4000000 in
set_option maxRecDepth 100000 in
theorem c_X11_debt_13 {l : Launch} {D : va_G} {cy : Nat → ClassId} {T0 tB tE : Nat} {a : Nat → Nat} {rw : Nat → Option Nat} (S : GS) (p0 : Int32) (h_i_24 : fi S 24 = 0) (hr_p0 : 0 ≤ p0.toInt ∧ p0.toInt ≤ 7) : Ct l D cy T0 tB tE yX11_debt cX11_debt 4 (some .boolean) 2 41 0 0 (cw cy tE a rw S) [.ref (a 0), .int 0, .int 1, .int p0] (QI D (U := GS) (fun r u => 1 = r ∧ (su S 4 11 p0) = u) (cw cy tE a rw)) := by
  refine Ct.ofZ RX11 "debt" [(0, .ref (a 0)), (1, .int 0), (2, .int 1), (3, .int p0)] rfl rfl rfl rfl (Nat.le_of_ble_eq_true rfl) ?_
  intro p e R s m args below meth c A b
  refine z_iload_n b dX11_debt_0 rfl rfl ?_
  refine z_iload_n b dX11_debt_1 rfl rfl ?_
  refine z_calli b (z_runS (As := [.int 0, .int 1]) (st := []) b (c_X11_arePair_12 S ) cf_X11_arePair wm_X11_84 ws_X11_arePair dX11_debt_2 rfl (Nat.le_of_ble_eq_true rfl) ⟨by decide, by decide, by decide, by decide⟩) (fun r945 u946 h944 => ?_)
  obtain ⟨rfl, rfl⟩ := h944
  refine z_if_eq_f (tgt := 17) b dX11_debt_5 (by decide) (by decide) ?_
  refine z_iload_n b dX11_debt_8 rfl rfl ?_
  refine z_bipush (v := 7) b dX11_debt_9 (by decide) ?_
  refine z_calli b (z_runS (As := [.int p0, .int 7]) (st := []) b (c_X11_isWithin_8 S p0 ⟨by omega, by omega⟩) cf_X11_isWithin wm_X11_73 ws_X11_isWithin dX11_debt_11 rfl (Nat.le_of_ble_eq_true rfl) ⟨by decide, by decide, by decide, by decide⟩) (fun r950 u951 h949 => ?_)
  obtain ⟨rfl, rfl⟩ := h949
  refine z_if_ne_t (tgt := 19) b dX11_debt_14 (by decide) (by decide) ?_
  refine z_aload_n b dX11_debt_19 rfl rfl ?_
  refine z_get (q0 := 0) (k9 := 4) (v := .ref (a 14)) b (cw_0 cy tE a rw S) rfl in_X11 (by decide) wf_X11_34 rfl dX11_debt_20 ?_
  refine z_bipush (v := 10) b dX11_debt_23 (by decide) ?_
  refine z_iconst (v := 3) b dX11_debt_25 (by decide) ?_
  refine z_iload_n b dX11_debt_26 rfl rfl ?_
  refine z_imul (v := 0) b dX11_debt_27 (by decide) ?_
  refine z_iadd (v := 10) b dX11_debt_28 (by decide) ?_
  refine z_iload_n b dX11_debt_29 rfl rfl ?_
  refine z_iadd (v := 11) b dX11_debt_30 (by decide) ?_
  refine z_iload_n b dX11_debt_31 rfl rfl ?_
  refine z_callv b (z_runV (q0 := 14) (As := [.int 11, .int p0]) (st := []) b (c_X9_set_8 S p0 ⟨by omega, by omega⟩) cf_X9_set (cw_14 cy tE a rw S) rfl wm_X11_77 wi_X9_set ws_X9_set dX11_debt_32 rfl (Nat.le_of_ble_eq_true rfl) ⟨by decide, by decide, by decide, by decide⟩) (fun u954 h952 => ?_)
  obtain rfl := h952
  refine z_aload_n b dX11_debt_35 rfl rfl ?_
  refine z_get (q0 := 0) (k9 := 6) (v := .ref (a 25)) b (cw_0 cy tE a rw (su S 4 11 p0)) rfl in_X11 (by decide) wf_X11_52 rfl dX11_debt_36 ?_
  refine z_callv b (z_runV (q0 := 25) (As := []) (st := []) b (c_X8_forget (su S 4 11 p0) h_i_24) cf_X8_forget (cw_25 cy tE a rw (su S 4 11 p0)) rfl wm_X11_81 wi_X8_forget ws_X8_forget dX11_debt_39 rfl (Nat.le_of_ble_eq_true rfl) ⟨by decide, by decide, by decide, by decide⟩) (fun u957 h955 => ?_)
  obtain rfl := h955
  refine z_iconst (v := 1) b dX11_debt_42 (by decide) ?_
  exact z_zret (u := (su S 4 11 p0)) b rfl (by decide) dX11_debt_43 ⟨rfl, rfl⟩ rfl (by decide) (by decide)

set_option maxHeartbeats 4000000 in
set_option maxRecDepth 100000 in
theorem c_X12_isIn_13 {l : Launch} {D : va_G} {cy : Nat → ClassId} {T0 tB tE : Nat} {a : Nat → Nat} (S : GS) (p0 : Int32)  (hr_p0 : 0 ≤ p0.toInt ∧ p0.toInt ≤ 7) : Ct l D cy T0 tB tE yX12_isIn cX12_isIn 3 (some .boolean) 0 0 0 0 (mw cy a S) [.int p0, .int 0, .int 7] (QI D (U := GS) (fun r u => 1 = r ∧ S = u) (mw cy a)) := by
  refine Ct.ofZ RX12 "isIn" [(0, .int p0), (1, .int 0), (2, .int 7)] rfl rfl rfl rfl (Nat.le_of_ble_eq_true rfl) ?_
  intro p e R s m args below meth c A b
  refine z_iload_n b dX12_isIn_0 rfl rfl ?_
  refine z_iload_n b dX12_isIn_1 rfl rfl ?_
  refine y_icmp_lt (tgt := 14) (xl := p0.toInt) (yl := 0) b rfl (by decide) dX12_isIn_2 (by decide) (fun c964 => ?_) (fun c964 => ?_)
  · exfalso; omega
  · refine z_iload_n b dX12_isIn_5 rfl rfl ?_
    refine z_iload_n b dX12_isIn_6 rfl rfl ?_
    refine y_icmp_gt (tgt := 14) (xl := p0.toInt) (yl := 7) b rfl (by decide) dX12_isIn_7 (by decide) (fun c965 => ?_) (fun c965 => ?_)
    · exfalso; omega
    · refine z_iconst (v := 1) b dX12_isIn_10 (by decide) ?_
      refine z_goto (tgt := 15) b dX12_isIn_11 (by decide) ?_
      exact z_zret (u := S) b rfl (by decide) dX12_isIn_15 ⟨rfl, rfl⟩ rfl (by decide) (by decide)

set_option maxHeartbeats 4000000 in
set_option maxRecDepth 100000 in
theorem ch_X12_packs_18 {p : Program} {l : Launch} {e : Env} {R : Room} {s : State} {m : MethodId} {args : Array Value} {below : List Frame} {meth : Method} {c : Code} {D : va_G} {cy : Nat → ClassId} {T0 tB tE : Nat} {A : Nat → Prop} {Q : State → Prop} {a : Nat → Nat} (S : GS)  (h_a_0_0 : ar S 0 0 = 0) (h_a_0_1 : ar S 0 1 = 0) (h_a_1_2 : ar S 1 2 = 0) (h_a_2_0 : ar S 2 0 = 3) (h_a_3_1 : ar S 3 1 = 0) (h_a_4_1 : ar S 4 1 = 0) (h_a_4_2 : ar S 4 2 = 0) (h_i_0 : fi S 0 = 0) (b : Bz p R s m args meth c D cy T0 tB tE A 5 cX12_packs RX12 (some .long) "packs" 1 21 0 0) (k : Z p l e R s m args below meth c D A 5 Q 0 0 (mw cy a S) [(3, .int 1), (4, .int 2), (1, .long (((((((48 ||| ((ar S 1 1) : Int32).toInt64) <<< ((1 : Int32).toInt64 &&& 63)) ||| 0) <<< ((3 : Int32).toInt64 &&& 63)) ||| 0) <<< ((1 : Int32).toInt64 &&& 63)) ||| 0)), (0, .ref (a 0))] 22 [.int 0, .long ((((((((48 ||| ((ar S 1 1) : Int32).toInt64) <<< ((1 : Int32).toInt64 &&& 63)) ||| 0) <<< ((3 : Int32).toInt64 &&& 63)) ||| 0) <<< ((1 : Int32).toInt64 &&& 63)) ||| 0) <<< ((4 : Int32).toInt64 &&& 63))]) : Z p l e R s m args below meth c D A 5 Q 0 0 (mw cy a S) [(0, .ref (a 0))] 0 [] := by
  refine z_aload_n b dX12_packs_0 rfl rfl ?_
  refine z_get (q0 := 0) (k9 := 5) (v := .int (fi S 0)) b (mw_0 cy a S) rfl in_X12 (by decide) wf_X12_157 rfl dX12_packs_1 ?_
  refine z_eqi h_i_0 ?_
  refine z_i2l (v := 0) b dX12_packs_4 (by decide) ?_
  refine z_lstore_n (lv' := [(1, .long 0), (0, .ref (a 0))]) b dX12_packs_5 rfl (by decide) rfl ?_
  refine z_iconst (v := 0) b dX12_packs_6 (by decide) ?_
  refine z_istore_n (lv' := [(3, .int 0), (1, .long 0), (0, .ref (a 0))]) b dX12_packs_7 rfl (by decide) rfl ?_
  refine z_iload_n b dX12_packs_8 rfl rfl ?_
  refine z_iconst (v := 3) b dX12_packs_9 (by decide) ?_
  refine z_icmp_ge_f (tgt := 134) b dX12_packs_10 (by decide) (by decide) ?_
  refine z_lload_n b dX12_packs_13 rfl rfl ?_
  refine z_iconst (v := 4) b dX12_packs_14 (by decide) ?_
  refine z_lshl (v := 0) b dX12_packs_15 (by decide) ?_
  refine z_aload_n b dX12_packs_16 rfl rfl ?_
  refine z_get (q0 := 0) (k9 := 0) (v := .ref (a 1)) b (mw_0 cy a S) rfl in_X12 (by decide) wf_X12_13 rfl dX12_packs_17 ?_
  refine z_iload_n b dX12_packs_20 rfl rfl ?_
  refine y_iald (q0 := 1) (j := 0) (v := (ar S 0 0)) b (mw_1 cy a S) (by decide) rfl dX12_packs_21 ?_
  refine z_eqi h_a_0_0 ?_
  refine z_i2l (v := 0) b dX12_packs_22 (by decide) ?_
  refine z_lor (v := 0) b dX12_packs_23 (by decide) ?_
  refine z_lstore_n (lv' := [(1, .long 0), (3, .int 0), (0, .ref (a 0))]) b dX12_packs_24 rfl (by decide) rfl ?_
  refine z_lload_n b dX12_packs_25 rfl rfl ?_
  refine z_iconst (v := 2) b dX12_packs_26 (by decide) ?_
  refine z_lshl (v := 0) b dX12_packs_27 (by decide) ?_
  refine z_aload_n b dX12_packs_28 rfl rfl ?_
  refine z_get (q0 := 0) (k9 := 2) (v := .ref (a 3)) b (mw_0 cy a S) rfl in_X12 (by decide) wf_X12_20 rfl dX12_packs_29 ?_
  refine z_iload_n b dX12_packs_32 rfl rfl ?_
  refine y_iald (q0 := 3) (j := 0) (v := (ar S 2 0)) b (mw_3 cy a S) (by decide) rfl dX12_packs_33 ?_
  refine z_eqi h_a_2_0 ?_
  refine z_i2l (v := 3) b dX12_packs_34 (by decide) ?_
  refine z_lor (v := 3) b dX12_packs_35 (by decide) ?_
  refine z_lstore_n (lv' := [(1, .long 3), (3, .int 0), (0, .ref (a 0))]) b dX12_packs_36 rfl (by decide) rfl ?_
  refine z_lload_n b dX12_packs_37 rfl rfl ?_
  refine z_iconst (v := 1) b dX12_packs_38 (by decide) ?_
  refine z_lshl (v := 6) b dX12_packs_39 (by decide) ?_
  refine z_aload_n b dX12_packs_40 rfl rfl ?_
  refine z_get (q0 := 0) (k9 := 3) (v := .ref (a 4)) b (mw_0 cy a S) rfl in_X12 (by decide) wf_X12_23 rfl dX12_packs_41 ?_
  refine z_iconst (v := 3) b dX12_packs_44 (by decide) ?_
  refine z_iload_n b dX12_packs_45 rfl rfl ?_
  refine z_imul (v := 0) b dX12_packs_46 (by decide) ?_
  refine z_iload_n b dX12_packs_47 rfl rfl ?_
  refine z_iconst (v := 0) b dX12_packs_48 (by decide) ?_
  refine z_calli b (z_runS (As := [.int 0, .int 0]) (st := [.int 0, .ref (a 4), .long 6]) b (c_X12_other_6 S ) cf_X12_other wm_X12_160 ws_X12_other dX12_packs_49 rfl (Nat.le_of_ble_eq_true rfl) ⟨by decide, by decide, by decide, by decide⟩) (fun r973 u974 h972 => ?_)
  obtain ⟨rfl, rfl⟩ := h972
  refine z_iadd (v := 1) b dX12_packs_52 (by decide) ?_
  refine y_zald (q0 := 4) (j := 1) (v := (ar S 3 1)) b (mw_4 cy a S) (by decide) rfl dX12_packs_53 ?_
  refine z_eqi h_a_3_1 ?_
  refine z_if_eq_t (tgt := 61) b dX12_packs_54 (by decide) (by decide) ?_
  refine z_lconst (v := 0) b dX12_packs_61 (by decide) ?_
  refine z_lor (v := 6) b dX12_packs_62 (by decide) ?_
  refine z_lstore_n (lv' := [(1, .long 6), (3, .int 0), (0, .ref (a 0))]) b dX12_packs_63 rfl (by decide) rfl ?_
  refine z_iconst (v := 0) b dX12_packs_64 (by decide) ?_
  refine z_istore (lv' := [(4, .int 0), (1, .long 6), (3, .int 0), (0, .ref (a 0))]) b dX12_packs_65 (by decide) rfl ?_
  refine z_iload b dX12_packs_67 rfl ?_
  refine z_iconst (v := 2) b dX12_packs_69 (by decide) ?_
  refine z_icmp_ge_f (tgt := 128) b dX12_packs_70 (by decide) (by decide) ?_
  refine z_lload_n b dX12_packs_73 rfl rfl ?_
  refine z_iconst (v := 3) b dX12_packs_74 (by decide) ?_
  refine z_lshl (v := 48) b dX12_packs_75 (by decide) ?_
  refine z_aload_n b dX12_packs_76 rfl rfl ?_
  refine z_get (q0 := 0) (k9 := 1) (v := .ref (a 2)) b (mw_0 cy a S) rfl in_X12 (by decide) wf_X12_17 rfl dX12_packs_77 ?_
  refine z_iconst (v := 3) b dX12_packs_80 (by decide) ?_
  refine z_iload_n b dX12_packs_81 rfl rfl ?_
  refine z_imul (v := 0) b dX12_packs_82 (by decide) ?_
  refine z_iload_n b dX12_packs_83 rfl rfl ?_
  refine z_iload b dX12_packs_84 rfl ?_
  refine z_calli b (z_runS (As := [.int 0, .int 0]) (st := [.int 0, .ref (a 2), .long 48]) b (c_X12_other_6 S ) cf_X12_other wm_X12_160 ws_X12_other dX12_packs_86 rfl (Nat.le_of_ble_eq_true rfl) ⟨by decide, by decide, by decide, by decide⟩) (fun r976 u977 h975 => ?_)
  obtain ⟨rfl, rfl⟩ := h975
  refine z_iadd (v := 1) b dX12_packs_89 (by decide) ?_
  refine y_iald (q0 := 2) (j := 1) (v := (ar S 1 1)) b (mw_2 cy a S) (by decide) rfl dX12_packs_90 ?_
  refine z_i2l b dX12_packs_91 rfl ?_
  refine z_lor b dX12_packs_92 rfl ?_
  refine z_lstore_n (lv' := [(1, .long (48 ||| ((ar S 1 1) : Int32).toInt64)), (4, .int 0), (3, .int 0), (0, .ref (a 0))]) b dX12_packs_93 rfl (by decide) rfl ?_
  refine z_lload_n b dX12_packs_94 rfl rfl ?_
  refine z_iconst (v := 1) b dX12_packs_95 (by decide) ?_
  refine z_lshl b dX12_packs_96 rfl ?_
  refine z_aload_n b dX12_packs_97 rfl rfl ?_
  refine z_get (q0 := 0) (k9 := 4) (v := .ref (a 5)) b (mw_0 cy a S) rfl in_X12 (by decide) wf_X12_27 rfl dX12_packs_98 ?_
  refine z_iconst (v := 3) b dX12_packs_101 (by decide) ?_
  refine z_iload_n b dX12_packs_102 rfl rfl ?_
  refine z_imul (v := 0) b dX12_packs_103 (by decide) ?_
  refine z_iload_n b dX12_packs_104 rfl rfl ?_
  refine z_iload b dX12_packs_105 rfl ?_
  refine z_calli b (z_runS (As := [.int 0, .int 0]) (st := [.int 0, .ref (a 5), .long ((48 ||| ((ar S 1 1) : Int32).toInt64) <<< ((1 : Int32).toInt64 &&& 63))]) b (c_X12_other_6 S ) cf_X12_other wm_X12_160 ws_X12_other dX12_packs_107 rfl (Nat.le_of_ble_eq_true rfl) ⟨by decide, by decide, by decide, by decide⟩) (fun r979 u980 h978 => ?_)
  obtain ⟨rfl, rfl⟩ := h978
  refine z_iadd (v := 1) b dX12_packs_110 (by decide) ?_
  refine y_zald (q0 := 5) (j := 1) (v := (ar S 4 1)) b (mw_5 cy a S) (by decide) rfl dX12_packs_111 ?_
  refine z_eqi h_a_4_1 ?_
  refine z_if_eq_t (tgt := 119) b dX12_packs_112 (by decide) (by decide) ?_
  refine z_lconst (v := 0) b dX12_packs_119 (by decide) ?_
  refine z_lor b dX12_packs_120 rfl ?_
  refine z_lstore_n (lv' := [(1, .long (((48 ||| ((ar S 1 1) : Int32).toInt64) <<< ((1 : Int32).toInt64 &&& 63)) ||| 0)), (4, .int 0), (3, .int 0), (0, .ref (a 0))]) b dX12_packs_121 rfl (by decide) rfl ?_
  refine z_iinc (k9 := 1) (v := 1) (lv' := [(4, .int 1), (1, .long (((48 ||| ((ar S 1 1) : Int32).toInt64) <<< ((1 : Int32).toInt64 &&& 63)) ||| 0)), (3, .int 0), (0, .ref (a 0))]) b dX12_packs_122 rfl (by decide) (by decide) rfl ?_
  refine z_goto (tgt := 67) b dX12_packs_125 (by decide) ?_
  refine z_iload b dX12_packs_67 rfl ?_
  refine z_iconst (v := 2) b dX12_packs_69 (by decide) ?_
  refine z_icmp_ge_f (tgt := 128) b dX12_packs_70 (by decide) (by decide) ?_
  refine z_lload_n b dX12_packs_73 rfl rfl ?_
  refine z_iconst (v := 3) b dX12_packs_74 (by decide) ?_
  refine z_lshl b dX12_packs_75 rfl ?_
  refine z_aload_n b dX12_packs_76 rfl rfl ?_
  refine z_get (q0 := 0) (k9 := 1) (v := .ref (a 2)) b (mw_0 cy a S) rfl in_X12 (by decide) wf_X12_17 rfl dX12_packs_77 ?_
  refine z_iconst (v := 3) b dX12_packs_80 (by decide) ?_
  refine z_iload_n b dX12_packs_81 rfl rfl ?_
  refine z_imul (v := 0) b dX12_packs_82 (by decide) ?_
  refine z_iload_n b dX12_packs_83 rfl rfl ?_
  refine z_iload b dX12_packs_84 rfl ?_
  refine z_calli b (z_runS (As := [.int 0, .int 1]) (st := [.int 0, .ref (a 2), .long ((((48 ||| ((ar S 1 1) : Int32).toInt64) <<< ((1 : Int32).toInt64 &&& 63)) ||| 0) <<< ((3 : Int32).toInt64 &&& 63))]) b (c_X12_other_5 S ) cf_X12_other wm_X12_160 ws_X12_other dX12_packs_86 rfl (Nat.le_of_ble_eq_true rfl) ⟨by decide, by decide, by decide, by decide⟩) (fun r982 u983 h981 => ?_)
  obtain ⟨rfl, rfl⟩ := h981
  refine z_iadd (v := 2) b dX12_packs_89 (by decide) ?_
  refine y_iald (q0 := 2) (j := 2) (v := (ar S 1 2)) b (mw_2 cy a S) (by decide) rfl dX12_packs_90 ?_
  refine z_eqi h_a_1_2 ?_
  refine z_i2l (v := 0) b dX12_packs_91 (by decide) ?_
  refine z_lor b dX12_packs_92 rfl ?_
  refine z_lstore_n (lv' := [(1, .long (((((48 ||| ((ar S 1 1) : Int32).toInt64) <<< ((1 : Int32).toInt64 &&& 63)) ||| 0) <<< ((3 : Int32).toInt64 &&& 63)) ||| 0)), (4, .int 1), (3, .int 0), (0, .ref (a 0))]) b dX12_packs_93 rfl (by decide) rfl ?_
  refine z_lload_n b dX12_packs_94 rfl rfl ?_
  refine z_iconst (v := 1) b dX12_packs_95 (by decide) ?_
  refine z_lshl b dX12_packs_96 rfl ?_
  refine z_aload_n b dX12_packs_97 rfl rfl ?_
  refine z_get (q0 := 0) (k9 := 4) (v := .ref (a 5)) b (mw_0 cy a S) rfl in_X12 (by decide) wf_X12_27 rfl dX12_packs_98 ?_
  refine z_iconst (v := 3) b dX12_packs_101 (by decide) ?_
  refine z_iload_n b dX12_packs_102 rfl rfl ?_
  refine z_imul (v := 0) b dX12_packs_103 (by decide) ?_
  refine z_iload_n b dX12_packs_104 rfl rfl ?_
  refine z_iload b dX12_packs_105 rfl ?_
  refine z_calli b (z_runS (As := [.int 0, .int 1]) (st := [.int 0, .ref (a 5), .long ((((((48 ||| ((ar S 1 1) : Int32).toInt64) <<< ((1 : Int32).toInt64 &&& 63)) ||| 0) <<< ((3 : Int32).toInt64 &&& 63)) ||| 0) <<< ((1 : Int32).toInt64 &&& 63))]) b (c_X12_other_5 S ) cf_X12_other wm_X12_160 ws_X12_other dX12_packs_107 rfl (Nat.le_of_ble_eq_true rfl) ⟨by decide, by decide, by decide, by decide⟩) (fun r985 u986 h984 => ?_)
  obtain ⟨rfl, rfl⟩ := h984
  refine z_iadd (v := 2) b dX12_packs_110 (by decide) ?_
  refine y_zald (q0 := 5) (j := 2) (v := (ar S 4 2)) b (mw_5 cy a S) (by decide) rfl dX12_packs_111 ?_
  refine z_eqi h_a_4_2 ?_
  refine z_if_eq_t (tgt := 119) b dX12_packs_112 (by decide) (by decide) ?_
  refine z_lconst (v := 0) b dX12_packs_119 (by decide) ?_
  refine z_lor b dX12_packs_120 rfl ?_
  refine z_lstore_n (lv' := [(1, .long (((((((48 ||| ((ar S 1 1) : Int32).toInt64) <<< ((1 : Int32).toInt64 &&& 63)) ||| 0) <<< ((3 : Int32).toInt64 &&& 63)) ||| 0) <<< ((1 : Int32).toInt64 &&& 63)) ||| 0)), (4, .int 1), (3, .int 0), (0, .ref (a 0))]) b dX12_packs_121 rfl (by decide) rfl ?_
  refine z_iinc (k9 := 1) (v := 2) (lv' := [(4, .int 2), (1, .long (((((((48 ||| ((ar S 1 1) : Int32).toInt64) <<< ((1 : Int32).toInt64 &&& 63)) ||| 0) <<< ((3 : Int32).toInt64 &&& 63)) ||| 0) <<< ((1 : Int32).toInt64 &&& 63)) ||| 0)), (3, .int 0), (0, .ref (a 0))]) b dX12_packs_122 rfl (by decide) (by decide) rfl ?_
  refine z_goto (tgt := 67) b dX12_packs_125 (by decide) ?_
  refine z_iload b dX12_packs_67 rfl ?_
  refine z_iconst (v := 2) b dX12_packs_69 (by decide) ?_
  refine z_icmp_ge_t (tgt := 128) b dX12_packs_70 (by decide) (by decide) ?_
  refine z_iinc (k9 := 2) (v := 1) (lv' := [(3, .int 1), (4, .int 2), (1, .long (((((((48 ||| ((ar S 1 1) : Int32).toInt64) <<< ((1 : Int32).toInt64 &&& 63)) ||| 0) <<< ((3 : Int32).toInt64 &&& 63)) ||| 0) <<< ((1 : Int32).toInt64 &&& 63)) ||| 0)), (0, .ref (a 0))]) b dX12_packs_128 rfl (by decide) (by decide) rfl ?_
  refine z_goto (tgt := 8) b dX12_packs_131 (by decide) ?_
  refine z_iload_n b dX12_packs_8 rfl rfl ?_
  refine z_iconst (v := 3) b dX12_packs_9 (by decide) ?_
  refine z_icmp_ge_f (tgt := 134) b dX12_packs_10 (by decide) (by decide) ?_
  refine z_lload_n b dX12_packs_13 rfl rfl ?_
  refine z_iconst (v := 4) b dX12_packs_14 (by decide) ?_
  refine z_lshl b dX12_packs_15 rfl ?_
  refine z_aload_n b dX12_packs_16 rfl rfl ?_
  refine z_get (q0 := 0) (k9 := 0) (v := .ref (a 1)) b (mw_0 cy a S) rfl in_X12 (by decide) wf_X12_13 rfl dX12_packs_17 ?_
  refine z_iload_n b dX12_packs_20 rfl rfl ?_
  refine y_iald (q0 := 1) (j := 1) (v := (ar S 0 1)) b (mw_1 cy a S) (by decide) rfl dX12_packs_21 ?_
  refine z_eqi h_a_0_1 ?_
  exact k

set_option maxHeartbeats 4000000 in
set_option maxRecDepth 100000 in
theorem ch_X12_packs_19 {p : Program} {l : Launch} {e : Env} {R : Room} {s : State} {m : MethodId} {args : Array Value} {below : List Frame} {meth : Method} {c : Code} {D : va_G} {cy : Nat → ClassId} {T0 tB tE : Nat} {A : Nat → Prop} {Q : State → Prop} {a : Nat → Nat} (S : GS)  (h_a_0_2 : ar S 0 2 = 0) (h_a_1_3 : ar S 1 3 = 0) (h_a_1_5 : ar S 1 5 = 0) (h_a_2_1 : ar S 2 1 = 3) (h_a_2_2 : ar S 2 2 = 3) (h_a_3_5 : ar S 3 5 = 0) (h_a_4_3 : ar S 4 3 = 0) (h_a_4_5 : ar S 4 5 = 0) (b : Bz p R s m args meth c D cy T0 tB tE A 5 cX12_packs RX12 (some .long) "packs" 1 21 0 0) (k : Z p l e R s m args below meth c D A 5 Q 0 0 (mw cy a S) [(1, .long (((((((((((((((((((((((((48 ||| ((ar S 1 1) : Int32).toInt64) <<< ((1 : Int32).toInt64 &&& 63)) ||| 0) <<< ((3 : Int32).toInt64 &&& 63)) ||| 0) <<< ((1 : Int32).toInt64 &&& 63)) ||| 0) <<< ((4 : Int32).toInt64 &&& 63)) ||| 0) <<< ((2 : Int32).toInt64 &&& 63)) ||| 3) <<< ((1 : Int32).toInt64 &&& 63)) ||| 0) <<< ((3 : Int32).toInt64 &&& 63)) ||| 0) <<< ((1 : Int32).toInt64 &&& 63)) ||| 0) <<< ((3 : Int32).toInt64 &&& 63)) ||| 0) <<< ((1 : Int32).toInt64 &&& 63)) ||| 0) <<< ((4 : Int32).toInt64 &&& 63)) ||| 0) <<< ((2 : Int32).toInt64 &&& 63)) ||| 3)), (3, .int 2), (4, .int 2), (0, .ref (a 0))] 39 [.int 1, .long (((((((((((((((((((((((((48 ||| ((ar S 1 1) : Int32).toInt64) <<< ((1 : Int32).toInt64 &&& 63)) ||| 0) <<< ((3 : Int32).toInt64 &&& 63)) ||| 0) <<< ((1 : Int32).toInt64 &&& 63)) ||| 0) <<< ((4 : Int32).toInt64 &&& 63)) ||| 0) <<< ((2 : Int32).toInt64 &&& 63)) ||| 3) <<< ((1 : Int32).toInt64 &&& 63)) ||| 0) <<< ((3 : Int32).toInt64 &&& 63)) ||| 0) <<< ((1 : Int32).toInt64 &&& 63)) ||| 0) <<< ((3 : Int32).toInt64 &&& 63)) ||| 0) <<< ((1 : Int32).toInt64 &&& 63)) ||| 0) <<< ((4 : Int32).toInt64 &&& 63)) ||| 0) <<< ((2 : Int32).toInt64 &&& 63)) ||| 3)]) : Z p l e R s m args below meth c D A 5 Q 0 0 (mw cy a S) [(3, .int 1), (4, .int 2), (1, .long (((((((48 ||| ((ar S 1 1) : Int32).toInt64) <<< ((1 : Int32).toInt64 &&& 63)) ||| 0) <<< ((3 : Int32).toInt64 &&& 63)) ||| 0) <<< ((1 : Int32).toInt64 &&& 63)) ||| 0)), (0, .ref (a 0))] 22 [.int 0, .long ((((((((48 ||| ((ar S 1 1) : Int32).toInt64) <<< ((1 : Int32).toInt64 &&& 63)) ||| 0) <<< ((3 : Int32).toInt64 &&& 63)) ||| 0) <<< ((1 : Int32).toInt64 &&& 63)) ||| 0) <<< ((4 : Int32).toInt64 &&& 63))] := by
  refine z_i2l (v := 0) b dX12_packs_22 (by decide) ?_
  refine z_lor b dX12_packs_23 rfl ?_
  refine z_lstore_n (lv' := [(1, .long (((((((((48 ||| ((ar S 1 1) : Int32).toInt64) <<< ((1 : Int32).toInt64 &&& 63)) ||| 0) <<< ((3 : Int32).toInt64 &&& 63)) ||| 0) <<< ((1 : Int32).toInt64 &&& 63)) ||| 0) <<< ((4 : Int32).toInt64 &&& 63)) ||| 0)), (3, .int 1), (4, .int 2), (0, .ref (a 0))]) b dX12_packs_24 rfl (by decide) rfl ?_
  refine z_lload_n b dX12_packs_25 rfl rfl ?_
  refine z_iconst (v := 2) b dX12_packs_26 (by decide) ?_
  refine z_lshl b dX12_packs_27 rfl ?_
  refine z_aload_n b dX12_packs_28 rfl rfl ?_
  refine z_get (q0 := 0) (k9 := 2) (v := .ref (a 3)) b (mw_0 cy a S) rfl in_X12 (by decide) wf_X12_20 rfl dX12_packs_29 ?_
  refine z_iload_n b dX12_packs_32 rfl rfl ?_
  refine y_iald (q0 := 3) (j := 1) (v := (ar S 2 1)) b (mw_3 cy a S) (by decide) rfl dX12_packs_33 ?_
  refine z_eqi h_a_2_1 ?_
  refine z_i2l (v := 3) b dX12_packs_34 (by decide) ?_
  refine z_lor b dX12_packs_35 rfl ?_
  refine z_lstore_n (lv' := [(1, .long (((((((((((48 ||| ((ar S 1 1) : Int32).toInt64) <<< ((1 : Int32).toInt64 &&& 63)) ||| 0) <<< ((3 : Int32).toInt64 &&& 63)) ||| 0) <<< ((1 : Int32).toInt64 &&& 63)) ||| 0) <<< ((4 : Int32).toInt64 &&& 63)) ||| 0) <<< ((2 : Int32).toInt64 &&& 63)) ||| 3)), (3, .int 1), (4, .int 2), (0, .ref (a 0))]) b dX12_packs_36 rfl (by decide) rfl ?_
  refine z_lload_n b dX12_packs_37 rfl rfl ?_
  refine z_iconst (v := 1) b dX12_packs_38 (by decide) ?_
  refine z_lshl b dX12_packs_39 rfl ?_
  refine z_aload_n b dX12_packs_40 rfl rfl ?_
  refine z_get (q0 := 0) (k9 := 3) (v := .ref (a 4)) b (mw_0 cy a S) rfl in_X12 (by decide) wf_X12_23 rfl dX12_packs_41 ?_
  refine z_iconst (v := 3) b dX12_packs_44 (by decide) ?_
  refine z_iload_n b dX12_packs_45 rfl rfl ?_
  refine z_imul (v := 3) b dX12_packs_46 (by decide) ?_
  refine z_iload_n b dX12_packs_47 rfl rfl ?_
  refine z_iconst (v := 0) b dX12_packs_48 (by decide) ?_
  refine z_calli b (z_runS (As := [.int 1, .int 0]) (st := [.int 3, .ref (a 4), .long ((((((((((((48 ||| ((ar S 1 1) : Int32).toInt64) <<< ((1 : Int32).toInt64 &&& 63)) ||| 0) <<< ((3 : Int32).toInt64 &&& 63)) ||| 0) <<< ((1 : Int32).toInt64 &&& 63)) ||| 0) <<< ((4 : Int32).toInt64 &&& 63)) ||| 0) <<< ((2 : Int32).toInt64 &&& 63)) ||| 3) <<< ((1 : Int32).toInt64 &&& 63))]) b (c_X12_other_4 S ) cf_X12_other wm_X12_160 ws_X12_other dX12_packs_49 rfl (Nat.le_of_ble_eq_true rfl) ⟨by decide, by decide, by decide, by decide⟩) (fun r988 u989 h987 => ?_)
  obtain ⟨rfl, rfl⟩ := h987
  refine z_iadd (v := 5) b dX12_packs_52 (by decide) ?_
  refine y_zald (q0 := 4) (j := 5) (v := (ar S 3 5)) b (mw_4 cy a S) (by decide) rfl dX12_packs_53 ?_
  refine z_eqi h_a_3_5 ?_
  refine z_if_eq_t (tgt := 61) b dX12_packs_54 (by decide) (by decide) ?_
  refine z_lconst (v := 0) b dX12_packs_61 (by decide) ?_
  refine z_lor b dX12_packs_62 rfl ?_
  refine z_lstore_n (lv' := [(1, .long (((((((((((((48 ||| ((ar S 1 1) : Int32).toInt64) <<< ((1 : Int32).toInt64 &&& 63)) ||| 0) <<< ((3 : Int32).toInt64 &&& 63)) ||| 0) <<< ((1 : Int32).toInt64 &&& 63)) ||| 0) <<< ((4 : Int32).toInt64 &&& 63)) ||| 0) <<< ((2 : Int32).toInt64 &&& 63)) ||| 3) <<< ((1 : Int32).toInt64 &&& 63)) ||| 0)), (3, .int 1), (4, .int 2), (0, .ref (a 0))]) b dX12_packs_63 rfl (by decide) rfl ?_
  refine z_iconst (v := 0) b dX12_packs_64 (by decide) ?_
  refine z_istore (lv' := [(4, .int 0), (1, .long (((((((((((((48 ||| ((ar S 1 1) : Int32).toInt64) <<< ((1 : Int32).toInt64 &&& 63)) ||| 0) <<< ((3 : Int32).toInt64 &&& 63)) ||| 0) <<< ((1 : Int32).toInt64 &&& 63)) ||| 0) <<< ((4 : Int32).toInt64 &&& 63)) ||| 0) <<< ((2 : Int32).toInt64 &&& 63)) ||| 3) <<< ((1 : Int32).toInt64 &&& 63)) ||| 0)), (3, .int 1), (0, .ref (a 0))]) b dX12_packs_65 (by decide) rfl ?_
  refine z_iload b dX12_packs_67 rfl ?_
  refine z_iconst (v := 2) b dX12_packs_69 (by decide) ?_
  refine z_icmp_ge_f (tgt := 128) b dX12_packs_70 (by decide) (by decide) ?_
  refine z_lload_n b dX12_packs_73 rfl rfl ?_
  refine z_iconst (v := 3) b dX12_packs_74 (by decide) ?_
  refine z_lshl b dX12_packs_75 rfl ?_
  refine z_aload_n b dX12_packs_76 rfl rfl ?_
  refine z_get (q0 := 0) (k9 := 1) (v := .ref (a 2)) b (mw_0 cy a S) rfl in_X12 (by decide) wf_X12_17 rfl dX12_packs_77 ?_
  refine z_iconst (v := 3) b dX12_packs_80 (by decide) ?_
  refine z_iload_n b dX12_packs_81 rfl rfl ?_
  refine z_imul (v := 3) b dX12_packs_82 (by decide) ?_
  refine z_iload_n b dX12_packs_83 rfl rfl ?_
  refine z_iload b dX12_packs_84 rfl ?_
  refine z_calli b (z_runS (As := [.int 1, .int 0]) (st := [.int 3, .ref (a 2), .long ((((((((((((((48 ||| ((ar S 1 1) : Int32).toInt64) <<< ((1 : Int32).toInt64 &&& 63)) ||| 0) <<< ((3 : Int32).toInt64 &&& 63)) ||| 0) <<< ((1 : Int32).toInt64 &&& 63)) ||| 0) <<< ((4 : Int32).toInt64 &&& 63)) ||| 0) <<< ((2 : Int32).toInt64 &&& 63)) ||| 3) <<< ((1 : Int32).toInt64 &&& 63)) ||| 0) <<< ((3 : Int32).toInt64 &&& 63))]) b (c_X12_other_4 S ) cf_X12_other wm_X12_160 ws_X12_other dX12_packs_86 rfl (Nat.le_of_ble_eq_true rfl) ⟨by decide, by decide, by decide, by decide⟩) (fun r991 u992 h990 => ?_)
  obtain ⟨rfl, rfl⟩ := h990
  refine z_iadd (v := 5) b dX12_packs_89 (by decide) ?_
  refine y_iald (q0 := 2) (j := 5) (v := (ar S 1 5)) b (mw_2 cy a S) (by decide) rfl dX12_packs_90 ?_
  refine z_eqi h_a_1_5 ?_
  refine z_i2l (v := 0) b dX12_packs_91 (by decide) ?_
  refine z_lor b dX12_packs_92 rfl ?_
  refine z_lstore_n (lv' := [(1, .long (((((((((((((((48 ||| ((ar S 1 1) : Int32).toInt64) <<< ((1 : Int32).toInt64 &&& 63)) ||| 0) <<< ((3 : Int32).toInt64 &&& 63)) ||| 0) <<< ((1 : Int32).toInt64 &&& 63)) ||| 0) <<< ((4 : Int32).toInt64 &&& 63)) ||| 0) <<< ((2 : Int32).toInt64 &&& 63)) ||| 3) <<< ((1 : Int32).toInt64 &&& 63)) ||| 0) <<< ((3 : Int32).toInt64 &&& 63)) ||| 0)), (4, .int 0), (3, .int 1), (0, .ref (a 0))]) b dX12_packs_93 rfl (by decide) rfl ?_
  refine z_lload_n b dX12_packs_94 rfl rfl ?_
  refine z_iconst (v := 1) b dX12_packs_95 (by decide) ?_
  refine z_lshl b dX12_packs_96 rfl ?_
  refine z_aload_n b dX12_packs_97 rfl rfl ?_
  refine z_get (q0 := 0) (k9 := 4) (v := .ref (a 5)) b (mw_0 cy a S) rfl in_X12 (by decide) wf_X12_27 rfl dX12_packs_98 ?_
  refine z_iconst (v := 3) b dX12_packs_101 (by decide) ?_
  refine z_iload_n b dX12_packs_102 rfl rfl ?_
  refine z_imul (v := 3) b dX12_packs_103 (by decide) ?_
  refine z_iload_n b dX12_packs_104 rfl rfl ?_
  refine z_iload b dX12_packs_105 rfl ?_
  refine z_calli b (z_runS (As := [.int 1, .int 0]) (st := [.int 3, .ref (a 5), .long ((((((((((((((((48 ||| ((ar S 1 1) : Int32).toInt64) <<< ((1 : Int32).toInt64 &&& 63)) ||| 0) <<< ((3 : Int32).toInt64 &&& 63)) ||| 0) <<< ((1 : Int32).toInt64 &&& 63)) ||| 0) <<< ((4 : Int32).toInt64 &&& 63)) ||| 0) <<< ((2 : Int32).toInt64 &&& 63)) ||| 3) <<< ((1 : Int32).toInt64 &&& 63)) ||| 0) <<< ((3 : Int32).toInt64 &&& 63)) ||| 0) <<< ((1 : Int32).toInt64 &&& 63))]) b (c_X12_other_4 S ) cf_X12_other wm_X12_160 ws_X12_other dX12_packs_107 rfl (Nat.le_of_ble_eq_true rfl) ⟨by decide, by decide, by decide, by decide⟩) (fun r994 u995 h993 => ?_)
  obtain ⟨rfl, rfl⟩ := h993
  refine z_iadd (v := 5) b dX12_packs_110 (by decide) ?_
  refine y_zald (q0 := 5) (j := 5) (v := (ar S 4 5)) b (mw_5 cy a S) (by decide) rfl dX12_packs_111 ?_
  refine z_eqi h_a_4_5 ?_
  refine z_if_eq_t (tgt := 119) b dX12_packs_112 (by decide) (by decide) ?_
  refine z_lconst (v := 0) b dX12_packs_119 (by decide) ?_
  refine z_lor b dX12_packs_120 rfl ?_
  refine z_lstore_n (lv' := [(1, .long (((((((((((((((((48 ||| ((ar S 1 1) : Int32).toInt64) <<< ((1 : Int32).toInt64 &&& 63)) ||| 0) <<< ((3 : Int32).toInt64 &&& 63)) ||| 0) <<< ((1 : Int32).toInt64 &&& 63)) ||| 0) <<< ((4 : Int32).toInt64 &&& 63)) ||| 0) <<< ((2 : Int32).toInt64 &&& 63)) ||| 3) <<< ((1 : Int32).toInt64 &&& 63)) ||| 0) <<< ((3 : Int32).toInt64 &&& 63)) ||| 0) <<< ((1 : Int32).toInt64 &&& 63)) ||| 0)), (4, .int 0), (3, .int 1), (0, .ref (a 0))]) b dX12_packs_121 rfl (by decide) rfl ?_
  refine z_iinc (k9 := 1) (v := 1) (lv' := [(4, .int 1), (1, .long (((((((((((((((((48 ||| ((ar S 1 1) : Int32).toInt64) <<< ((1 : Int32).toInt64 &&& 63)) ||| 0) <<< ((3 : Int32).toInt64 &&& 63)) ||| 0) <<< ((1 : Int32).toInt64 &&& 63)) ||| 0) <<< ((4 : Int32).toInt64 &&& 63)) ||| 0) <<< ((2 : Int32).toInt64 &&& 63)) ||| 3) <<< ((1 : Int32).toInt64 &&& 63)) ||| 0) <<< ((3 : Int32).toInt64 &&& 63)) ||| 0) <<< ((1 : Int32).toInt64 &&& 63)) ||| 0)), (3, .int 1), (0, .ref (a 0))]) b dX12_packs_122 rfl (by decide) (by decide) rfl ?_
  refine z_goto (tgt := 67) b dX12_packs_125 (by decide) ?_
  refine z_iload b dX12_packs_67 rfl ?_
  refine z_iconst (v := 2) b dX12_packs_69 (by decide) ?_
  refine z_icmp_ge_f (tgt := 128) b dX12_packs_70 (by decide) (by decide) ?_
  refine z_lload_n b dX12_packs_73 rfl rfl ?_
  refine z_iconst (v := 3) b dX12_packs_74 (by decide) ?_
  refine z_lshl b dX12_packs_75 rfl ?_
  refine z_aload_n b dX12_packs_76 rfl rfl ?_
  refine z_get (q0 := 0) (k9 := 1) (v := .ref (a 2)) b (mw_0 cy a S) rfl in_X12 (by decide) wf_X12_17 rfl dX12_packs_77 ?_
  refine z_iconst (v := 3) b dX12_packs_80 (by decide) ?_
  refine z_iload_n b dX12_packs_81 rfl rfl ?_
  refine z_imul (v := 3) b dX12_packs_82 (by decide) ?_
  refine z_iload_n b dX12_packs_83 rfl rfl ?_
  refine z_iload b dX12_packs_84 rfl ?_
  refine z_calli b (z_runS (As := [.int 1, .int 1]) (st := [.int 3, .ref (a 2), .long ((((((((((((((((((48 ||| ((ar S 1 1) : Int32).toInt64) <<< ((1 : Int32).toInt64 &&& 63)) ||| 0) <<< ((3 : Int32).toInt64 &&& 63)) ||| 0) <<< ((1 : Int32).toInt64 &&& 63)) ||| 0) <<< ((4 : Int32).toInt64 &&& 63)) ||| 0) <<< ((2 : Int32).toInt64 &&& 63)) ||| 3) <<< ((1 : Int32).toInt64 &&& 63)) ||| 0) <<< ((3 : Int32).toInt64 &&& 63)) ||| 0) <<< ((1 : Int32).toInt64 &&& 63)) ||| 0) <<< ((3 : Int32).toInt64 &&& 63))]) b (c_X12_other_3 S ) cf_X12_other wm_X12_160 ws_X12_other dX12_packs_86 rfl (Nat.le_of_ble_eq_true rfl) ⟨by decide, by decide, by decide, by decide⟩) (fun r997 u998 h996 => ?_)
  obtain ⟨rfl, rfl⟩ := h996
  refine z_iadd (v := 3) b dX12_packs_89 (by decide) ?_
  refine y_iald (q0 := 2) (j := 3) (v := (ar S 1 3)) b (mw_2 cy a S) (by decide) rfl dX12_packs_90 ?_
  refine z_eqi h_a_1_3 ?_
  refine z_i2l (v := 0) b dX12_packs_91 (by decide) ?_
  refine z_lor b dX12_packs_92 rfl ?_
  refine z_lstore_n (lv' := [(1, .long (((((((((((((((((((48 ||| ((ar S 1 1) : Int32).toInt64) <<< ((1 : Int32).toInt64 &&& 63)) ||| 0) <<< ((3 : Int32).toInt64 &&& 63)) ||| 0) <<< ((1 : Int32).toInt64 &&& 63)) ||| 0) <<< ((4 : Int32).toInt64 &&& 63)) ||| 0) <<< ((2 : Int32).toInt64 &&& 63)) ||| 3) <<< ((1 : Int32).toInt64 &&& 63)) ||| 0) <<< ((3 : Int32).toInt64 &&& 63)) ||| 0) <<< ((1 : Int32).toInt64 &&& 63)) ||| 0) <<< ((3 : Int32).toInt64 &&& 63)) ||| 0)), (4, .int 1), (3, .int 1), (0, .ref (a 0))]) b dX12_packs_93 rfl (by decide) rfl ?_
  refine z_lload_n b dX12_packs_94 rfl rfl ?_
  refine z_iconst (v := 1) b dX12_packs_95 (by decide) ?_
  refine z_lshl b dX12_packs_96 rfl ?_
  refine z_aload_n b dX12_packs_97 rfl rfl ?_
  refine z_get (q0 := 0) (k9 := 4) (v := .ref (a 5)) b (mw_0 cy a S) rfl in_X12 (by decide) wf_X12_27 rfl dX12_packs_98 ?_
  refine z_iconst (v := 3) b dX12_packs_101 (by decide) ?_
  refine z_iload_n b dX12_packs_102 rfl rfl ?_
  refine z_imul (v := 3) b dX12_packs_103 (by decide) ?_
  refine z_iload_n b dX12_packs_104 rfl rfl ?_
  refine z_iload b dX12_packs_105 rfl ?_
  refine z_calli b (z_runS (As := [.int 1, .int 1]) (st := [.int 3, .ref (a 5), .long ((((((((((((((((((((48 ||| ((ar S 1 1) : Int32).toInt64) <<< ((1 : Int32).toInt64 &&& 63)) ||| 0) <<< ((3 : Int32).toInt64 &&& 63)) ||| 0) <<< ((1 : Int32).toInt64 &&& 63)) ||| 0) <<< ((4 : Int32).toInt64 &&& 63)) ||| 0) <<< ((2 : Int32).toInt64 &&& 63)) ||| 3) <<< ((1 : Int32).toInt64 &&& 63)) ||| 0) <<< ((3 : Int32).toInt64 &&& 63)) ||| 0) <<< ((1 : Int32).toInt64 &&& 63)) ||| 0) <<< ((3 : Int32).toInt64 &&& 63)) ||| 0) <<< ((1 : Int32).toInt64 &&& 63))]) b (c_X12_other_3 S ) cf_X12_other wm_X12_160 ws_X12_other dX12_packs_107 rfl (Nat.le_of_ble_eq_true rfl) ⟨by decide, by decide, by decide, by decide⟩) (fun r1000 u1001 h999 => ?_)
  obtain ⟨rfl, rfl⟩ := h999
  refine z_iadd (v := 3) b dX12_packs_110 (by decide) ?_
  refine y_zald (q0 := 5) (j := 3) (v := (ar S 4 3)) b (mw_5 cy a S) (by decide) rfl dX12_packs_111 ?_
  refine z_eqi h_a_4_3 ?_
  refine z_if_eq_t (tgt := 119) b dX12_packs_112 (by decide) (by decide) ?_
  refine z_lconst (v := 0) b dX12_packs_119 (by decide) ?_
  refine z_lor b dX12_packs_120 rfl ?_
  refine z_lstore_n (lv' := [(1, .long (((((((((((((((((((((48 ||| ((ar S 1 1) : Int32).toInt64) <<< ((1 : Int32).toInt64 &&& 63)) ||| 0) <<< ((3 : Int32).toInt64 &&& 63)) ||| 0) <<< ((1 : Int32).toInt64 &&& 63)) ||| 0) <<< ((4 : Int32).toInt64 &&& 63)) ||| 0) <<< ((2 : Int32).toInt64 &&& 63)) ||| 3) <<< ((1 : Int32).toInt64 &&& 63)) ||| 0) <<< ((3 : Int32).toInt64 &&& 63)) ||| 0) <<< ((1 : Int32).toInt64 &&& 63)) ||| 0) <<< ((3 : Int32).toInt64 &&& 63)) ||| 0) <<< ((1 : Int32).toInt64 &&& 63)) ||| 0)), (4, .int 1), (3, .int 1), (0, .ref (a 0))]) b dX12_packs_121 rfl (by decide) rfl ?_
  refine z_iinc (k9 := 1) (v := 2) (lv' := [(4, .int 2), (1, .long (((((((((((((((((((((48 ||| ((ar S 1 1) : Int32).toInt64) <<< ((1 : Int32).toInt64 &&& 63)) ||| 0) <<< ((3 : Int32).toInt64 &&& 63)) ||| 0) <<< ((1 : Int32).toInt64 &&& 63)) ||| 0) <<< ((4 : Int32).toInt64 &&& 63)) ||| 0) <<< ((2 : Int32).toInt64 &&& 63)) ||| 3) <<< ((1 : Int32).toInt64 &&& 63)) ||| 0) <<< ((3 : Int32).toInt64 &&& 63)) ||| 0) <<< ((1 : Int32).toInt64 &&& 63)) ||| 0) <<< ((3 : Int32).toInt64 &&& 63)) ||| 0) <<< ((1 : Int32).toInt64 &&& 63)) ||| 0)), (3, .int 1), (0, .ref (a 0))]) b dX12_packs_122 rfl (by decide) (by decide) rfl ?_
  refine z_goto (tgt := 67) b dX12_packs_125 (by decide) ?_
  refine z_iload b dX12_packs_67 rfl ?_
  refine z_iconst (v := 2) b dX12_packs_69 (by decide) ?_
  refine z_icmp_ge_t (tgt := 128) b dX12_packs_70 (by decide) (by decide) ?_
  refine z_iinc (k9 := 2) (v := 2) (lv' := [(3, .int 2), (4, .int 2), (1, .long (((((((((((((((((((((48 ||| ((ar S 1 1) : Int32).toInt64) <<< ((1 : Int32).toInt64 &&& 63)) ||| 0) <<< ((3 : Int32).toInt64 &&& 63)) ||| 0) <<< ((1 : Int32).toInt64 &&& 63)) ||| 0) <<< ((4 : Int32).toInt64 &&& 63)) ||| 0) <<< ((2 : Int32).toInt64 &&& 63)) ||| 3) <<< ((1 : Int32).toInt64 &&& 63)) ||| 0) <<< ((3 : Int32).toInt64 &&& 63)) ||| 0) <<< ((1 : Int32).toInt64 &&& 63)) ||| 0) <<< ((3 : Int32).toInt64 &&& 63)) ||| 0) <<< ((1 : Int32).toInt64 &&& 63)) ||| 0)), (0, .ref (a 0))]) b dX12_packs_128 rfl (by decide) (by decide) rfl ?_
  refine z_goto (tgt := 8) b dX12_packs_131 (by decide) ?_
  refine z_iload_n b dX12_packs_8 rfl rfl ?_
  refine z_iconst (v := 3) b dX12_packs_9 (by decide) ?_
  refine z_icmp_ge_f (tgt := 134) b dX12_packs_10 (by decide) (by decide) ?_
  refine z_lload_n b dX12_packs_13 rfl rfl ?_
  refine z_iconst (v := 4) b dX12_packs_14 (by decide) ?_
  refine z_lshl b dX12_packs_15 rfl ?_
  refine z_aload_n b dX12_packs_16 rfl rfl ?_
  refine z_get (q0 := 0) (k9 := 0) (v := .ref (a 1)) b (mw_0 cy a S) rfl in_X12 (by decide) wf_X12_13 rfl dX12_packs_17 ?_
  refine z_iload_n b dX12_packs_20 rfl rfl ?_
  refine y_iald (q0 := 1) (j := 2) (v := (ar S 0 2)) b (mw_1 cy a S) (by decide) rfl dX12_packs_21 ?_
  refine z_eqi h_a_0_2 ?_
  refine z_i2l (v := 0) b dX12_packs_22 (by decide) ?_
  refine z_lor b dX12_packs_23 rfl ?_
  refine z_lstore_n (lv' := [(1, .long (((((((((((((((((((((((48 ||| ((ar S 1 1) : Int32).toInt64) <<< ((1 : Int32).toInt64 &&& 63)) ||| 0) <<< ((3 : Int32).toInt64 &&& 63)) ||| 0) <<< ((1 : Int32).toInt64 &&& 63)) ||| 0) <<< ((4 : Int32).toInt64 &&& 63)) ||| 0) <<< ((2 : Int32).toInt64 &&& 63)) ||| 3) <<< ((1 : Int32).toInt64 &&& 63)) ||| 0) <<< ((3 : Int32).toInt64 &&& 63)) ||| 0) <<< ((1 : Int32).toInt64 &&& 63)) ||| 0) <<< ((3 : Int32).toInt64 &&& 63)) ||| 0) <<< ((1 : Int32).toInt64 &&& 63)) ||| 0) <<< ((4 : Int32).toInt64 &&& 63)) ||| 0)), (3, .int 2), (4, .int 2), (0, .ref (a 0))]) b dX12_packs_24 rfl (by decide) rfl ?_
  refine z_lload_n b dX12_packs_25 rfl rfl ?_
  refine z_iconst (v := 2) b dX12_packs_26 (by decide) ?_
  refine z_lshl b dX12_packs_27 rfl ?_
  refine z_aload_n b dX12_packs_28 rfl rfl ?_
  refine z_get (q0 := 0) (k9 := 2) (v := .ref (a 3)) b (mw_0 cy a S) rfl in_X12 (by decide) wf_X12_20 rfl dX12_packs_29 ?_
  refine z_iload_n b dX12_packs_32 rfl rfl ?_
  refine y_iald (q0 := 3) (j := 2) (v := (ar S 2 2)) b (mw_3 cy a S) (by decide) rfl dX12_packs_33 ?_
  refine z_eqi h_a_2_2 ?_
  refine z_i2l (v := 3) b dX12_packs_34 (by decide) ?_
  refine z_lor b dX12_packs_35 rfl ?_
  refine z_lstore_n (lv' := [(1, .long (((((((((((((((((((((((((48 ||| ((ar S 1 1) : Int32).toInt64) <<< ((1 : Int32).toInt64 &&& 63)) ||| 0) <<< ((3 : Int32).toInt64 &&& 63)) ||| 0) <<< ((1 : Int32).toInt64 &&& 63)) ||| 0) <<< ((4 : Int32).toInt64 &&& 63)) ||| 0) <<< ((2 : Int32).toInt64 &&& 63)) ||| 3) <<< ((1 : Int32).toInt64 &&& 63)) ||| 0) <<< ((3 : Int32).toInt64 &&& 63)) ||| 0) <<< ((1 : Int32).toInt64 &&& 63)) ||| 0) <<< ((3 : Int32).toInt64 &&& 63)) ||| 0) <<< ((1 : Int32).toInt64 &&& 63)) ||| 0) <<< ((4 : Int32).toInt64 &&& 63)) ||| 0) <<< ((2 : Int32).toInt64 &&& 63)) ||| 3)), (3, .int 2), (4, .int 2), (0, .ref (a 0))]) b dX12_packs_36 rfl (by decide) rfl ?_
  refine z_lload_n b dX12_packs_37 rfl rfl ?_
  refine z_iconst (v := 1) b dX12_packs_38 (by decide) ?_
  exact k

set_option maxHeartbeats 4000000 in
set_option maxRecDepth 100000 in
theorem c_X12_packs_8 {l : Launch} {D : va_G} {cy : Nat → ClassId} {T0 tB tE : Nat} {a : Nat → Nat} (S : GS)  (h_i_0 : fi S 0 = 0) (h_a_0_0 : ar S 0 0 = 0) (h_a_2_0 : ar S 2 0 = 3) (h_a_3_1 : ar S 3 1 = 0) (h_a_4_1 : ar S 4 1 = 0) (h_a_1_2 : ar S 1 2 = 0) (h_a_4_2 : ar S 4 2 = 0) (h_a_0_1 : ar S 0 1 = 0) (h_a_2_1 : ar S 2 1 = 3) (h_a_3_5 : ar S 3 5 = 0) (h_a_1_5 : ar S 1 5 = 0) (h_a_4_5 : ar S 4 5 = 0) (h_a_1_3 : ar S 1 3 = 0) (h_a_4_3 : ar S 4 3 = 0) (h_a_0_2 : ar S 0 2 = 0) (h_a_2_2 : ar S 2 2 = 3) (h_a_3_6 : ar S 3 6 = 0) (h_a_1_6 : ar S 1 6 = 0) (h_a_4_6 : ar S 4 6 = 0) (h_a_1_7 : ar S 1 7 = 0) (h_a_4_7 : ar S 4 7 = 0) : Ct l D cy T0 tB tE yX12_packs cX12_packs 5 (some .long) 1 21 0 0 (mw cy a S) [.ref (a 0)] (QL D (U := GS) (fun r u => (((((((((((((((((((((((((((((((((((48 ||| ((ar S 1 1) : Int32).toInt64) <<< ((1 : Int32).toInt64 &&& 63)) ||| 0) <<< ((3 : Int32).toInt64 &&& 63)) ||| 0) <<< ((1 : Int32).toInt64 &&& 63)) ||| 0) <<< ((4 : Int32).toInt64 &&& 63)) ||| 0) <<< ((2 : Int32).toInt64 &&& 63)) ||| 3) <<< ((1 : Int32).toInt64 &&& 63)) ||| 0) <<< ((3 : Int32).toInt64 &&& 63)) ||| 0) <<< ((1 : Int32).toInt64 &&& 63)) ||| 0) <<< ((3 : Int32).toInt64 &&& 63)) ||| 0) <<< ((1 : Int32).toInt64 &&& 63)) ||| 0) <<< ((4 : Int32).toInt64 &&& 63)) ||| 0) <<< ((2 : Int32).toInt64 &&& 63)) ||| 3) <<< ((1 : Int32).toInt64 &&& 63)) ||| 0) <<< ((3 : Int32).toInt64 &&& 63)) ||| 0) <<< ((1 : Int32).toInt64 &&& 63)) ||| 0) <<< ((3 : Int32).toInt64 &&& 63)) ||| 0) <<< ((1 : Int32).toInt64 &&& 63)) ||| 0) = r ∧ S = u) (mw cy a)) := by
  refine Ct.ofZ RX12 "packs" [(0, .ref (a 0))] rfl rfl rfl rfl (Nat.le_of_ble_eq_true rfl) ?_
  intro p e R s m args below meth c A b
  refine ch_X12_packs_18 S  h_a_0_0 h_a_0_1 h_a_1_2 h_a_2_0 h_a_3_1 h_a_4_1 h_a_4_2 h_i_0  b ?_
  refine ch_X12_packs_19 S  h_a_0_2 h_a_1_3 h_a_1_5 h_a_2_1 h_a_2_2 h_a_3_5 h_a_4_3 h_a_4_5  b ?_
  refine z_lshl b dX12_packs_39 rfl ?_
  refine z_aload_n b dX12_packs_40 rfl rfl ?_
  refine z_get (q0 := 0) (k9 := 3) (v := .ref (a 4)) b (mw_0 cy a S) rfl in_X12 (by decide) wf_X12_23 rfl dX12_packs_41 ?_
  refine z_iconst (v := 3) b dX12_packs_44 (by decide) ?_
  refine z_iload_n b dX12_packs_45 rfl rfl ?_
  refine z_imul (v := 6) b dX12_packs_46 (by decide) ?_
  refine z_iload_n b dX12_packs_47 rfl rfl ?_
  refine z_iconst (v := 0) b dX12_packs_48 (by decide) ?_
  refine z_calli b (z_runS (As := [.int 2, .int 0]) (st := [.int 6, .ref (a 4), .long ((((((((((((((((((((((((((48 ||| ((ar S 1 1) : Int32).toInt64) <<< ((1 : Int32).toInt64 &&& 63)) ||| 0) <<< ((3 : Int32).toInt64 &&& 63)) ||| 0) <<< ((1 : Int32).toInt64 &&& 63)) ||| 0) <<< ((4 : Int32).toInt64 &&& 63)) ||| 0) <<< ((2 : Int32).toInt64 &&& 63)) ||| 3) <<< ((1 : Int32).toInt64 &&& 63)) ||| 0) <<< ((3 : Int32).toInt64 &&& 63)) ||| 0) <<< ((1 : Int32).toInt64 &&& 63)) ||| 0) <<< ((3 : Int32).toInt64 &&& 63)) ||| 0) <<< ((1 : Int32).toInt64 &&& 63)) ||| 0) <<< ((4 : Int32).toInt64 &&& 63)) ||| 0) <<< ((2 : Int32).toInt64 &&& 63)) ||| 3) <<< ((1 : Int32).toInt64 &&& 63))]) b (c_X12_other_2 S ) cf_X12_other wm_X12_160 ws_X12_other dX12_packs_49 rfl (Nat.le_of_ble_eq_true rfl) ⟨by decide, by decide, by decide, by decide⟩) (fun r1003 u1004 h1002 => ?_)
  obtain ⟨rfl, rfl⟩ := h1002
  refine z_iadd (v := 6) b dX12_packs_52 (by decide) ?_
  refine y_zald (q0 := 4) (j := 6) (v := (ar S 3 6)) b (mw_4 cy a S) (by decide) rfl dX12_packs_53 ?_
  refine z_eqi h_a_3_6 ?_
  refine z_if_eq_t (tgt := 61) b dX12_packs_54 (by decide) (by decide) ?_
  refine z_lconst (v := 0) b dX12_packs_61 (by decide) ?_
  refine z_lor b dX12_packs_62 rfl ?_
  refine z_lstore_n (lv' := [(1, .long (((((((((((((((((((((((((((48 ||| ((ar S 1 1) : Int32).toInt64) <<< ((1 : Int32).toInt64 &&& 63)) ||| 0) <<< ((3 : Int32).toInt64 &&& 63)) ||| 0) <<< ((1 : Int32).toInt64 &&& 63)) ||| 0) <<< ((4 : Int32).toInt64 &&& 63)) ||| 0) <<< ((2 : Int32).toInt64 &&& 63)) ||| 3) <<< ((1 : Int32).toInt64 &&& 63)) ||| 0) <<< ((3 : Int32).toInt64 &&& 63)) ||| 0) <<< ((1 : Int32).toInt64 &&& 63)) ||| 0) <<< ((3 : Int32).toInt64 &&& 63)) ||| 0) <<< ((1 : Int32).toInt64 &&& 63)) ||| 0) <<< ((4 : Int32).toInt64 &&& 63)) ||| 0) <<< ((2 : Int32).toInt64 &&& 63)) ||| 3) <<< ((1 : Int32).toInt64 &&& 63)) ||| 0)), (3, .int 2), (4, .int 2), (0, .ref (a 0))]) b dX12_packs_63 rfl (by decide) rfl ?_
  refine z_iconst (v := 0) b dX12_packs_64 (by decide) ?_
  refine z_istore (lv' := [(4, .int 0), (1, .long (((((((((((((((((((((((((((48 ||| ((ar S 1 1) : Int32).toInt64) <<< ((1 : Int32).toInt64 &&& 63)) ||| 0) <<< ((3 : Int32).toInt64 &&& 63)) ||| 0) <<< ((1 : Int32).toInt64 &&& 63)) ||| 0) <<< ((4 : Int32).toInt64 &&& 63)) ||| 0) <<< ((2 : Int32).toInt64 &&& 63)) ||| 3) <<< ((1 : Int32).toInt64 &&& 63)) ||| 0) <<< ((3 : Int32).toInt64 &&& 63)) ||| 0) <<< ((1 : Int32).toInt64 &&& 63)) ||| 0) <<< ((3 : Int32).toInt64 &&& 63)) ||| 0) <<< ((1 : Int32).toInt64 &&& 63)) ||| 0) <<< ((4 : Int32).toInt64 &&& 63)) ||| 0) <<< ((2 : Int32).toInt64 &&& 63)) ||| 3) <<< ((1 : Int32).toInt64 &&& 63)) ||| 0)), (3, .int 2), (0, .ref (a 0))]) b dX12_packs_65 (by decide) rfl ?_
  refine z_iload b dX12_packs_67 rfl ?_
  refine z_iconst (v := 2) b dX12_packs_69 (by decide) ?_
  refine z_icmp_ge_f (tgt := 128) b dX12_packs_70 (by decide) (by decide) ?_
  refine z_lload_n b dX12_packs_73 rfl rfl ?_
  refine z_iconst (v := 3) b dX12_packs_74 (by decide) ?_
  refine z_lshl b dX12_packs_75 rfl ?_
  refine z_aload_n b dX12_packs_76 rfl rfl ?_
  refine z_get (q0 := 0) (k9 := 1) (v := .ref (a 2)) b (mw_0 cy a S) rfl in_X12 (by decide) wf_X12_17 rfl dX12_packs_77 ?_
  refine z_iconst (v := 3) b dX12_packs_80 (by decide) ?_
  refine z_iload_n b dX12_packs_81 rfl rfl ?_
  refine z_imul (v := 6) b dX12_packs_82 (by decide) ?_
  refine z_iload_n b dX12_packs_83 rfl rfl ?_
  refine z_iload b dX12_packs_84 rfl ?_
  refine z_calli b (z_runS (As := [.int 2, .int 0]) (st := [.int 6, .ref (a 2), .long ((((((((((((((((((((((((((((48 ||| ((ar S 1 1) : Int32).toInt64) <<< ((1 : Int32).toInt64 &&& 63)) ||| 0) <<< ((3 : Int32).toInt64 &&& 63)) ||| 0) <<< ((1 : Int32).toInt64 &&& 63)) ||| 0) <<< ((4 : Int32).toInt64 &&& 63)) ||| 0) <<< ((2 : Int32).toInt64 &&& 63)) ||| 3) <<< ((1 : Int32).toInt64 &&& 63)) ||| 0) <<< ((3 : Int32).toInt64 &&& 63)) ||| 0) <<< ((1 : Int32).toInt64 &&& 63)) ||| 0) <<< ((3 : Int32).toInt64 &&& 63)) ||| 0) <<< ((1 : Int32).toInt64 &&& 63)) ||| 0) <<< ((4 : Int32).toInt64 &&& 63)) ||| 0) <<< ((2 : Int32).toInt64 &&& 63)) ||| 3) <<< ((1 : Int32).toInt64 &&& 63)) ||| 0) <<< ((3 : Int32).toInt64 &&& 63))]) b (c_X12_other_2 S ) cf_X12_other wm_X12_160 ws_X12_other dX12_packs_86 rfl (Nat.le_of_ble_eq_true rfl) ⟨by decide, by decide, by decide, by decide⟩) (fun r1006 u1007 h1005 => ?_)
  obtain ⟨rfl, rfl⟩ := h1005
  refine z_iadd (v := 6) b dX12_packs_89 (by decide) ?_
  refine y_iald (q0 := 2) (j := 6) (v := (ar S 1 6)) b (mw_2 cy a S) (by decide) rfl dX12_packs_90 ?_
  refine z_eqi h_a_1_6 ?_
  refine z_i2l (v := 0) b dX12_packs_91 (by decide) ?_
  refine z_lor b dX12_packs_92 rfl ?_
  refine z_lstore_n (lv' := [(1, .long (((((((((((((((((((((((((((((48 ||| ((ar S 1 1) : Int32).toInt64) <<< ((1 : Int32).toInt64 &&& 63)) ||| 0) <<< ((3 : Int32).toInt64 &&& 63)) ||| 0) <<< ((1 : Int32).toInt64 &&& 63)) ||| 0) <<< ((4 : Int32).toInt64 &&& 63)) ||| 0) <<< ((2 : Int32).toInt64 &&& 63)) ||| 3) <<< ((1 : Int32).toInt64 &&& 63)) ||| 0) <<< ((3 : Int32).toInt64 &&& 63)) ||| 0) <<< ((1 : Int32).toInt64 &&& 63)) ||| 0) <<< ((3 : Int32).toInt64 &&& 63)) ||| 0) <<< ((1 : Int32).toInt64 &&& 63)) ||| 0) <<< ((4 : Int32).toInt64 &&& 63)) ||| 0) <<< ((2 : Int32).toInt64 &&& 63)) ||| 3) <<< ((1 : Int32).toInt64 &&& 63)) ||| 0) <<< ((3 : Int32).toInt64 &&& 63)) ||| 0)), (4, .int 0), (3, .int 2), (0, .ref (a 0))]) b dX12_packs_93 rfl (by decide) rfl ?_
  refine z_lload_n b dX12_packs_94 rfl rfl ?_
  refine z_iconst (v := 1) b dX12_packs_95 (by decide) ?_
  refine z_lshl b dX12_packs_96 rfl ?_
  refine z_aload_n b dX12_packs_97 rfl rfl ?_
  refine z_get (q0 := 0) (k9 := 4) (v := .ref (a 5)) b (mw_0 cy a S) rfl in_X12 (by decide) wf_X12_27 rfl dX12_packs_98 ?_
  refine z_iconst (v := 3) b dX12_packs_101 (by decide) ?_
  refine z_iload_n b dX12_packs_102 rfl rfl ?_
  refine z_imul (v := 6) b dX12_packs_103 (by decide) ?_
  refine z_iload_n b dX12_packs_104 rfl rfl ?_
  refine z_iload b dX12_packs_105 rfl ?_
  refine z_calli b (z_runS (As := [.int 2, .int 0]) (st := [.int 6, .ref (a 5), .long ((((((((((((((((((((((((((((((48 ||| ((ar S 1 1) : Int32).toInt64) <<< ((1 : Int32).toInt64 &&& 63)) ||| 0) <<< ((3 : Int32).toInt64 &&& 63)) ||| 0) <<< ((1 : Int32).toInt64 &&& 63)) ||| 0) <<< ((4 : Int32).toInt64 &&& 63)) ||| 0) <<< ((2 : Int32).toInt64 &&& 63)) ||| 3) <<< ((1 : Int32).toInt64 &&& 63)) ||| 0) <<< ((3 : Int32).toInt64 &&& 63)) ||| 0) <<< ((1 : Int32).toInt64 &&& 63)) ||| 0) <<< ((3 : Int32).toInt64 &&& 63)) ||| 0) <<< ((1 : Int32).toInt64 &&& 63)) ||| 0) <<< ((4 : Int32).toInt64 &&& 63)) ||| 0) <<< ((2 : Int32).toInt64 &&& 63)) ||| 3) <<< ((1 : Int32).toInt64 &&& 63)) ||| 0) <<< ((3 : Int32).toInt64 &&& 63)) ||| 0) <<< ((1 : Int32).toInt64 &&& 63))]) b (c_X12_other_2 S ) cf_X12_other wm_X12_160 ws_X12_other dX12_packs_107 rfl (Nat.le_of_ble_eq_true rfl) ⟨by decide, by decide, by decide, by decide⟩) (fun r1009 u1010 h1008 => ?_)
  obtain ⟨rfl, rfl⟩ := h1008
  refine z_iadd (v := 6) b dX12_packs_110 (by decide) ?_
  refine y_zald (q0 := 5) (j := 6) (v := (ar S 4 6)) b (mw_5 cy a S) (by decide) rfl dX12_packs_111 ?_
  refine z_eqi h_a_4_6 ?_
  refine z_if_eq_t (tgt := 119) b dX12_packs_112 (by decide) (by decide) ?_
  refine z_lconst (v := 0) b dX12_packs_119 (by decide) ?_
  refine z_lor b dX12_packs_120 rfl ?_
  refine z_lstore_n (lv' := [(1, .long (((((((((((((((((((((((((((((((48 ||| ((ar S 1 1) : Int32).toInt64) <<< ((1 : Int32).toInt64 &&& 63)) ||| 0) <<< ((3 : Int32).toInt64 &&& 63)) ||| 0) <<< ((1 : Int32).toInt64 &&& 63)) ||| 0) <<< ((4 : Int32).toInt64 &&& 63)) ||| 0) <<< ((2 : Int32).toInt64 &&& 63)) ||| 3) <<< ((1 : Int32).toInt64 &&& 63)) ||| 0) <<< ((3 : Int32).toInt64 &&& 63)) ||| 0) <<< ((1 : Int32).toInt64 &&& 63)) ||| 0) <<< ((3 : Int32).toInt64 &&& 63)) ||| 0) <<< ((1 : Int32).toInt64 &&& 63)) ||| 0) <<< ((4 : Int32).toInt64 &&& 63)) ||| 0) <<< ((2 : Int32).toInt64 &&& 63)) ||| 3) <<< ((1 : Int32).toInt64 &&& 63)) ||| 0) <<< ((3 : Int32).toInt64 &&& 63)) ||| 0) <<< ((1 : Int32).toInt64 &&& 63)) ||| 0)), (4, .int 0), (3, .int 2), (0, .ref (a 0))]) b dX12_packs_121 rfl (by decide) rfl ?_
  refine z_iinc (k9 := 1) (v := 1) (lv' := [(4, .int 1), (1, .long (((((((((((((((((((((((((((((((48 ||| ((ar S 1 1) : Int32).toInt64) <<< ((1 : Int32).toInt64 &&& 63)) ||| 0) <<< ((3 : Int32).toInt64 &&& 63)) ||| 0) <<< ((1 : Int32).toInt64 &&& 63)) ||| 0) <<< ((4 : Int32).toInt64 &&& 63)) ||| 0) <<< ((2 : Int32).toInt64 &&& 63)) ||| 3) <<< ((1 : Int32).toInt64 &&& 63)) ||| 0) <<< ((3 : Int32).toInt64 &&& 63)) ||| 0) <<< ((1 : Int32).toInt64 &&& 63)) ||| 0) <<< ((3 : Int32).toInt64 &&& 63)) ||| 0) <<< ((1 : Int32).toInt64 &&& 63)) ||| 0) <<< ((4 : Int32).toInt64 &&& 63)) ||| 0) <<< ((2 : Int32).toInt64 &&& 63)) ||| 3) <<< ((1 : Int32).toInt64 &&& 63)) ||| 0) <<< ((3 : Int32).toInt64 &&& 63)) ||| 0) <<< ((1 : Int32).toInt64 &&& 63)) ||| 0)), (3, .int 2), (0, .ref (a 0))]) b dX12_packs_122 rfl (by decide) (by decide) rfl ?_
  refine z_goto (tgt := 67) b dX12_packs_125 (by decide) ?_
  refine z_iload b dX12_packs_67 rfl ?_
  refine z_iconst (v := 2) b dX12_packs_69 (by decide) ?_
  refine z_icmp_ge_f (tgt := 128) b dX12_packs_70 (by decide) (by decide) ?_
  refine z_lload_n b dX12_packs_73 rfl rfl ?_
  refine z_iconst (v := 3) b dX12_packs_74 (by decide) ?_
  refine z_lshl b dX12_packs_75 rfl ?_
  refine z_aload_n b dX12_packs_76 rfl rfl ?_
  refine z_get (q0 := 0) (k9 := 1) (v := .ref (a 2)) b (mw_0 cy a S) rfl in_X12 (by decide) wf_X12_17 rfl dX12_packs_77 ?_
  refine z_iconst (v := 3) b dX12_packs_80 (by decide) ?_
  refine z_iload_n b dX12_packs_81 rfl rfl ?_
  refine z_imul (v := 6) b dX12_packs_82 (by decide) ?_
  refine z_iload_n b dX12_packs_83 rfl rfl ?_
  refine z_iload b dX12_packs_84 rfl ?_
  refine z_calli b (z_runS (As := [.int 2, .int 1]) (st := [.int 6, .ref (a 2), .long ((((((((((((((((((((((((((((((((48 ||| ((ar S 1 1) : Int32).toInt64) <<< ((1 : Int32).toInt64 &&& 63)) ||| 0) <<< ((3 : Int32).toInt64 &&& 63)) ||| 0) <<< ((1 : Int32).toInt64 &&& 63)) ||| 0) <<< ((4 : Int32).toInt64 &&& 63)) ||| 0) <<< ((2 : Int32).toInt64 &&& 63)) ||| 3) <<< ((1 : Int32).toInt64 &&& 63)) ||| 0) <<< ((3 : Int32).toInt64 &&& 63)) ||| 0) <<< ((1 : Int32).toInt64 &&& 63)) ||| 0) <<< ((3 : Int32).toInt64 &&& 63)) ||| 0) <<< ((1 : Int32).toInt64 &&& 63)) ||| 0) <<< ((4 : Int32).toInt64 &&& 63)) ||| 0) <<< ((2 : Int32).toInt64 &&& 63)) ||| 3) <<< ((1 : Int32).toInt64 &&& 63)) ||| 0) <<< ((3 : Int32).toInt64 &&& 63)) ||| 0) <<< ((1 : Int32).toInt64 &&& 63)) ||| 0) <<< ((3 : Int32).toInt64 &&& 63))]) b (c_X12_other S ) cf_X12_other wm_X12_160 ws_X12_other dX12_packs_86 rfl (Nat.le_of_ble_eq_true rfl) ⟨by decide, by decide, by decide, by decide⟩) (fun r1012 u1013 h1011 => ?_)
  obtain ⟨rfl, rfl⟩ := h1011
  refine z_iadd (v := 7) b dX12_packs_89 (by decide) ?_
  refine y_iald (q0 := 2) (j := 7) (v := (ar S 1 7)) b (mw_2 cy a S) (by decide) rfl dX12_packs_90 ?_
  refine z_eqi h_a_1_7 ?_
  refine z_i2l (v := 0) b dX12_packs_91 (by decide) ?_
  refine z_lor b dX12_packs_92 rfl ?_
  refine z_lstore_n (lv' := [(1, .long (((((((((((((((((((((((((((((((((48 ||| ((ar S 1 1) : Int32).toInt64) <<< ((1 : Int32).toInt64 &&& 63)) ||| 0) <<< ((3 : Int32).toInt64 &&& 63)) ||| 0) <<< ((1 : Int32).toInt64 &&& 63)) ||| 0) <<< ((4 : Int32).toInt64 &&& 63)) ||| 0) <<< ((2 : Int32).toInt64 &&& 63)) ||| 3) <<< ((1 : Int32).toInt64 &&& 63)) ||| 0) <<< ((3 : Int32).toInt64 &&& 63)) ||| 0) <<< ((1 : Int32).toInt64 &&& 63)) ||| 0) <<< ((3 : Int32).toInt64 &&& 63)) ||| 0) <<< ((1 : Int32).toInt64 &&& 63)) ||| 0) <<< ((4 : Int32).toInt64 &&& 63)) ||| 0) <<< ((2 : Int32).toInt64 &&& 63)) ||| 3) <<< ((1 : Int32).toInt64 &&& 63)) ||| 0) <<< ((3 : Int32).toInt64 &&& 63)) ||| 0) <<< ((1 : Int32).toInt64 &&& 63)) ||| 0) <<< ((3 : Int32).toInt64 &&& 63)) ||| 0)), (4, .int 1), (3, .int 2), (0, .ref (a 0))]) b dX12_packs_93 rfl (by decide) rfl ?_
  refine z_lload_n b dX12_packs_94 rfl rfl ?_
  refine z_iconst (v := 1) b dX12_packs_95 (by decide) ?_
  refine z_lshl b dX12_packs_96 rfl ?_
  refine z_aload_n b dX12_packs_97 rfl rfl ?_
  refine z_get (q0 := 0) (k9 := 4) (v := .ref (a 5)) b (mw_0 cy a S) rfl in_X12 (by decide) wf_X12_27 rfl dX12_packs_98 ?_
  refine z_iconst (v := 3) b dX12_packs_101 (by decide) ?_
  refine z_iload_n b dX12_packs_102 rfl rfl ?_
  refine z_imul (v := 6) b dX12_packs_103 (by decide) ?_
  refine z_iload_n b dX12_packs_104 rfl rfl ?_
  refine z_iload b dX12_packs_105 rfl ?_
  refine z_calli b (z_runS (As := [.int 2, .int 1]) (st := [.int 6, .ref (a 5), .long ((((((((((((((((((((((((((((((((((48 ||| ((ar S 1 1) : Int32).toInt64) <<< ((1 : Int32).toInt64 &&& 63)) ||| 0) <<< ((3 : Int32).toInt64 &&& 63)) ||| 0) <<< ((1 : Int32).toInt64 &&& 63)) ||| 0) <<< ((4 : Int32).toInt64 &&& 63)) ||| 0) <<< ((2 : Int32).toInt64 &&& 63)) ||| 3) <<< ((1 : Int32).toInt64 &&& 63)) ||| 0) <<< ((3 : Int32).toInt64 &&& 63)) ||| 0) <<< ((1 : Int32).toInt64 &&& 63)) ||| 0) <<< ((3 : Int32).toInt64 &&& 63)) ||| 0) <<< ((1 : Int32).toInt64 &&& 63)) ||| 0) <<< ((4 : Int32).toInt64 &&& 63)) ||| 0) <<< ((2 : Int32).toInt64 &&& 63)) ||| 3) <<< ((1 : Int32).toInt64 &&& 63)) ||| 0) <<< ((3 : Int32).toInt64 &&& 63)) ||| 0) <<< ((1 : Int32).toInt64 &&& 63)) ||| 0) <<< ((3 : Int32).toInt64 &&& 63)) ||| 0) <<< ((1 : Int32).toInt64 &&& 63))]) b (c_X12_other S ) cf_X12_other wm_X12_160 ws_X12_other dX12_packs_107 rfl (Nat.le_of_ble_eq_true rfl) ⟨by decide, by decide, by decide, by decide⟩) (fun r1015 u1016 h1014 => ?_)
  obtain ⟨rfl, rfl⟩ := h1014
  refine z_iadd (v := 7) b dX12_packs_110 (by decide) ?_
  refine y_zald (q0 := 5) (j := 7) (v := (ar S 4 7)) b (mw_5 cy a S) (by decide) rfl dX12_packs_111 ?_
  refine z_eqi h_a_4_7 ?_
  refine z_if_eq_t (tgt := 119) b dX12_packs_112 (by decide) (by decide) ?_
  refine z_lconst (v := 0) b dX12_packs_119 (by decide) ?_
  refine z_lor b dX12_packs_120 rfl ?_
  refine z_lstore_n (lv' := [(1, .long (((((((((((((((((((((((((((((((((((48 ||| ((ar S 1 1) : Int32).toInt64) <<< ((1 : Int32).toInt64 &&& 63)) ||| 0) <<< ((3 : Int32).toInt64 &&& 63)) ||| 0) <<< ((1 : Int32).toInt64 &&& 63)) ||| 0) <<< ((4 : Int32).toInt64 &&& 63)) ||| 0) <<< ((2 : Int32).toInt64 &&& 63)) ||| 3) <<< ((1 : Int32).toInt64 &&& 63)) ||| 0) <<< ((3 : Int32).toInt64 &&& 63)) ||| 0) <<< ((1 : Int32).toInt64 &&& 63)) ||| 0) <<< ((3 : Int32).toInt64 &&& 63)) ||| 0) <<< ((1 : Int32).toInt64 &&& 63)) ||| 0) <<< ((4 : Int32).toInt64 &&& 63)) ||| 0) <<< ((2 : Int32).toInt64 &&& 63)) ||| 3) <<< ((1 : Int32).toInt64 &&& 63)) ||| 0) <<< ((3 : Int32).toInt64 &&& 63)) ||| 0) <<< ((1 : Int32).toInt64 &&& 63)) ||| 0) <<< ((3 : Int32).toInt64 &&& 63)) ||| 0) <<< ((1 : Int32).toInt64 &&& 63)) ||| 0)), (4, .int 1), (3, .int 2), (0, .ref (a 0))]) b dX12_packs_121 rfl (by decide) rfl ?_
  refine z_iinc (k9 := 1) (v := 2) (lv' := [(4, .int 2), (1, .long (((((((((((((((((((((((((((((((((((48 ||| ((ar S 1 1) : Int32).toInt64) <<< ((1 : Int32).toInt64 &&& 63)) ||| 0) <<< ((3 : Int32).toInt64 &&& 63)) ||| 0) <<< ((1 : Int32).toInt64 &&& 63)) ||| 0) <<< ((4 : Int32).toInt64 &&& 63)) ||| 0) <<< ((2 : Int32).toInt64 &&& 63)) ||| 3) <<< ((1 : Int32).toInt64 &&& 63)) ||| 0) <<< ((3 : Int32).toInt64 &&& 63)) ||| 0) <<< ((1 : Int32).toInt64 &&& 63)) ||| 0) <<< ((3 : Int32).toInt64 &&& 63)) ||| 0) <<< ((1 : Int32).toInt64 &&& 63)) ||| 0) <<< ((4 : Int32).toInt64 &&& 63)) ||| 0) <<< ((2 : Int32).toInt64 &&& 63)) ||| 3) <<< ((1 : Int32).toInt64 &&& 63)) ||| 0) <<< ((3 : Int32).toInt64 &&& 63)) ||| 0) <<< ((1 : Int32).toInt64 &&& 63)) ||| 0) <<< ((3 : Int32).toInt64 &&& 63)) ||| 0) <<< ((1 : Int32).toInt64 &&& 63)) ||| 0)), (3, .int 2), (0, .ref (a 0))]) b dX12_packs_122 rfl (by decide) (by decide) rfl ?_
  refine z_goto (tgt := 67) b dX12_packs_125 (by decide) ?_
  refine z_iload b dX12_packs_67 rfl ?_
  refine z_iconst (v := 2) b dX12_packs_69 (by decide) ?_
  refine z_icmp_ge_t (tgt := 128) b dX12_packs_70 (by decide) (by decide) ?_
  refine z_iinc (k9 := 2) (v := 3) (lv' := [(3, .int 3), (4, .int 2), (1, .long (((((((((((((((((((((((((((((((((((48 ||| ((ar S 1 1) : Int32).toInt64) <<< ((1 : Int32).toInt64 &&& 63)) ||| 0) <<< ((3 : Int32).toInt64 &&& 63)) ||| 0) <<< ((1 : Int32).toInt64 &&& 63)) ||| 0) <<< ((4 : Int32).toInt64 &&& 63)) ||| 0) <<< ((2 : Int32).toInt64 &&& 63)) ||| 3) <<< ((1 : Int32).toInt64 &&& 63)) ||| 0) <<< ((3 : Int32).toInt64 &&& 63)) ||| 0) <<< ((1 : Int32).toInt64 &&& 63)) ||| 0) <<< ((3 : Int32).toInt64 &&& 63)) ||| 0) <<< ((1 : Int32).toInt64 &&& 63)) ||| 0) <<< ((4 : Int32).toInt64 &&& 63)) ||| 0) <<< ((2 : Int32).toInt64 &&& 63)) ||| 3) <<< ((1 : Int32).toInt64 &&& 63)) ||| 0) <<< ((3 : Int32).toInt64 &&& 63)) ||| 0) <<< ((1 : Int32).toInt64 &&& 63)) ||| 0) <<< ((3 : Int32).toInt64 &&& 63)) ||| 0) <<< ((1 : Int32).toInt64 &&& 63)) ||| 0)), (0, .ref (a 0))]) b dX12_packs_128 rfl (by decide) (by decide) rfl ?_
  refine z_goto (tgt := 8) b dX12_packs_131 (by decide) ?_
  refine z_iload_n b dX12_packs_8 rfl rfl ?_
  refine z_iconst (v := 3) b dX12_packs_9 (by decide) ?_
  refine z_icmp_ge_t (tgt := 134) b dX12_packs_10 (by decide) (by decide) ?_
  refine z_lload_n b dX12_packs_134 rfl rfl ?_
  exact z_lret (u := S) b rfl dX12_packs_135 ⟨rfl, rfl⟩ rfl (by decide) (by decide)

set_option maxHeartbeats 4000000 in
set_option maxRecDepth 100000 in
theorem c_X12_told_8 {l : Launch} {D : va_G} {cy : Nat → ClassId} {T0 tB tE : Nat} {a : Nat → Nat} (S : GS)  (h_i_0 : fi S 0 = 0) (h_a_0_0 : ar S 0 0 = 0) (h_a_2_0 : ar S 2 0 = 3) (h_a_3_1 : ar S 3 1 = 0) (h_a_4_1 : ar S 4 1 = 0) (h_a_1_2 : ar S 1 2 = 0) (h_a_4_2 : ar S 4 2 = 0) (h_a_0_1 : ar S 0 1 = 0) (h_a_2_1 : ar S 2 1 = 3) (h_a_3_5 : ar S 3 5 = 0) (h_a_1_5 : ar S 1 5 = 0) (h_a_4_5 : ar S 4 5 = 0) (h_a_1_3 : ar S 1 3 = 0) (h_a_4_3 : ar S 4 3 = 0) (h_a_0_2 : ar S 0 2 = 0) (h_a_2_2 : ar S 2 2 = 3) (h_a_3_6 : ar S 3 6 = 0) (h_a_1_6 : ar S 1 6 = 0) (h_a_4_6 : ar S 4 6 = 0) (h_a_1_7 : ar S 1 7 = 0) (h_a_4_7 : ar S 4 7 = 0) : Ct l D cy T0 tB tE yX12_told cX12_told 1 (some .boolean) 2 45 0 0 (mw cy a S) [.ref (a 0)] (QI D (U := GS) (fun r u => 1 = r ∧ sl S 0 (((((((((((((((((((((((((((((((((((48 ||| ((ar S 1 1) : Int32).toInt64) <<< ((1 : Int32).toInt64 &&& 63)) ||| 0) <<< ((3 : Int32).toInt64 &&& 63)) ||| 0) <<< ((1 : Int32).toInt64 &&& 63)) ||| 0) <<< ((4 : Int32).toInt64 &&& 63)) ||| 0) <<< ((2 : Int32).toInt64 &&& 63)) ||| 3) <<< ((1 : Int32).toInt64 &&& 63)) ||| 0) <<< ((3 : Int32).toInt64 &&& 63)) ||| 0) <<< ((1 : Int32).toInt64 &&& 63)) ||| 0) <<< ((3 : Int32).toInt64 &&& 63)) ||| 0) <<< ((1 : Int32).toInt64 &&& 63)) ||| 0) <<< ((4 : Int32).toInt64 &&& 63)) ||| 0) <<< ((2 : Int32).toInt64 &&& 63)) ||| 3) <<< ((1 : Int32).toInt64 &&& 63)) ||| 0) <<< ((3 : Int32).toInt64 &&& 63)) ||| 0) <<< ((1 : Int32).toInt64 &&& 63)) ||| 0) <<< ((3 : Int32).toInt64 &&& 63)) ||| 0) <<< ((1 : Int32).toInt64 &&& 63)) ||| 0) = u) (mw cy a)) := by
  refine Ct.ofZ RX12 "told" [(0, .ref (a 0))] rfl rfl rfl rfl (Nat.le_of_ble_eq_true rfl) ?_
  intro p e R s m args below meth c A b
  refine z_aload_n b dX12_told_0 rfl rfl ?_
  refine z_aload_n b dX12_told_1 rfl rfl ?_
  refine z_calll b (z_runV (q0 := 0) (As := []) (st := [.ref (a 0)]) b (c_X12_packs_8 S h_i_0 h_a_0_0 h_a_2_0 h_a_3_1 h_a_4_1 h_a_1_2 h_a_4_2 h_a_0_1 h_a_2_1 h_a_3_5 h_a_1_5 h_a_4_5 h_a_1_3 h_a_4_3 h_a_0_2 h_a_2_2 h_a_3_6 h_a_1_6 h_a_4_6 h_a_1_7 h_a_4_7) cf_X12_packs (mw_0 cy a S) rfl wm_X12_149 wi_X12_packs ws_X12_packs dX12_told_2 rfl (Nat.le_of_ble_eq_true rfl) ⟨by decide, by decide, by decide, by decide⟩) (fun r1018 u1019 h1017 => ?_)
  obtain ⟨rfl, rfl⟩ := h1017
  refine z_put (q0 := 0) (k9 := 6) tyX12 b (mw_0 cy a S) rfl in_X12 tyX12_ok nmX12 (by decide) wf_X12_153 rfl rfl rfl rfl (Nat.le_of_ble_eq_true rfl) dX12_told_5 (mwp_0_6 cy a S (((((((((((((((((((((((((((((((((((48 ||| ((ar S 1 1) : Int32).toInt64) <<< ((1 : Int32).toInt64 &&& 63)) ||| 0) <<< ((3 : Int32).toInt64 &&& 63)) ||| 0) <<< ((1 : Int32).toInt64 &&& 63)) ||| 0) <<< ((4 : Int32).toInt64 &&& 63)) ||| 0) <<< ((2 : Int32).toInt64 &&& 63)) ||| 3) <<< ((1 : Int32).toInt64 &&& 63)) ||| 0) <<< ((3 : Int32).toInt64 &&& 63)) ||| 0) <<< ((1 : Int32).toInt64 &&& 63)) ||| 0) <<< ((3 : Int32).toInt64 &&& 63)) ||| 0) <<< ((1 : Int32).toInt64 &&& 63)) ||| 0) <<< ((4 : Int32).toInt64 &&& 63)) ||| 0) <<< ((2 : Int32).toInt64 &&& 63)) ||| 3) <<< ((1 : Int32).toInt64 &&& 63)) ||| 0) <<< ((3 : Int32).toInt64 &&& 63)) ||| 0) <<< ((1 : Int32).toInt64 &&& 63)) ||| 0) <<< ((3 : Int32).toInt64 &&& 63)) ||| 0) <<< ((1 : Int32).toInt64 &&& 63)) ||| 0)) ?_
  refine z_iconst (v := 1) b dX12_told_8 (by decide) ?_
  exact z_zret (u := (sl S 0 (((((((((((((((((((((((((((((((((((48 ||| ((ar S 1 1) : Int32).toInt64) <<< ((1 : Int32).toInt64 &&& 63)) ||| 0) <<< ((3 : Int32).toInt64 &&& 63)) ||| 0) <<< ((1 : Int32).toInt64 &&& 63)) ||| 0) <<< ((4 : Int32).toInt64 &&& 63)) ||| 0) <<< ((2 : Int32).toInt64 &&& 63)) ||| 3) <<< ((1 : Int32).toInt64 &&& 63)) ||| 0) <<< ((3 : Int32).toInt64 &&& 63)) ||| 0) <<< ((1 : Int32).toInt64 &&& 63)) ||| 0) <<< ((3 : Int32).toInt64 &&& 63)) ||| 0) <<< ((1 : Int32).toInt64 &&& 63)) ||| 0) <<< ((4 : Int32).toInt64 &&& 63)) ||| 0) <<< ((2 : Int32).toInt64 &&& 63)) ||| 3) <<< ((1 : Int32).toInt64 &&& 63)) ||| 0) <<< ((3 : Int32).toInt64 &&& 63)) ||| 0) <<< ((1 : Int32).toInt64 &&& 63)) ||| 0) <<< ((3 : Int32).toInt64 &&& 63)) ||| 0) <<< ((1 : Int32).toInt64 &&& 63)) ||| 0))) b rfl (by decide) dX12_told_9 ⟨rfl, rfl⟩ rfl (by decide) (by decide)

set_option maxHeartbeats 4000000 in
set_option maxRecDepth 100000 in
theorem c_X12_debt_13 {l : Launch} {D : va_G} {cy : Nat → ClassId} {T0 tB tE : Nat} {a : Nat → Nat} (S : GS) (p0 : Int32) (h_l_0 : fl S 0 = 1649317774848) (h_a_4_7 : ar S 4 7 = 0) (h_a_1_7 : ar S 1 7 = 0) (h_a_4_6 : ar S 4 6 = 0) (h_a_1_6 : ar S 1 6 = 0) (h_a_3_6 : ar S 3 6 = 0) (h_a_3_2 : ar S 3 2 = 0) (h_a_2_2 : ar S 2 2 = 3) (h_a_0_2 : ar S 0 2 = 0) (h_a_4_3 : ar S 4 3 = 0) (h_a_1_3 : ar S 1 3 = 0) (h_a_4_5 : ar S 4 5 = 0) (h_a_1_5 : ar S 1 5 = 0) (h_a_3_5 : ar S 3 5 = 0) (h_a_3_7 : ar S 3 7 = 0) (h_a_2_1 : ar S 2 1 = 3) (h_a_0_1 : ar S 0 1 = 0) (h_a_4_2 : ar S 4 2 = 0) (h_a_1_2 : ar S 1 2 = 0) (h_a_4_1 : ar S 4 1 = 0) (h_a_1_1 : ar S 1 1 = 0) (h_a_3_1 : ar S 3 1 = 0) (h_a_3_3 : ar S 3 3 = 0) (h_a_2_0 : ar S 2 0 = 3) (h_a_0_0 : ar S 0 0 = 0) (h_i_0 : fi S 0 = 0) (hr_p0 : 0 ≤ p0.toInt ∧ p0.toInt ≤ 7) : Ct l D cy T0 tB tE yX12_debt cX12_debt 4 (some .boolean) 3 65 0 0 (mw cy a S) [.ref (a 0), .int 0, .int 1, .int p0] (QI D (U := GS) (fun r u => 1 = r ∧ sl (su S 1 1 p0) 0 (((((((((((((((((((((((((((((((((((48 ||| ((ar (su S 1 1 p0) 1 1) : Int32).toInt64) <<< ((1 : Int32).toInt64 &&& 63)) ||| 0) <<< ((3 : Int32).toInt64 &&& 63)) ||| 0) <<< ((1 : Int32).toInt64 &&& 63)) ||| 0) <<< ((4 : Int32).toInt64 &&& 63)) ||| 0) <<< ((2 : Int32).toInt64 &&& 63)) ||| 3) <<< ((1 : Int32).toInt64 &&& 63)) ||| 0) <<< ((3 : Int32).toInt64 &&& 63)) ||| 0) <<< ((1 : Int32).toInt64 &&& 63)) ||| 0) <<< ((3 : Int32).toInt64 &&& 63)) ||| 0) <<< ((1 : Int32).toInt64 &&& 63)) ||| 0) <<< ((4 : Int32).toInt64 &&& 63)) ||| 0) <<< ((2 : Int32).toInt64 &&& 63)) ||| 3) <<< ((1 : Int32).toInt64 &&& 63)) ||| 0) <<< ((3 : Int32).toInt64 &&& 63)) ||| 0) <<< ((1 : Int32).toInt64 &&& 63)) ||| 0) <<< ((3 : Int32).toInt64 &&& 63)) ||| 0) <<< ((1 : Int32).toInt64 &&& 63)) ||| 0) = u) (mw cy a)) := by
  refine Ct.ofZ RX12 "debt" [(0, .ref (a 0)), (1, .int 0), (2, .int 1), (3, .int p0)] rfl rfl rfl rfl (Nat.le_of_ble_eq_true rfl) ?_
  intro p e R s m args below meth c A b
  refine z_iload_n b dX12_debt_0 rfl rfl ?_
  refine z_calli b (z_runS (As := [.int 0]) (st := []) b (c_X12_isOne_3 S ) cf_X12_isOne wm_X12_170 ws_X12_isOne dX12_debt_1 rfl (Nat.le_of_ble_eq_true rfl) ⟨by decide, by decide, by decide, by decide⟩) (fun r959 u960 h958 => ?_)
  obtain ⟨rfl, rfl⟩ := h958
  refine z_if_eq_f (tgt := 29) b dX12_debt_4 (by decide) (by decide) ?_
  refine z_iload_n b dX12_debt_7 rfl rfl ?_
  refine z_calli b (z_runS (As := [.int 1]) (st := []) b (c_X12_isOne_4 S ) cf_X12_isOne wm_X12_170 ws_X12_isOne dX12_debt_8 rfl (Nat.le_of_ble_eq_true rfl) ⟨by decide, by decide, by decide, by decide⟩) (fun r962 u963 h961 => ?_)
  obtain ⟨rfl, rfl⟩ := h961
  refine z_if_eq_f (tgt := 29) b dX12_debt_11 (by decide) (by decide) ?_
  refine z_iload_n b dX12_debt_14 rfl rfl ?_
  refine z_iload_n b dX12_debt_15 rfl rfl ?_
  refine z_icmp_eq_f (tgt := 29) b dX12_debt_16 (by decide) (by decide) ?_
  refine z_iload_n b dX12_debt_19 rfl rfl ?_
  refine z_iconst (v := 0) b dX12_debt_20 (by decide) ?_
  refine z_bipush (v := 7) b dX12_debt_21 (by decide) ?_
  refine z_calli b (z_runS (As := [.int p0, .int 0, .int 7]) (st := []) b (c_X12_isIn_13 S p0 ⟨by omega, by omega⟩) cf_X12_isIn wm_X12_1 ws_X12_isIn dX12_debt_23 rfl (Nat.le_of_ble_eq_true rfl) ⟨by decide, by decide, by decide, by decide⟩) (fun r967 u968 h966 => ?_)
  obtain ⟨rfl, rfl⟩ := h966
  refine z_if_ne_t (tgt := 31) b dX12_debt_26 (by decide) (by decide) ?_
  refine z_aload_n b dX12_debt_31 rfl rfl ?_
  refine z_aload_n b dX12_debt_32 rfl rfl ?_
  refine z_get (q0 := 0) (k9 := 6) (v := .long (fl S 0)) b (mw_0 cy a S) rfl in_X12 (by decide) wf_X12_153 rfl dX12_debt_33 ?_
  refine z_eql h_l_0 ?_
  refine z_callv b (z_runV (q0 := 0) (As := [.long 1649317774848]) (st := []) b (c_X12_takes S h_a_4_7 h_a_1_7 h_a_4_6 h_a_1_6 h_a_3_6 h_a_3_2 h_a_2_2 h_a_0_2 h_a_4_3 h_a_1_3 h_a_4_5 h_a_1_5 h_a_3_5 h_a_3_7 h_a_2_1 h_a_0_1 h_a_4_2 h_a_1_2 h_a_4_1 h_a_1_1 h_a_3_1 h_a_3_3 h_a_2_0 h_a_0_0 h_i_0) cf_X12_takes (mw_0 cy a S) rfl wm_X12_174 wi_X12_takes ws_X12_takes dX12_debt_36 rfl (Nat.le_of_ble_eq_true rfl) ⟨by decide, by decide, by decide, by decide⟩) (fun u971 h969 => ?_)
  obtain rfl := h969
  refine z_aload_n b dX12_debt_39 rfl rfl ?_
  refine z_get (q0 := 0) (k9 := 1) (v := .ref (a 2)) b (mw_0 cy a S) rfl in_X12 (by decide) wf_X12_17 rfl dX12_debt_40 ?_
  refine z_iconst (v := 3) b dX12_debt_43 (by decide) ?_
  refine z_iload_n b dX12_debt_44 rfl rfl ?_
  refine z_imul (v := 0) b dX12_debt_45 (by decide) ?_
  refine z_iload_n b dX12_debt_46 rfl rfl ?_
  refine z_iadd (v := 1) b dX12_debt_47 (by decide) ?_
  refine z_iload_n b dX12_debt_48 rfl rfl ?_
  refine y_iast (q0 := 2) (j := 1) b (mw_2 cy a S) (by decide) dX12_debt_49 (mwa_2 cy a S 1 p0) ?_
  refine z_aload_n b dX12_debt_50 rfl rfl ?_
  refine z_calli b (z_runV (q0 := 0) (As := []) (st := []) b (c_X12_told_8 (su S 1 1 p0) h_i_0 h_a_0_0 h_a_2_0 h_a_3_1 h_a_4_1 h_a_1_2 h_a_4_2 h_a_0_1 h_a_2_1 h_a_3_5 h_a_1_5 h_a_4_5 h_a_1_3 h_a_4_3 h_a_0_2 h_a_2_2 h_a_3_6 h_a_1_6 h_a_4_6 h_a_1_7 h_a_4_7) cf_X12_told (mw_0 cy a (su S 1 1 p0)) rfl wm_X12_178 wi_X12_told ws_X12_told dX12_debt_51 rfl (Nat.le_of_ble_eq_true rfl) ⟨by decide, by decide, by decide, by decide⟩) (fun r1021 u1022 h1020 => ?_)
  obtain ⟨rfl, rfl⟩ := h1020
  exact z_zret (u := (sl (su S 1 1 p0) 0 (((((((((((((((((((((((((((((((((((48 ||| ((ar (su S 1 1 p0) 1 1) : Int32).toInt64) <<< ((1 : Int32).toInt64 &&& 63)) ||| 0) <<< ((3 : Int32).toInt64 &&& 63)) ||| 0) <<< ((1 : Int32).toInt64 &&& 63)) ||| 0) <<< ((4 : Int32).toInt64 &&& 63)) ||| 0) <<< ((2 : Int32).toInt64 &&& 63)) ||| 3) <<< ((1 : Int32).toInt64 &&& 63)) ||| 0) <<< ((3 : Int32).toInt64 &&& 63)) ||| 0) <<< ((1 : Int32).toInt64 &&& 63)) ||| 0) <<< ((3 : Int32).toInt64 &&& 63)) ||| 0) <<< ((1 : Int32).toInt64 &&& 63)) ||| 0) <<< ((4 : Int32).toInt64 &&& 63)) ||| 0) <<< ((2 : Int32).toInt64 &&& 63)) ||| 3) <<< ((1 : Int32).toInt64 &&& 63)) ||| 0) <<< ((3 : Int32).toInt64 &&& 63)) ||| 0) <<< ((1 : Int32).toInt64 &&& 63)) ||| 0) <<< ((3 : Int32).toInt64 &&& 63)) ||| 0) <<< ((1 : Int32).toInt64 &&& 63)) ||| 0))) b rfl (by decide) dX12_debt_54 ⟨rfl, rfl⟩ rfl (by decide) (by decide)

set_option maxHeartbeats 4000000 in
set_option maxRecDepth 100000 in
theorem c_X11_isWithin_9 {l : Launch} {D : va_G} {cy : Nat → ClassId} {T0 tB tE : Nat} {a : Nat → Nat} {rw : Nat → Option Nat} (S : GS) (p0 : Int32)  (hr_p0 : 8 ≤ p0.toInt ∧ p0.toInt ≤ 2147483647) : Ct l D cy T0 tB tE yX11_isWithin cX11_isWithin 2 (some .boolean) 0 0 0 0 (cw cy tE a rw S) [.int p0, .int 7] (QI D (U := GS) (fun r u => 0 = r ∧ S = u) (cw cy tE a rw)) := by
  refine Ct.ofZ RX11 "isWithin" [(0, .int p0), (1, .int 7)] rfl rfl rfl rfl (Nat.le_of_ble_eq_true rfl) ?_
  intro p e R s m args below meth c A b
  refine z_iload_n b dX11_isWithin_0 rfl rfl ?_
  refine y_if_lt (tgt := 13) (xl := p0.toInt) b rfl dX11_isWithin_1 (by decide) (fun c1026 => ?_) (fun c1026 => ?_)
  · exfalso; omega
  · refine z_iload_n b dX11_isWithin_4 rfl rfl ?_
    refine z_iload_n b dX11_isWithin_5 rfl rfl ?_
    refine y_icmp_gt (tgt := 13) (xl := p0.toInt) (yl := 7) b rfl (by decide) dX11_isWithin_6 (by decide) (fun c1027 => ?_) (fun c1027 => ?_)
    · refine z_iconst (v := 0) b dX11_isWithin_13 (by decide) ?_
      exact z_zret (u := S) b rfl (by decide) dX11_isWithin_14 ⟨rfl, rfl⟩ rfl (by decide) (by decide)
    · exfalso; omega

set_option maxHeartbeats 4000000 in
set_option maxRecDepth 100000 in
theorem c_X11_debt_14 {l : Launch} {D : va_G} {cy : Nat → ClassId} {T0 tB tE : Nat} {a : Nat → Nat} {rw : Nat → Option Nat} (S : GS) (p0 : Int32)  (hr_p0 : 8 ≤ p0.toInt ∧ p0.toInt ≤ 2147483647) : Ct l D cy T0 tB tE yX11_debt cX11_debt 4 (some .boolean) 2 41 0 0 (cw cy tE a rw S) [.ref (a 0), .int 0, .int 1, .int p0] (QI D (U := GS) (fun r u => 0 = r ∧ S = u) (cw cy tE a rw)) := by
  refine Ct.ofZ RX11 "debt" [(0, .ref (a 0)), (1, .int 0), (2, .int 1), (3, .int p0)] rfl rfl rfl rfl (Nat.le_of_ble_eq_true rfl) ?_
  intro p e R s m args below meth c A b
  refine z_iload_n b dX11_debt_0 rfl rfl ?_
  refine z_iload_n b dX11_debt_1 rfl rfl ?_
  refine z_calli b (z_runS (As := [.int 0, .int 1]) (st := []) b (c_X11_arePair_12 S ) cf_X11_arePair wm_X11_84 ws_X11_arePair dX11_debt_2 rfl (Nat.le_of_ble_eq_true rfl) ⟨by decide, by decide, by decide, by decide⟩) (fun r1024 u1025 h1023 => ?_)
  obtain ⟨rfl, rfl⟩ := h1023
  refine z_if_eq_f (tgt := 17) b dX11_debt_5 (by decide) (by decide) ?_
  refine z_iload_n b dX11_debt_8 rfl rfl ?_
  refine z_bipush (v := 7) b dX11_debt_9 (by decide) ?_
  refine z_calli b (z_runS (As := [.int p0, .int 7]) (st := []) b (c_X11_isWithin_9 S p0 ⟨by omega, by omega⟩) cf_X11_isWithin wm_X11_73 ws_X11_isWithin dX11_debt_11 rfl (Nat.le_of_ble_eq_true rfl) ⟨by decide, by decide, by decide, by decide⟩) (fun r1029 u1030 h1028 => ?_)
  obtain ⟨rfl, rfl⟩ := h1028
  refine z_if_ne_f (tgt := 19) b dX11_debt_14 (by decide) (by decide) ?_
  refine z_iconst (v := 0) b dX11_debt_17 (by decide) ?_
  exact z_zret (u := S) b rfl (by decide) dX11_debt_18 ⟨rfl, rfl⟩ rfl (by decide) (by decide)

set_option maxHeartbeats 4000000 in
set_option maxRecDepth 100000 in
theorem c_X12_isIn_14 {l : Launch} {D : va_G} {cy : Nat → ClassId} {T0 tB tE : Nat} {a : Nat → Nat} (S : GS) (p0 : Int32)  (hr_p0 : 8 ≤ p0.toInt ∧ p0.toInt ≤ 2147483647) : Ct l D cy T0 tB tE yX12_isIn cX12_isIn 3 (some .boolean) 0 0 0 0 (mw cy a S) [.int p0, .int 0, .int 7] (QI D (U := GS) (fun r u => 0 = r ∧ S = u) (mw cy a)) := by
  refine Ct.ofZ RX12 "isIn" [(0, .int p0), (1, .int 0), (2, .int 7)] rfl rfl rfl rfl (Nat.le_of_ble_eq_true rfl) ?_
  intro p e R s m args below meth c A b
  refine z_iload_n b dX12_isIn_0 rfl rfl ?_
  refine z_iload_n b dX12_isIn_1 rfl rfl ?_
  refine y_icmp_lt (tgt := 14) (xl := p0.toInt) (yl := 0) b rfl (by decide) dX12_isIn_2 (by decide) (fun c1037 => ?_) (fun c1037 => ?_)
  · exfalso; omega
  · refine z_iload_n b dX12_isIn_5 rfl rfl ?_
    refine z_iload_n b dX12_isIn_6 rfl rfl ?_
    refine y_icmp_gt (tgt := 14) (xl := p0.toInt) (yl := 7) b rfl (by decide) dX12_isIn_7 (by decide) (fun c1038 => ?_) (fun c1038 => ?_)
    · refine z_iconst (v := 0) b dX12_isIn_14 (by decide) ?_
      exact z_zret (u := S) b rfl (by decide) dX12_isIn_15 ⟨rfl, rfl⟩ rfl (by decide) (by decide)
    · exfalso; omega

set_option maxHeartbeats 4000000 in
set_option maxRecDepth 100000 in
theorem c_X12_debt_14 {l : Launch} {D : va_G} {cy : Nat → ClassId} {T0 tB tE : Nat} {a : Nat → Nat} (S : GS) (p0 : Int32)  (hr_p0 : 8 ≤ p0.toInt ∧ p0.toInt ≤ 2147483647) : Ct l D cy T0 tB tE yX12_debt cX12_debt 4 (some .boolean) 2 42 0 0 (mw cy a S) [.ref (a 0), .int 0, .int 1, .int p0] (QI D (U := GS) (fun r u => 0 = r ∧ S = u) (mw cy a)) := by
  refine Ct.ofZ RX12 "debt" [(0, .ref (a 0)), (1, .int 0), (2, .int 1), (3, .int p0)] rfl rfl rfl rfl (Nat.le_of_ble_eq_true rfl) ?_
  intro p e R s m args below meth c A b
  refine z_iload_n b dX12_debt_0 rfl rfl ?_
  refine z_calli b (z_runS (As := [.int 0]) (st := []) b (c_X12_isOne_3 S ) cf_X12_isOne wm_X12_170 ws_X12_isOne dX12_debt_1 rfl (Nat.le_of_ble_eq_true rfl) ⟨by decide, by decide, by decide, by decide⟩) (fun r1032 u1033 h1031 => ?_)
  obtain ⟨rfl, rfl⟩ := h1031
  refine z_if_eq_f (tgt := 29) b dX12_debt_4 (by decide) (by decide) ?_
  refine z_iload_n b dX12_debt_7 rfl rfl ?_
  refine z_calli b (z_runS (As := [.int 1]) (st := []) b (c_X12_isOne_4 S ) cf_X12_isOne wm_X12_170 ws_X12_isOne dX12_debt_8 rfl (Nat.le_of_ble_eq_true rfl) ⟨by decide, by decide, by decide, by decide⟩) (fun r1035 u1036 h1034 => ?_)
  obtain ⟨rfl, rfl⟩ := h1034
  refine z_if_eq_f (tgt := 29) b dX12_debt_11 (by decide) (by decide) ?_
  refine z_iload_n b dX12_debt_14 rfl rfl ?_
  refine z_iload_n b dX12_debt_15 rfl rfl ?_
  refine z_icmp_eq_f (tgt := 29) b dX12_debt_16 (by decide) (by decide) ?_
  refine z_iload_n b dX12_debt_19 rfl rfl ?_
  refine z_iconst (v := 0) b dX12_debt_20 (by decide) ?_
  refine z_bipush (v := 7) b dX12_debt_21 (by decide) ?_
  refine z_calli b (z_runS (As := [.int p0, .int 0, .int 7]) (st := []) b (c_X12_isIn_14 S p0 ⟨by omega, by omega⟩) cf_X12_isIn wm_X12_1 ws_X12_isIn dX12_debt_23 rfl (Nat.le_of_ble_eq_true rfl) ⟨by decide, by decide, by decide, by decide⟩) (fun r1040 u1041 h1039 => ?_)
  obtain ⟨rfl, rfl⟩ := h1039
  refine z_if_ne_f (tgt := 31) b dX12_debt_26 (by decide) (by decide) ?_
  refine z_iconst (v := 0) b dX12_debt_29 (by decide) ?_
  exact z_zret (u := S) b rfl (by decide) dX12_debt_30 ⟨rfl, rfl⟩ rfl (by decide) (by decide)

set_option maxHeartbeats 4000000 in
set_option maxRecDepth 100000 in
theorem c_X11_arePair_13 {l : Launch} {D : va_G} {cy : Nat → ClassId} {T0 tB tE : Nat} {a : Nat → Nat} {rw : Nat → Option Nat} (S : GS)   : Ct l D cy T0 tB tE yX11_arePair cX11_arePair 2 (some .boolean) 1 20 0 0 (cw cy tE a rw S) [.int 0, .int 2] (QI D (U := GS) (fun r u => 1 = r ∧ S = u) (cw cy tE a rw)) := by
  refine Ct.ofZ RX11 "arePair" [(0, .int 0), (1, .int 2)] rfl rfl rfl rfl (Nat.le_of_ble_eq_true rfl) ?_
  intro p e R s m args below meth c A b
  refine z_iload_n b dX11_arePair_0 rfl rfl ?_
  refine z_calli b (z_runS (As := [.int 0]) (st := []) b (c_X11_isPerson_3 S ) cf_X11_isPerson wm_X11_69 ws_X11_isPerson dX11_arePair_1 rfl (Nat.le_of_ble_eq_true rfl) ⟨by decide, by decide, by decide, by decide⟩) (fun r1043 u1044 h1042 => ?_)
  obtain ⟨rfl, rfl⟩ := h1042
  refine z_if_eq_f (tgt := 23) b dX11_arePair_4 (by decide) (by decide) ?_
  refine z_iload_n b dX11_arePair_7 rfl rfl ?_
  refine z_calli b (z_runS (As := [.int 2]) (st := []) b (c_X11_isPerson_5 S ) cf_X11_isPerson wm_X11_69 ws_X11_isPerson dX11_arePair_8 rfl (Nat.le_of_ble_eq_true rfl) ⟨by decide, by decide, by decide, by decide⟩) (fun r1046 u1047 h1045 => ?_)
  obtain ⟨rfl, rfl⟩ := h1045
  refine z_if_eq_f (tgt := 23) b dX11_arePair_11 (by decide) (by decide) ?_
  refine z_iload_n b dX11_arePair_14 rfl rfl ?_
  refine z_iload_n b dX11_arePair_15 rfl rfl ?_
  refine z_icmp_eq_f (tgt := 23) b dX11_arePair_16 (by decide) (by decide) ?_
  refine z_iconst (v := 1) b dX11_arePair_19 (by decide) ?_
  refine z_goto (tgt := 24) b dX11_arePair_20 (by decide) ?_
  exact z_zret (u := S) b rfl (by decide) dX11_arePair_24 ⟨rfl, rfl⟩ rfl (by decide) (by decide)

set_option maxHeartbeats 4000000 in
set_option maxRecDepth 100000 in
theorem c_X11_debt_15 {l : Launch} {D : va_G} {cy : Nat → ClassId} {T0 tB tE : Nat} {a : Nat → Nat} {rw : Nat → Option Nat} (S : GS) (p0 : Int32)  (hr_p0 : (-2147483648) ≤ p0.toInt ∧ p0.toInt ≤ (-1)) : Ct l D cy T0 tB tE yX11_debt cX11_debt 4 (some .boolean) 2 41 0 0 (cw cy tE a rw S) [.ref (a 0), .int 0, .int 2, .int p0] (QI D (U := GS) (fun r u => 0 = r ∧ S = u) (cw cy tE a rw)) := by
  refine Ct.ofZ RX11 "debt" [(0, .ref (a 0)), (1, .int 0), (2, .int 2), (3, .int p0)] rfl rfl rfl rfl (Nat.le_of_ble_eq_true rfl) ?_
  intro p e R s m args below meth c A b
  refine z_iload_n b dX11_debt_0 rfl rfl ?_
  refine z_iload_n b dX11_debt_1 rfl rfl ?_
  refine z_calli b (z_runS (As := [.int 0, .int 2]) (st := []) b (c_X11_arePair_13 S ) cf_X11_arePair wm_X11_84 ws_X11_arePair dX11_debt_2 rfl (Nat.le_of_ble_eq_true rfl) ⟨by decide, by decide, by decide, by decide⟩) (fun r1049 u1050 h1048 => ?_)
  obtain ⟨rfl, rfl⟩ := h1048
  refine z_if_eq_f (tgt := 17) b dX11_debt_5 (by decide) (by decide) ?_
  refine z_iload_n b dX11_debt_8 rfl rfl ?_
  refine z_bipush (v := 7) b dX11_debt_9 (by decide) ?_
  refine z_calli b (z_runS (As := [.int p0, .int 7]) (st := []) b (c_X11_isWithin_7 S p0 ⟨by omega, by omega⟩) cf_X11_isWithin wm_X11_73 ws_X11_isWithin dX11_debt_11 rfl (Nat.le_of_ble_eq_true rfl) ⟨by decide, by decide, by decide, by decide⟩) (fun r1052 u1053 h1051 => ?_)
  obtain ⟨rfl, rfl⟩ := h1051
  refine z_if_ne_f (tgt := 19) b dX11_debt_14 (by decide) (by decide) ?_
  refine z_iconst (v := 0) b dX11_debt_17 (by decide) ?_
  exact z_zret (u := S) b rfl (by decide) dX11_debt_18 ⟨rfl, rfl⟩ rfl (by decide) (by decide)

set_option maxHeartbeats 4000000 in
set_option maxRecDepth 100000 in
theorem c_X12_debt_15 {l : Launch} {D : va_G} {cy : Nat → ClassId} {T0 tB tE : Nat} {a : Nat → Nat} (S : GS) (p0 : Int32)  (hr_p0 : (-2147483648) ≤ p0.toInt ∧ p0.toInt ≤ (-1)) : Ct l D cy T0 tB tE yX12_debt cX12_debt 4 (some .boolean) 2 42 0 0 (mw cy a S) [.ref (a 0), .int 0, .int 2, .int p0] (QI D (U := GS) (fun r u => 0 = r ∧ S = u) (mw cy a)) := by
  refine Ct.ofZ RX12 "debt" [(0, .ref (a 0)), (1, .int 0), (2, .int 2), (3, .int p0)] rfl rfl rfl rfl (Nat.le_of_ble_eq_true rfl) ?_
  intro p e R s m args below meth c A b
  refine z_iload_n b dX12_debt_0 rfl rfl ?_
  refine z_calli b (z_runS (As := [.int 0]) (st := []) b (c_X12_isOne_3 S ) cf_X12_isOne wm_X12_170 ws_X12_isOne dX12_debt_1 rfl (Nat.le_of_ble_eq_true rfl) ⟨by decide, by decide, by decide, by decide⟩) (fun r1055 u1056 h1054 => ?_)
  obtain ⟨rfl, rfl⟩ := h1054
  refine z_if_eq_f (tgt := 29) b dX12_debt_4 (by decide) (by decide) ?_
  refine z_iload_n b dX12_debt_7 rfl rfl ?_
  refine z_calli b (z_runS (As := [.int 2]) (st := []) b (c_X12_isOne_5 S ) cf_X12_isOne wm_X12_170 ws_X12_isOne dX12_debt_8 rfl (Nat.le_of_ble_eq_true rfl) ⟨by decide, by decide, by decide, by decide⟩) (fun r1058 u1059 h1057 => ?_)
  obtain ⟨rfl, rfl⟩ := h1057
  refine z_if_eq_f (tgt := 29) b dX12_debt_11 (by decide) (by decide) ?_
  refine z_iload_n b dX12_debt_14 rfl rfl ?_
  refine z_iload_n b dX12_debt_15 rfl rfl ?_
  refine z_icmp_eq_f (tgt := 29) b dX12_debt_16 (by decide) (by decide) ?_
  refine z_iload_n b dX12_debt_19 rfl rfl ?_
  refine z_iconst (v := 0) b dX12_debt_20 (by decide) ?_
  refine z_bipush (v := 7) b dX12_debt_21 (by decide) ?_
  refine z_calli b (z_runS (As := [.int p0, .int 0, .int 7]) (st := []) b (c_X12_isIn_12 S p0 ⟨by omega, by omega⟩) cf_X12_isIn wm_X12_1 ws_X12_isIn dX12_debt_23 rfl (Nat.le_of_ble_eq_true rfl) ⟨by decide, by decide, by decide, by decide⟩) (fun r1061 u1062 h1060 => ?_)
  obtain ⟨rfl, rfl⟩ := h1060
  refine z_if_ne_f (tgt := 31) b dX12_debt_26 (by decide) (by decide) ?_
  refine z_iconst (v := 0) b dX12_debt_29 (by decide) ?_
  exact z_zret (u := S) b rfl (by decide) dX12_debt_30 ⟨rfl, rfl⟩ rfl (by decide) (by decide)

set_option maxHeartbeats 4000000 in
set_option maxRecDepth 100000 in
theorem c_X9_set_9 {l : Launch} {D : va_G} {cy : Nat → ClassId} {T0 tB tE : Nat} {a : Nat → Nat} {rw : Nat → Option Nat} (S : GS) (p0 : Int32)  (hr_p0 : 0 ≤ p0.toInt ∧ p0.toInt ≤ 7) : Ct l D cy T0 tB tE yX9_set cX9_set 3 none 0 0 0 0 (cw cy tE a rw S) [.ref (a 14), .int 12, .int p0] (QV D (U := GS) (fun u => su S 4 12 p0 = u) (cw cy tE a rw)) := by
  refine Ct.ofZ RX9 "set" [(0, .ref (a 14)), (1, .int 12), (2, .int p0)] rfl rfl rfl rfl (Nat.le_of_ble_eq_true rfl) ?_
  intro p e R s m args below meth c A b
  refine z_iload_n b dX9_set_0 rfl rfl ?_
  refine z_if_lt_f (tgt := 20) b dX9_set_1 (by decide) (by decide) ?_
  refine z_iload_n b dX9_set_4 rfl rfl ?_
  refine z_aload_n b dX9_set_5 rfl rfl ?_
  refine z_get (q0 := 14) (k9 := 0) (v := .ref (a 15)) b (cw_14 cy tE a rw S) rfl in_X9 (by decide) wf_X9_11 rfl dX9_set_6 ?_
  refine z_alen (q0 := 15) (t0 := 0) (v := 51) b (cw_15 cy tE a rw S) rfl rfl dX9_set_9 ?_
  refine z_icmp_ge_f (tgt := 20) b dX9_set_10 (by decide) (by decide) ?_
  refine z_aload_n b dX9_set_13 rfl rfl ?_
  refine z_get (q0 := 14) (k9 := 0) (v := .ref (a 15)) b (cw_14 cy tE a rw S) rfl in_X9 (by decide) wf_X9_11 rfl dX9_set_14 ?_
  refine z_iload_n b dX9_set_17 rfl rfl ?_
  refine z_iload_n b dX9_set_18 rfl rfl ?_
  refine y_iast (q0 := 15) (j := 12) b (cw_15 cy tE a rw S) (by decide) dX9_set_19 (cwa_15 cy tE a rw S 12 p0) ?_
  exact z_vret (u := (su S 4 12 p0)) b rfl dX9_set_20 rfl rfl (by decide) (by decide)

set_option maxHeartbeats 4000000 in
set_option maxRecDepth 100000 in
theorem c_X11_debt_16 {l : Launch} {D : va_G} {cy : Nat → ClassId} {T0 tB tE : Nat} {a : Nat → Nat} {rw : Nat → Option Nat} (S : GS) (p0 : Int32) (h_i_24 : fi S 24 = 0) (hr_p0 : 0 ≤ p0.toInt ∧ p0.toInt ≤ 7) : Ct l D cy T0 tB tE yX11_debt cX11_debt 4 (some .boolean) 2 41 0 0 (cw cy tE a rw S) [.ref (a 0), .int 0, .int 2, .int p0] (QI D (U := GS) (fun r u => 1 = r ∧ (su S 4 12 p0) = u) (cw cy tE a rw)) := by
  refine Ct.ofZ RX11 "debt" [(0, .ref (a 0)), (1, .int 0), (2, .int 2), (3, .int p0)] rfl rfl rfl rfl (Nat.le_of_ble_eq_true rfl) ?_
  intro p e R s m args below meth c A b
  refine z_iload_n b dX11_debt_0 rfl rfl ?_
  refine z_iload_n b dX11_debt_1 rfl rfl ?_
  refine z_calli b (z_runS (As := [.int 0, .int 2]) (st := []) b (c_X11_arePair_13 S ) cf_X11_arePair wm_X11_84 ws_X11_arePair dX11_debt_2 rfl (Nat.le_of_ble_eq_true rfl) ⟨by decide, by decide, by decide, by decide⟩) (fun r1064 u1065 h1063 => ?_)
  obtain ⟨rfl, rfl⟩ := h1063
  refine z_if_eq_f (tgt := 17) b dX11_debt_5 (by decide) (by decide) ?_
  refine z_iload_n b dX11_debt_8 rfl rfl ?_
  refine z_bipush (v := 7) b dX11_debt_9 (by decide) ?_
  refine z_calli b (z_runS (As := [.int p0, .int 7]) (st := []) b (c_X11_isWithin_8 S p0 ⟨by omega, by omega⟩) cf_X11_isWithin wm_X11_73 ws_X11_isWithin dX11_debt_11 rfl (Nat.le_of_ble_eq_true rfl) ⟨by decide, by decide, by decide, by decide⟩) (fun r1067 u1068 h1066 => ?_)
  obtain ⟨rfl, rfl⟩ := h1066
  refine z_if_ne_t (tgt := 19) b dX11_debt_14 (by decide) (by decide) ?_
  refine z_aload_n b dX11_debt_19 rfl rfl ?_
  refine z_get (q0 := 0) (k9 := 4) (v := .ref (a 14)) b (cw_0 cy tE a rw S) rfl in_X11 (by decide) wf_X11_34 rfl dX11_debt_20 ?_
  refine z_bipush (v := 10) b dX11_debt_23 (by decide) ?_
  refine z_iconst (v := 3) b dX11_debt_25 (by decide) ?_
  refine z_iload_n b dX11_debt_26 rfl rfl ?_
  refine z_imul (v := 0) b dX11_debt_27 (by decide) ?_
  refine z_iadd (v := 10) b dX11_debt_28 (by decide) ?_
  refine z_iload_n b dX11_debt_29 rfl rfl ?_
  refine z_iadd (v := 12) b dX11_debt_30 (by decide) ?_
  refine z_iload_n b dX11_debt_31 rfl rfl ?_
  refine z_callv b (z_runV (q0 := 14) (As := [.int 12, .int p0]) (st := []) b (c_X9_set_9 S p0 ⟨by omega, by omega⟩) cf_X9_set (cw_14 cy tE a rw S) rfl wm_X11_77 wi_X9_set ws_X9_set dX11_debt_32 rfl (Nat.le_of_ble_eq_true rfl) ⟨by decide, by decide, by decide, by decide⟩) (fun u1071 h1069 => ?_)
  obtain rfl := h1069
  refine z_aload_n b dX11_debt_35 rfl rfl ?_
  refine z_get (q0 := 0) (k9 := 6) (v := .ref (a 25)) b (cw_0 cy tE a rw (su S 4 12 p0)) rfl in_X11 (by decide) wf_X11_52 rfl dX11_debt_36 ?_
  refine z_callv b (z_runV (q0 := 25) (As := []) (st := []) b (c_X8_forget (su S 4 12 p0) h_i_24) cf_X8_forget (cw_25 cy tE a rw (su S 4 12 p0)) rfl wm_X11_81 wi_X8_forget ws_X8_forget dX11_debt_39 rfl (Nat.le_of_ble_eq_true rfl) ⟨by decide, by decide, by decide, by decide⟩) (fun u1074 h1072 => ?_)
  obtain rfl := h1072
  refine z_iconst (v := 1) b dX11_debt_42 (by decide) ?_
  exact z_zret (u := (su S 4 12 p0)) b rfl (by decide) dX11_debt_43 ⟨rfl, rfl⟩ rfl (by decide) (by decide)

set_option maxHeartbeats 4000000 in
set_option maxRecDepth 100000 in
theorem ch_X12_packs_20 {p : Program} {l : Launch} {e : Env} {R : Room} {s : State} {m : MethodId} {args : Array Value} {below : List Frame} {meth : Method} {c : Code} {D : va_G} {cy : Nat → ClassId} {T0 tB tE : Nat} {A : Nat → Prop} {Q : State → Prop} {a : Nat → Nat} (S : GS)  (h_a_0_0 : ar S 0 0 = 0) (h_a_0_1 : ar S 0 1 = 0) (h_a_1_1 : ar S 1 1 = 0) (h_a_2_0 : ar S 2 0 = 3) (h_a_3_1 : ar S 3 1 = 0) (h_a_4_1 : ar S 4 1 = 0) (h_a_4_2 : ar S 4 2 = 0) (h_i_0 : fi S 0 = 0) (b : Bz p R s m args meth c D cy T0 tB tE A 5 cX12_packs RX12 (some .long) "packs" 1 21 0 0) (k : Z p l e R s m args below meth c D A 5 Q 0 0 (mw cy a S) [(3, .int 1), (4, .int 2), (1, .long (((768 ||| ((ar S 1 2) : Int32).toInt64) <<< ((1 : Int32).toInt64 &&& 63)) ||| 0)), (0, .ref (a 0))] 22 [.int 0, .long ((((768 ||| ((ar S 1 2) : Int32).toInt64) <<< ((1 : Int32).toInt64 &&& 63)) ||| 0) <<< ((4 : Int32).toInt64 &&& 63))]) : Z p l e R s m args below meth c D A 5 Q 0 0 (mw cy a S) [(0, .ref (a 0))] 0 [] := by
  refine z_aload_n b dX12_packs_0 rfl rfl ?_
  refine z_get (q0 := 0) (k9 := 5) (v := .int (fi S 0)) b (mw_0 cy a S) rfl in_X12 (by decide) wf_X12_157 rfl dX12_packs_1 ?_
  refine z_eqi h_i_0 ?_
  refine z_i2l (v := 0) b dX12_packs_4 (by decide) ?_
  refine z_lstore_n (lv' := [(1, .long 0), (0, .ref (a 0))]) b dX12_packs_5 rfl (by decide) rfl ?_
  refine z_iconst (v := 0) b dX12_packs_6 (by decide) ?_
  refine z_istore_n (lv' := [(3, .int 0), (1, .long 0), (0, .ref (a 0))]) b dX12_packs_7 rfl (by decide) rfl ?_
  refine z_iload_n b dX12_packs_8 rfl rfl ?_
  refine z_iconst (v := 3) b dX12_packs_9 (by decide) ?_
  refine z_icmp_ge_f (tgt := 134) b dX12_packs_10 (by decide) (by decide) ?_
  refine z_lload_n b dX12_packs_13 rfl rfl ?_
  refine z_iconst (v := 4) b dX12_packs_14 (by decide) ?_
  refine z_lshl (v := 0) b dX12_packs_15 (by decide) ?_
  refine z_aload_n b dX12_packs_16 rfl rfl ?_
  refine z_get (q0 := 0) (k9 := 0) (v := .ref (a 1)) b (mw_0 cy a S) rfl in_X12 (by decide) wf_X12_13 rfl dX12_packs_17 ?_
  refine z_iload_n b dX12_packs_20 rfl rfl ?_
  refine y_iald (q0 := 1) (j := 0) (v := (ar S 0 0)) b (mw_1 cy a S) (by decide) rfl dX12_packs_21 ?_
  refine z_eqi h_a_0_0 ?_
  refine z_i2l (v := 0) b dX12_packs_22 (by decide) ?_
  refine z_lor (v := 0) b dX12_packs_23 (by decide) ?_
  refine z_lstore_n (lv' := [(1, .long 0), (3, .int 0), (0, .ref (a 0))]) b dX12_packs_24 rfl (by decide) rfl ?_
  refine z_lload_n b dX12_packs_25 rfl rfl ?_
  refine z_iconst (v := 2) b dX12_packs_26 (by decide) ?_
  refine z_lshl (v := 0) b dX12_packs_27 (by decide) ?_
  refine z_aload_n b dX12_packs_28 rfl rfl ?_
  refine z_get (q0 := 0) (k9 := 2) (v := .ref (a 3)) b (mw_0 cy a S) rfl in_X12 (by decide) wf_X12_20 rfl dX12_packs_29 ?_
  refine z_iload_n b dX12_packs_32 rfl rfl ?_
  refine y_iald (q0 := 3) (j := 0) (v := (ar S 2 0)) b (mw_3 cy a S) (by decide) rfl dX12_packs_33 ?_
  refine z_eqi h_a_2_0 ?_
  refine z_i2l (v := 3) b dX12_packs_34 (by decide) ?_
  refine z_lor (v := 3) b dX12_packs_35 (by decide) ?_
  refine z_lstore_n (lv' := [(1, .long 3), (3, .int 0), (0, .ref (a 0))]) b dX12_packs_36 rfl (by decide) rfl ?_
  refine z_lload_n b dX12_packs_37 rfl rfl ?_
  refine z_iconst (v := 1) b dX12_packs_38 (by decide) ?_
  refine z_lshl (v := 6) b dX12_packs_39 (by decide) ?_
  refine z_aload_n b dX12_packs_40 rfl rfl ?_
  refine z_get (q0 := 0) (k9 := 3) (v := .ref (a 4)) b (mw_0 cy a S) rfl in_X12 (by decide) wf_X12_23 rfl dX12_packs_41 ?_
  refine z_iconst (v := 3) b dX12_packs_44 (by decide) ?_
  refine z_iload_n b dX12_packs_45 rfl rfl ?_
  refine z_imul (v := 0) b dX12_packs_46 (by decide) ?_
  refine z_iload_n b dX12_packs_47 rfl rfl ?_
  refine z_iconst (v := 0) b dX12_packs_48 (by decide) ?_
  refine z_calli b (z_runS (As := [.int 0, .int 0]) (st := [.int 0, .ref (a 4), .long 6]) b (c_X12_other_6 S ) cf_X12_other wm_X12_160 ws_X12_other dX12_packs_49 rfl (Nat.le_of_ble_eq_true rfl) ⟨by decide, by decide, by decide, by decide⟩) (fun r1088 u1089 h1087 => ?_)
  obtain ⟨rfl, rfl⟩ := h1087
  refine z_iadd (v := 1) b dX12_packs_52 (by decide) ?_
  refine y_zald (q0 := 4) (j := 1) (v := (ar S 3 1)) b (mw_4 cy a S) (by decide) rfl dX12_packs_53 ?_
  refine z_eqi h_a_3_1 ?_
  refine z_if_eq_t (tgt := 61) b dX12_packs_54 (by decide) (by decide) ?_
  refine z_lconst (v := 0) b dX12_packs_61 (by decide) ?_
  refine z_lor (v := 6) b dX12_packs_62 (by decide) ?_
  refine z_lstore_n (lv' := [(1, .long 6), (3, .int 0), (0, .ref (a 0))]) b dX12_packs_63 rfl (by decide) rfl ?_
  refine z_iconst (v := 0) b dX12_packs_64 (by decide) ?_
  refine z_istore (lv' := [(4, .int 0), (1, .long 6), (3, .int 0), (0, .ref (a 0))]) b dX12_packs_65 (by decide) rfl ?_
  refine z_iload b dX12_packs_67 rfl ?_
  refine z_iconst (v := 2) b dX12_packs_69 (by decide) ?_
  refine z_icmp_ge_f (tgt := 128) b dX12_packs_70 (by decide) (by decide) ?_
  refine z_lload_n b dX12_packs_73 rfl rfl ?_
  refine z_iconst (v := 3) b dX12_packs_74 (by decide) ?_
  refine z_lshl (v := 48) b dX12_packs_75 (by decide) ?_
  refine z_aload_n b dX12_packs_76 rfl rfl ?_
  refine z_get (q0 := 0) (k9 := 1) (v := .ref (a 2)) b (mw_0 cy a S) rfl in_X12 (by decide) wf_X12_17 rfl dX12_packs_77 ?_
  refine z_iconst (v := 3) b dX12_packs_80 (by decide) ?_
  refine z_iload_n b dX12_packs_81 rfl rfl ?_
  refine z_imul (v := 0) b dX12_packs_82 (by decide) ?_
  refine z_iload_n b dX12_packs_83 rfl rfl ?_
  refine z_iload b dX12_packs_84 rfl ?_
  refine z_calli b (z_runS (As := [.int 0, .int 0]) (st := [.int 0, .ref (a 2), .long 48]) b (c_X12_other_6 S ) cf_X12_other wm_X12_160 ws_X12_other dX12_packs_86 rfl (Nat.le_of_ble_eq_true rfl) ⟨by decide, by decide, by decide, by decide⟩) (fun r1091 u1092 h1090 => ?_)
  obtain ⟨rfl, rfl⟩ := h1090
  refine z_iadd (v := 1) b dX12_packs_89 (by decide) ?_
  refine y_iald (q0 := 2) (j := 1) (v := (ar S 1 1)) b (mw_2 cy a S) (by decide) rfl dX12_packs_90 ?_
  refine z_eqi h_a_1_1 ?_
  refine z_i2l (v := 0) b dX12_packs_91 (by decide) ?_
  refine z_lor (v := 48) b dX12_packs_92 (by decide) ?_
  refine z_lstore_n (lv' := [(1, .long 48), (4, .int 0), (3, .int 0), (0, .ref (a 0))]) b dX12_packs_93 rfl (by decide) rfl ?_
  refine z_lload_n b dX12_packs_94 rfl rfl ?_
  refine z_iconst (v := 1) b dX12_packs_95 (by decide) ?_
  refine z_lshl (v := 96) b dX12_packs_96 (by decide) ?_
  refine z_aload_n b dX12_packs_97 rfl rfl ?_
  refine z_get (q0 := 0) (k9 := 4) (v := .ref (a 5)) b (mw_0 cy a S) rfl in_X12 (by decide) wf_X12_27 rfl dX12_packs_98 ?_
  refine z_iconst (v := 3) b dX12_packs_101 (by decide) ?_
  refine z_iload_n b dX12_packs_102 rfl rfl ?_
  refine z_imul (v := 0) b dX12_packs_103 (by decide) ?_
  refine z_iload_n b dX12_packs_104 rfl rfl ?_
  refine z_iload b dX12_packs_105 rfl ?_
  refine z_calli b (z_runS (As := [.int 0, .int 0]) (st := [.int 0, .ref (a 5), .long 96]) b (c_X12_other_6 S ) cf_X12_other wm_X12_160 ws_X12_other dX12_packs_107 rfl (Nat.le_of_ble_eq_true rfl) ⟨by decide, by decide, by decide, by decide⟩) (fun r1094 u1095 h1093 => ?_)
  obtain ⟨rfl, rfl⟩ := h1093
  refine z_iadd (v := 1) b dX12_packs_110 (by decide) ?_
  refine y_zald (q0 := 5) (j := 1) (v := (ar S 4 1)) b (mw_5 cy a S) (by decide) rfl dX12_packs_111 ?_
  refine z_eqi h_a_4_1 ?_
  refine z_if_eq_t (tgt := 119) b dX12_packs_112 (by decide) (by decide) ?_
  refine z_lconst (v := 0) b dX12_packs_119 (by decide) ?_
  refine z_lor (v := 96) b dX12_packs_120 (by decide) ?_
  refine z_lstore_n (lv' := [(1, .long 96), (4, .int 0), (3, .int 0), (0, .ref (a 0))]) b dX12_packs_121 rfl (by decide) rfl ?_
  refine z_iinc (k9 := 1) (v := 1) (lv' := [(4, .int 1), (1, .long 96), (3, .int 0), (0, .ref (a 0))]) b dX12_packs_122 rfl (by decide) (by decide) rfl ?_
  refine z_goto (tgt := 67) b dX12_packs_125 (by decide) ?_
  refine z_iload b dX12_packs_67 rfl ?_
  refine z_iconst (v := 2) b dX12_packs_69 (by decide) ?_
  refine z_icmp_ge_f (tgt := 128) b dX12_packs_70 (by decide) (by decide) ?_
  refine z_lload_n b dX12_packs_73 rfl rfl ?_
  refine z_iconst (v := 3) b dX12_packs_74 (by decide) ?_
  refine z_lshl (v := 768) b dX12_packs_75 (by decide) ?_
  refine z_aload_n b dX12_packs_76 rfl rfl ?_
  refine z_get (q0 := 0) (k9 := 1) (v := .ref (a 2)) b (mw_0 cy a S) rfl in_X12 (by decide) wf_X12_17 rfl dX12_packs_77 ?_
  refine z_iconst (v := 3) b dX12_packs_80 (by decide) ?_
  refine z_iload_n b dX12_packs_81 rfl rfl ?_
  refine z_imul (v := 0) b dX12_packs_82 (by decide) ?_
  refine z_iload_n b dX12_packs_83 rfl rfl ?_
  refine z_iload b dX12_packs_84 rfl ?_
  refine z_calli b (z_runS (As := [.int 0, .int 1]) (st := [.int 0, .ref (a 2), .long 768]) b (c_X12_other_5 S ) cf_X12_other wm_X12_160 ws_X12_other dX12_packs_86 rfl (Nat.le_of_ble_eq_true rfl) ⟨by decide, by decide, by decide, by decide⟩) (fun r1097 u1098 h1096 => ?_)
  obtain ⟨rfl, rfl⟩ := h1096
  refine z_iadd (v := 2) b dX12_packs_89 (by decide) ?_
  refine y_iald (q0 := 2) (j := 2) (v := (ar S 1 2)) b (mw_2 cy a S) (by decide) rfl dX12_packs_90 ?_
  refine z_i2l b dX12_packs_91 rfl ?_
  refine z_lor b dX12_packs_92 rfl ?_
  refine z_lstore_n (lv' := [(1, .long (768 ||| ((ar S 1 2) : Int32).toInt64)), (4, .int 1), (3, .int 0), (0, .ref (a 0))]) b dX12_packs_93 rfl (by decide) rfl ?_
  refine z_lload_n b dX12_packs_94 rfl rfl ?_
  refine z_iconst (v := 1) b dX12_packs_95 (by decide) ?_
  refine z_lshl b dX12_packs_96 rfl ?_
  refine z_aload_n b dX12_packs_97 rfl rfl ?_
  refine z_get (q0 := 0) (k9 := 4) (v := .ref (a 5)) b (mw_0 cy a S) rfl in_X12 (by decide) wf_X12_27 rfl dX12_packs_98 ?_
  refine z_iconst (v := 3) b dX12_packs_101 (by decide) ?_
  refine z_iload_n b dX12_packs_102 rfl rfl ?_
  refine z_imul (v := 0) b dX12_packs_103 (by decide) ?_
  refine z_iload_n b dX12_packs_104 rfl rfl ?_
  refine z_iload b dX12_packs_105 rfl ?_
  refine z_calli b (z_runS (As := [.int 0, .int 1]) (st := [.int 0, .ref (a 5), .long ((768 ||| ((ar S 1 2) : Int32).toInt64) <<< ((1 : Int32).toInt64 &&& 63))]) b (c_X12_other_5 S ) cf_X12_other wm_X12_160 ws_X12_other dX12_packs_107 rfl (Nat.le_of_ble_eq_true rfl) ⟨by decide, by decide, by decide, by decide⟩) (fun r1100 u1101 h1099 => ?_)
  obtain ⟨rfl, rfl⟩ := h1099
  refine z_iadd (v := 2) b dX12_packs_110 (by decide) ?_
  refine y_zald (q0 := 5) (j := 2) (v := (ar S 4 2)) b (mw_5 cy a S) (by decide) rfl dX12_packs_111 ?_
  refine z_eqi h_a_4_2 ?_
  refine z_if_eq_t (tgt := 119) b dX12_packs_112 (by decide) (by decide) ?_
  refine z_lconst (v := 0) b dX12_packs_119 (by decide) ?_
  refine z_lor b dX12_packs_120 rfl ?_
  refine z_lstore_n (lv' := [(1, .long (((768 ||| ((ar S 1 2) : Int32).toInt64) <<< ((1 : Int32).toInt64 &&& 63)) ||| 0)), (4, .int 1), (3, .int 0), (0, .ref (a 0))]) b dX12_packs_121 rfl (by decide) rfl ?_
  refine z_iinc (k9 := 1) (v := 2) (lv' := [(4, .int 2), (1, .long (((768 ||| ((ar S 1 2) : Int32).toInt64) <<< ((1 : Int32).toInt64 &&& 63)) ||| 0)), (3, .int 0), (0, .ref (a 0))]) b dX12_packs_122 rfl (by decide) (by decide) rfl ?_
  refine z_goto (tgt := 67) b dX12_packs_125 (by decide) ?_
  refine z_iload b dX12_packs_67 rfl ?_
  refine z_iconst (v := 2) b dX12_packs_69 (by decide) ?_
  refine z_icmp_ge_t (tgt := 128) b dX12_packs_70 (by decide) (by decide) ?_
  refine z_iinc (k9 := 2) (v := 1) (lv' := [(3, .int 1), (4, .int 2), (1, .long (((768 ||| ((ar S 1 2) : Int32).toInt64) <<< ((1 : Int32).toInt64 &&& 63)) ||| 0)), (0, .ref (a 0))]) b dX12_packs_128 rfl (by decide) (by decide) rfl ?_
  refine z_goto (tgt := 8) b dX12_packs_131 (by decide) ?_
  refine z_iload_n b dX12_packs_8 rfl rfl ?_
  refine z_iconst (v := 3) b dX12_packs_9 (by decide) ?_
  refine z_icmp_ge_f (tgt := 134) b dX12_packs_10 (by decide) (by decide) ?_
  refine z_lload_n b dX12_packs_13 rfl rfl ?_
  refine z_iconst (v := 4) b dX12_packs_14 (by decide) ?_
  refine z_lshl b dX12_packs_15 rfl ?_
  refine z_aload_n b dX12_packs_16 rfl rfl ?_
  refine z_get (q0 := 0) (k9 := 0) (v := .ref (a 1)) b (mw_0 cy a S) rfl in_X12 (by decide) wf_X12_13 rfl dX12_packs_17 ?_
  refine z_iload_n b dX12_packs_20 rfl rfl ?_
  refine y_iald (q0 := 1) (j := 1) (v := (ar S 0 1)) b (mw_1 cy a S) (by decide) rfl dX12_packs_21 ?_
  refine z_eqi h_a_0_1 ?_
  exact k

set_option maxHeartbeats 4000000 in
set_option maxRecDepth 100000 in
theorem ch_X12_packs_21 {p : Program} {l : Launch} {e : Env} {R : Room} {s : State} {m : MethodId} {args : Array Value} {below : List Frame} {meth : Method} {c : Code} {D : va_G} {cy : Nat → ClassId} {T0 tB tE : Nat} {A : Nat → Prop} {Q : State → Prop} {a : Nat → Nat} (S : GS)  (h_a_0_2 : ar S 0 2 = 0) (h_a_1_3 : ar S 1 3 = 0) (h_a_1_5 : ar S 1 5 = 0) (h_a_2_1 : ar S 2 1 = 3) (h_a_2_2 : ar S 2 2 = 3) (h_a_3_5 : ar S 3 5 = 0) (h_a_4_3 : ar S 4 3 = 0) (h_a_4_5 : ar S 4 5 = 0) (b : Bz p R s m args meth c D cy T0 tB tE A 5 cX12_packs RX12 (some .long) "packs" 1 21 0 0) (k : Z p l e R s m args below meth c D A 5 Q 0 0 (mw cy a S) [(1, .long (((((((((((((((((((((768 ||| ((ar S 1 2) : Int32).toInt64) <<< ((1 : Int32).toInt64 &&& 63)) ||| 0) <<< ((4 : Int32).toInt64 &&& 63)) ||| 0) <<< ((2 : Int32).toInt64 &&& 63)) ||| 3) <<< ((1 : Int32).toInt64 &&& 63)) ||| 0) <<< ((3 : Int32).toInt64 &&& 63)) ||| 0) <<< ((1 : Int32).toInt64 &&& 63)) ||| 0) <<< ((3 : Int32).toInt64 &&& 63)) ||| 0) <<< ((1 : Int32).toInt64 &&& 63)) ||| 0) <<< ((4 : Int32).toInt64 &&& 63)) ||| 0) <<< ((2 : Int32).toInt64 &&& 63)) ||| 3)), (3, .int 2), (4, .int 2), (0, .ref (a 0))] 39 [.int 1, .long (((((((((((((((((((((768 ||| ((ar S 1 2) : Int32).toInt64) <<< ((1 : Int32).toInt64 &&& 63)) ||| 0) <<< ((4 : Int32).toInt64 &&& 63)) ||| 0) <<< ((2 : Int32).toInt64 &&& 63)) ||| 3) <<< ((1 : Int32).toInt64 &&& 63)) ||| 0) <<< ((3 : Int32).toInt64 &&& 63)) ||| 0) <<< ((1 : Int32).toInt64 &&& 63)) ||| 0) <<< ((3 : Int32).toInt64 &&& 63)) ||| 0) <<< ((1 : Int32).toInt64 &&& 63)) ||| 0) <<< ((4 : Int32).toInt64 &&& 63)) ||| 0) <<< ((2 : Int32).toInt64 &&& 63)) ||| 3)]) : Z p l e R s m args below meth c D A 5 Q 0 0 (mw cy a S) [(3, .int 1), (4, .int 2), (1, .long (((768 ||| ((ar S 1 2) : Int32).toInt64) <<< ((1 : Int32).toInt64 &&& 63)) ||| 0)), (0, .ref (a 0))] 22 [.int 0, .long ((((768 ||| ((ar S 1 2) : Int32).toInt64) <<< ((1 : Int32).toInt64 &&& 63)) ||| 0) <<< ((4 : Int32).toInt64 &&& 63))] := by
  refine z_i2l (v := 0) b dX12_packs_22 (by decide) ?_
  refine z_lor b dX12_packs_23 rfl ?_
  refine z_lstore_n (lv' := [(1, .long (((((768 ||| ((ar S 1 2) : Int32).toInt64) <<< ((1 : Int32).toInt64 &&& 63)) ||| 0) <<< ((4 : Int32).toInt64 &&& 63)) ||| 0)), (3, .int 1), (4, .int 2), (0, .ref (a 0))]) b dX12_packs_24 rfl (by decide) rfl ?_
  refine z_lload_n b dX12_packs_25 rfl rfl ?_
  refine z_iconst (v := 2) b dX12_packs_26 (by decide) ?_
  refine z_lshl b dX12_packs_27 rfl ?_
  refine z_aload_n b dX12_packs_28 rfl rfl ?_
  refine z_get (q0 := 0) (k9 := 2) (v := .ref (a 3)) b (mw_0 cy a S) rfl in_X12 (by decide) wf_X12_20 rfl dX12_packs_29 ?_
  refine z_iload_n b dX12_packs_32 rfl rfl ?_
  refine y_iald (q0 := 3) (j := 1) (v := (ar S 2 1)) b (mw_3 cy a S) (by decide) rfl dX12_packs_33 ?_
  refine z_eqi h_a_2_1 ?_
  refine z_i2l (v := 3) b dX12_packs_34 (by decide) ?_
  refine z_lor b dX12_packs_35 rfl ?_
  refine z_lstore_n (lv' := [(1, .long (((((((768 ||| ((ar S 1 2) : Int32).toInt64) <<< ((1 : Int32).toInt64 &&& 63)) ||| 0) <<< ((4 : Int32).toInt64 &&& 63)) ||| 0) <<< ((2 : Int32).toInt64 &&& 63)) ||| 3)), (3, .int 1), (4, .int 2), (0, .ref (a 0))]) b dX12_packs_36 rfl (by decide) rfl ?_
  refine z_lload_n b dX12_packs_37 rfl rfl ?_
  refine z_iconst (v := 1) b dX12_packs_38 (by decide) ?_
  refine z_lshl b dX12_packs_39 rfl ?_
  refine z_aload_n b dX12_packs_40 rfl rfl ?_
  refine z_get (q0 := 0) (k9 := 3) (v := .ref (a 4)) b (mw_0 cy a S) rfl in_X12 (by decide) wf_X12_23 rfl dX12_packs_41 ?_
  refine z_iconst (v := 3) b dX12_packs_44 (by decide) ?_
  refine z_iload_n b dX12_packs_45 rfl rfl ?_
  refine z_imul (v := 3) b dX12_packs_46 (by decide) ?_
  refine z_iload_n b dX12_packs_47 rfl rfl ?_
  refine z_iconst (v := 0) b dX12_packs_48 (by decide) ?_
  refine z_calli b (z_runS (As := [.int 1, .int 0]) (st := [.int 3, .ref (a 4), .long ((((((((768 ||| ((ar S 1 2) : Int32).toInt64) <<< ((1 : Int32).toInt64 &&& 63)) ||| 0) <<< ((4 : Int32).toInt64 &&& 63)) ||| 0) <<< ((2 : Int32).toInt64 &&& 63)) ||| 3) <<< ((1 : Int32).toInt64 &&& 63))]) b (c_X12_other_4 S ) cf_X12_other wm_X12_160 ws_X12_other dX12_packs_49 rfl (Nat.le_of_ble_eq_true rfl) ⟨by decide, by decide, by decide, by decide⟩) (fun r1103 u1104 h1102 => ?_)
  obtain ⟨rfl, rfl⟩ := h1102
  refine z_iadd (v := 5) b dX12_packs_52 (by decide) ?_
  refine y_zald (q0 := 4) (j := 5) (v := (ar S 3 5)) b (mw_4 cy a S) (by decide) rfl dX12_packs_53 ?_
  refine z_eqi h_a_3_5 ?_
  refine z_if_eq_t (tgt := 61) b dX12_packs_54 (by decide) (by decide) ?_
  refine z_lconst (v := 0) b dX12_packs_61 (by decide) ?_
  refine z_lor b dX12_packs_62 rfl ?_
  refine z_lstore_n (lv' := [(1, .long (((((((((768 ||| ((ar S 1 2) : Int32).toInt64) <<< ((1 : Int32).toInt64 &&& 63)) ||| 0) <<< ((4 : Int32).toInt64 &&& 63)) ||| 0) <<< ((2 : Int32).toInt64 &&& 63)) ||| 3) <<< ((1 : Int32).toInt64 &&& 63)) ||| 0)), (3, .int 1), (4, .int 2), (0, .ref (a 0))]) b dX12_packs_63 rfl (by decide) rfl ?_
  refine z_iconst (v := 0) b dX12_packs_64 (by decide) ?_
  refine z_istore (lv' := [(4, .int 0), (1, .long (((((((((768 ||| ((ar S 1 2) : Int32).toInt64) <<< ((1 : Int32).toInt64 &&& 63)) ||| 0) <<< ((4 : Int32).toInt64 &&& 63)) ||| 0) <<< ((2 : Int32).toInt64 &&& 63)) ||| 3) <<< ((1 : Int32).toInt64 &&& 63)) ||| 0)), (3, .int 1), (0, .ref (a 0))]) b dX12_packs_65 (by decide) rfl ?_
  refine z_iload b dX12_packs_67 rfl ?_
  refine z_iconst (v := 2) b dX12_packs_69 (by decide) ?_
  refine z_icmp_ge_f (tgt := 128) b dX12_packs_70 (by decide) (by decide) ?_
  refine z_lload_n b dX12_packs_73 rfl rfl ?_
  refine z_iconst (v := 3) b dX12_packs_74 (by decide) ?_
  refine z_lshl b dX12_packs_75 rfl ?_
  refine z_aload_n b dX12_packs_76 rfl rfl ?_
  refine z_get (q0 := 0) (k9 := 1) (v := .ref (a 2)) b (mw_0 cy a S) rfl in_X12 (by decide) wf_X12_17 rfl dX12_packs_77 ?_
  refine z_iconst (v := 3) b dX12_packs_80 (by decide) ?_
  refine z_iload_n b dX12_packs_81 rfl rfl ?_
  refine z_imul (v := 3) b dX12_packs_82 (by decide) ?_
  refine z_iload_n b dX12_packs_83 rfl rfl ?_
  refine z_iload b dX12_packs_84 rfl ?_
  refine z_calli b (z_runS (As := [.int 1, .int 0]) (st := [.int 3, .ref (a 2), .long ((((((((((768 ||| ((ar S 1 2) : Int32).toInt64) <<< ((1 : Int32).toInt64 &&& 63)) ||| 0) <<< ((4 : Int32).toInt64 &&& 63)) ||| 0) <<< ((2 : Int32).toInt64 &&& 63)) ||| 3) <<< ((1 : Int32).toInt64 &&& 63)) ||| 0) <<< ((3 : Int32).toInt64 &&& 63))]) b (c_X12_other_4 S ) cf_X12_other wm_X12_160 ws_X12_other dX12_packs_86 rfl (Nat.le_of_ble_eq_true rfl) ⟨by decide, by decide, by decide, by decide⟩) (fun r1106 u1107 h1105 => ?_)
  obtain ⟨rfl, rfl⟩ := h1105
  refine z_iadd (v := 5) b dX12_packs_89 (by decide) ?_
  refine y_iald (q0 := 2) (j := 5) (v := (ar S 1 5)) b (mw_2 cy a S) (by decide) rfl dX12_packs_90 ?_
  refine z_eqi h_a_1_5 ?_
  refine z_i2l (v := 0) b dX12_packs_91 (by decide) ?_
  refine z_lor b dX12_packs_92 rfl ?_
  refine z_lstore_n (lv' := [(1, .long (((((((((((768 ||| ((ar S 1 2) : Int32).toInt64) <<< ((1 : Int32).toInt64 &&& 63)) ||| 0) <<< ((4 : Int32).toInt64 &&& 63)) ||| 0) <<< ((2 : Int32).toInt64 &&& 63)) ||| 3) <<< ((1 : Int32).toInt64 &&& 63)) ||| 0) <<< ((3 : Int32).toInt64 &&& 63)) ||| 0)), (4, .int 0), (3, .int 1), (0, .ref (a 0))]) b dX12_packs_93 rfl (by decide) rfl ?_
  refine z_lload_n b dX12_packs_94 rfl rfl ?_
  refine z_iconst (v := 1) b dX12_packs_95 (by decide) ?_
  refine z_lshl b dX12_packs_96 rfl ?_
  refine z_aload_n b dX12_packs_97 rfl rfl ?_
  refine z_get (q0 := 0) (k9 := 4) (v := .ref (a 5)) b (mw_0 cy a S) rfl in_X12 (by decide) wf_X12_27 rfl dX12_packs_98 ?_
  refine z_iconst (v := 3) b dX12_packs_101 (by decide) ?_
  refine z_iload_n b dX12_packs_102 rfl rfl ?_
  refine z_imul (v := 3) b dX12_packs_103 (by decide) ?_
  refine z_iload_n b dX12_packs_104 rfl rfl ?_
  refine z_iload b dX12_packs_105 rfl ?_
  refine z_calli b (z_runS (As := [.int 1, .int 0]) (st := [.int 3, .ref (a 5), .long ((((((((((((768 ||| ((ar S 1 2) : Int32).toInt64) <<< ((1 : Int32).toInt64 &&& 63)) ||| 0) <<< ((4 : Int32).toInt64 &&& 63)) ||| 0) <<< ((2 : Int32).toInt64 &&& 63)) ||| 3) <<< ((1 : Int32).toInt64 &&& 63)) ||| 0) <<< ((3 : Int32).toInt64 &&& 63)) ||| 0) <<< ((1 : Int32).toInt64 &&& 63))]) b (c_X12_other_4 S ) cf_X12_other wm_X12_160 ws_X12_other dX12_packs_107 rfl (Nat.le_of_ble_eq_true rfl) ⟨by decide, by decide, by decide, by decide⟩) (fun r1109 u1110 h1108 => ?_)
  obtain ⟨rfl, rfl⟩ := h1108
  refine z_iadd (v := 5) b dX12_packs_110 (by decide) ?_
  refine y_zald (q0 := 5) (j := 5) (v := (ar S 4 5)) b (mw_5 cy a S) (by decide) rfl dX12_packs_111 ?_
  refine z_eqi h_a_4_5 ?_
  refine z_if_eq_t (tgt := 119) b dX12_packs_112 (by decide) (by decide) ?_
  refine z_lconst (v := 0) b dX12_packs_119 (by decide) ?_
  refine z_lor b dX12_packs_120 rfl ?_
  refine z_lstore_n (lv' := [(1, .long (((((((((((((768 ||| ((ar S 1 2) : Int32).toInt64) <<< ((1 : Int32).toInt64 &&& 63)) ||| 0) <<< ((4 : Int32).toInt64 &&& 63)) ||| 0) <<< ((2 : Int32).toInt64 &&& 63)) ||| 3) <<< ((1 : Int32).toInt64 &&& 63)) ||| 0) <<< ((3 : Int32).toInt64 &&& 63)) ||| 0) <<< ((1 : Int32).toInt64 &&& 63)) ||| 0)), (4, .int 0), (3, .int 1), (0, .ref (a 0))]) b dX12_packs_121 rfl (by decide) rfl ?_
  refine z_iinc (k9 := 1) (v := 1) (lv' := [(4, .int 1), (1, .long (((((((((((((768 ||| ((ar S 1 2) : Int32).toInt64) <<< ((1 : Int32).toInt64 &&& 63)) ||| 0) <<< ((4 : Int32).toInt64 &&& 63)) ||| 0) <<< ((2 : Int32).toInt64 &&& 63)) ||| 3) <<< ((1 : Int32).toInt64 &&& 63)) ||| 0) <<< ((3 : Int32).toInt64 &&& 63)) ||| 0) <<< ((1 : Int32).toInt64 &&& 63)) ||| 0)), (3, .int 1), (0, .ref (a 0))]) b dX12_packs_122 rfl (by decide) (by decide) rfl ?_
  refine z_goto (tgt := 67) b dX12_packs_125 (by decide) ?_
  refine z_iload b dX12_packs_67 rfl ?_
  refine z_iconst (v := 2) b dX12_packs_69 (by decide) ?_
  refine z_icmp_ge_f (tgt := 128) b dX12_packs_70 (by decide) (by decide) ?_
  refine z_lload_n b dX12_packs_73 rfl rfl ?_
  refine z_iconst (v := 3) b dX12_packs_74 (by decide) ?_
  refine z_lshl b dX12_packs_75 rfl ?_
  refine z_aload_n b dX12_packs_76 rfl rfl ?_
  refine z_get (q0 := 0) (k9 := 1) (v := .ref (a 2)) b (mw_0 cy a S) rfl in_X12 (by decide) wf_X12_17 rfl dX12_packs_77 ?_
  refine z_iconst (v := 3) b dX12_packs_80 (by decide) ?_
  refine z_iload_n b dX12_packs_81 rfl rfl ?_
  refine z_imul (v := 3) b dX12_packs_82 (by decide) ?_
  refine z_iload_n b dX12_packs_83 rfl rfl ?_
  refine z_iload b dX12_packs_84 rfl ?_
  refine z_calli b (z_runS (As := [.int 1, .int 1]) (st := [.int 3, .ref (a 2), .long ((((((((((((((768 ||| ((ar S 1 2) : Int32).toInt64) <<< ((1 : Int32).toInt64 &&& 63)) ||| 0) <<< ((4 : Int32).toInt64 &&& 63)) ||| 0) <<< ((2 : Int32).toInt64 &&& 63)) ||| 3) <<< ((1 : Int32).toInt64 &&& 63)) ||| 0) <<< ((3 : Int32).toInt64 &&& 63)) ||| 0) <<< ((1 : Int32).toInt64 &&& 63)) ||| 0) <<< ((3 : Int32).toInt64 &&& 63))]) b (c_X12_other_3 S ) cf_X12_other wm_X12_160 ws_X12_other dX12_packs_86 rfl (Nat.le_of_ble_eq_true rfl) ⟨by decide, by decide, by decide, by decide⟩) (fun r1112 u1113 h1111 => ?_)
  obtain ⟨rfl, rfl⟩ := h1111
  refine z_iadd (v := 3) b dX12_packs_89 (by decide) ?_
  refine y_iald (q0 := 2) (j := 3) (v := (ar S 1 3)) b (mw_2 cy a S) (by decide) rfl dX12_packs_90 ?_
  refine z_eqi h_a_1_3 ?_
  refine z_i2l (v := 0) b dX12_packs_91 (by decide) ?_
  refine z_lor b dX12_packs_92 rfl ?_
  refine z_lstore_n (lv' := [(1, .long (((((((((((((((768 ||| ((ar S 1 2) : Int32).toInt64) <<< ((1 : Int32).toInt64 &&& 63)) ||| 0) <<< ((4 : Int32).toInt64 &&& 63)) ||| 0) <<< ((2 : Int32).toInt64 &&& 63)) ||| 3) <<< ((1 : Int32).toInt64 &&& 63)) ||| 0) <<< ((3 : Int32).toInt64 &&& 63)) ||| 0) <<< ((1 : Int32).toInt64 &&& 63)) ||| 0) <<< ((3 : Int32).toInt64 &&& 63)) ||| 0)), (4, .int 1), (3, .int 1), (0, .ref (a 0))]) b dX12_packs_93 rfl (by decide) rfl ?_
  refine z_lload_n b dX12_packs_94 rfl rfl ?_
  refine z_iconst (v := 1) b dX12_packs_95 (by decide) ?_
  refine z_lshl b dX12_packs_96 rfl ?_
  refine z_aload_n b dX12_packs_97 rfl rfl ?_
  refine z_get (q0 := 0) (k9 := 4) (v := .ref (a 5)) b (mw_0 cy a S) rfl in_X12 (by decide) wf_X12_27 rfl dX12_packs_98 ?_
  refine z_iconst (v := 3) b dX12_packs_101 (by decide) ?_
  refine z_iload_n b dX12_packs_102 rfl rfl ?_
  refine z_imul (v := 3) b dX12_packs_103 (by decide) ?_
  refine z_iload_n b dX12_packs_104 rfl rfl ?_
  refine z_iload b dX12_packs_105 rfl ?_
  refine z_calli b (z_runS (As := [.int 1, .int 1]) (st := [.int 3, .ref (a 5), .long ((((((((((((((((768 ||| ((ar S 1 2) : Int32).toInt64) <<< ((1 : Int32).toInt64 &&& 63)) ||| 0) <<< ((4 : Int32).toInt64 &&& 63)) ||| 0) <<< ((2 : Int32).toInt64 &&& 63)) ||| 3) <<< ((1 : Int32).toInt64 &&& 63)) ||| 0) <<< ((3 : Int32).toInt64 &&& 63)) ||| 0) <<< ((1 : Int32).toInt64 &&& 63)) ||| 0) <<< ((3 : Int32).toInt64 &&& 63)) ||| 0) <<< ((1 : Int32).toInt64 &&& 63))]) b (c_X12_other_3 S ) cf_X12_other wm_X12_160 ws_X12_other dX12_packs_107 rfl (Nat.le_of_ble_eq_true rfl) ⟨by decide, by decide, by decide, by decide⟩) (fun r1115 u1116 h1114 => ?_)
  obtain ⟨rfl, rfl⟩ := h1114
  refine z_iadd (v := 3) b dX12_packs_110 (by decide) ?_
  refine y_zald (q0 := 5) (j := 3) (v := (ar S 4 3)) b (mw_5 cy a S) (by decide) rfl dX12_packs_111 ?_
  refine z_eqi h_a_4_3 ?_
  refine z_if_eq_t (tgt := 119) b dX12_packs_112 (by decide) (by decide) ?_
  refine z_lconst (v := 0) b dX12_packs_119 (by decide) ?_
  refine z_lor b dX12_packs_120 rfl ?_
  refine z_lstore_n (lv' := [(1, .long (((((((((((((((((768 ||| ((ar S 1 2) : Int32).toInt64) <<< ((1 : Int32).toInt64 &&& 63)) ||| 0) <<< ((4 : Int32).toInt64 &&& 63)) ||| 0) <<< ((2 : Int32).toInt64 &&& 63)) ||| 3) <<< ((1 : Int32).toInt64 &&& 63)) ||| 0) <<< ((3 : Int32).toInt64 &&& 63)) ||| 0) <<< ((1 : Int32).toInt64 &&& 63)) ||| 0) <<< ((3 : Int32).toInt64 &&& 63)) ||| 0) <<< ((1 : Int32).toInt64 &&& 63)) ||| 0)), (4, .int 1), (3, .int 1), (0, .ref (a 0))]) b dX12_packs_121 rfl (by decide) rfl ?_
  refine z_iinc (k9 := 1) (v := 2) (lv' := [(4, .int 2), (1, .long (((((((((((((((((768 ||| ((ar S 1 2) : Int32).toInt64) <<< ((1 : Int32).toInt64 &&& 63)) ||| 0) <<< ((4 : Int32).toInt64 &&& 63)) ||| 0) <<< ((2 : Int32).toInt64 &&& 63)) ||| 3) <<< ((1 : Int32).toInt64 &&& 63)) ||| 0) <<< ((3 : Int32).toInt64 &&& 63)) ||| 0) <<< ((1 : Int32).toInt64 &&& 63)) ||| 0) <<< ((3 : Int32).toInt64 &&& 63)) ||| 0) <<< ((1 : Int32).toInt64 &&& 63)) ||| 0)), (3, .int 1), (0, .ref (a 0))]) b dX12_packs_122 rfl (by decide) (by decide) rfl ?_
  refine z_goto (tgt := 67) b dX12_packs_125 (by decide) ?_
  refine z_iload b dX12_packs_67 rfl ?_
  refine z_iconst (v := 2) b dX12_packs_69 (by decide) ?_
  refine z_icmp_ge_t (tgt := 128) b dX12_packs_70 (by decide) (by decide) ?_
  refine z_iinc (k9 := 2) (v := 2) (lv' := [(3, .int 2), (4, .int 2), (1, .long (((((((((((((((((768 ||| ((ar S 1 2) : Int32).toInt64) <<< ((1 : Int32).toInt64 &&& 63)) ||| 0) <<< ((4 : Int32).toInt64 &&& 63)) ||| 0) <<< ((2 : Int32).toInt64 &&& 63)) ||| 3) <<< ((1 : Int32).toInt64 &&& 63)) ||| 0) <<< ((3 : Int32).toInt64 &&& 63)) ||| 0) <<< ((1 : Int32).toInt64 &&& 63)) ||| 0) <<< ((3 : Int32).toInt64 &&& 63)) ||| 0) <<< ((1 : Int32).toInt64 &&& 63)) ||| 0)), (0, .ref (a 0))]) b dX12_packs_128 rfl (by decide) (by decide) rfl ?_
  refine z_goto (tgt := 8) b dX12_packs_131 (by decide) ?_
  refine z_iload_n b dX12_packs_8 rfl rfl ?_
  refine z_iconst (v := 3) b dX12_packs_9 (by decide) ?_
  refine z_icmp_ge_f (tgt := 134) b dX12_packs_10 (by decide) (by decide) ?_
  refine z_lload_n b dX12_packs_13 rfl rfl ?_
  refine z_iconst (v := 4) b dX12_packs_14 (by decide) ?_
  refine z_lshl b dX12_packs_15 rfl ?_
  refine z_aload_n b dX12_packs_16 rfl rfl ?_
  refine z_get (q0 := 0) (k9 := 0) (v := .ref (a 1)) b (mw_0 cy a S) rfl in_X12 (by decide) wf_X12_13 rfl dX12_packs_17 ?_
  refine z_iload_n b dX12_packs_20 rfl rfl ?_
  refine y_iald (q0 := 1) (j := 2) (v := (ar S 0 2)) b (mw_1 cy a S) (by decide) rfl dX12_packs_21 ?_
  refine z_eqi h_a_0_2 ?_
  refine z_i2l (v := 0) b dX12_packs_22 (by decide) ?_
  refine z_lor b dX12_packs_23 rfl ?_
  refine z_lstore_n (lv' := [(1, .long (((((((((((((((((((768 ||| ((ar S 1 2) : Int32).toInt64) <<< ((1 : Int32).toInt64 &&& 63)) ||| 0) <<< ((4 : Int32).toInt64 &&& 63)) ||| 0) <<< ((2 : Int32).toInt64 &&& 63)) ||| 3) <<< ((1 : Int32).toInt64 &&& 63)) ||| 0) <<< ((3 : Int32).toInt64 &&& 63)) ||| 0) <<< ((1 : Int32).toInt64 &&& 63)) ||| 0) <<< ((3 : Int32).toInt64 &&& 63)) ||| 0) <<< ((1 : Int32).toInt64 &&& 63)) ||| 0) <<< ((4 : Int32).toInt64 &&& 63)) ||| 0)), (3, .int 2), (4, .int 2), (0, .ref (a 0))]) b dX12_packs_24 rfl (by decide) rfl ?_
  refine z_lload_n b dX12_packs_25 rfl rfl ?_
  refine z_iconst (v := 2) b dX12_packs_26 (by decide) ?_
  refine z_lshl b dX12_packs_27 rfl ?_
  refine z_aload_n b dX12_packs_28 rfl rfl ?_
  refine z_get (q0 := 0) (k9 := 2) (v := .ref (a 3)) b (mw_0 cy a S) rfl in_X12 (by decide) wf_X12_20 rfl dX12_packs_29 ?_
  refine z_iload_n b dX12_packs_32 rfl rfl ?_
  refine y_iald (q0 := 3) (j := 2) (v := (ar S 2 2)) b (mw_3 cy a S) (by decide) rfl dX12_packs_33 ?_
  refine z_eqi h_a_2_2 ?_
  refine z_i2l (v := 3) b dX12_packs_34 (by decide) ?_
  refine z_lor b dX12_packs_35 rfl ?_
  refine z_lstore_n (lv' := [(1, .long (((((((((((((((((((((768 ||| ((ar S 1 2) : Int32).toInt64) <<< ((1 : Int32).toInt64 &&& 63)) ||| 0) <<< ((4 : Int32).toInt64 &&& 63)) ||| 0) <<< ((2 : Int32).toInt64 &&& 63)) ||| 3) <<< ((1 : Int32).toInt64 &&& 63)) ||| 0) <<< ((3 : Int32).toInt64 &&& 63)) ||| 0) <<< ((1 : Int32).toInt64 &&& 63)) ||| 0) <<< ((3 : Int32).toInt64 &&& 63)) ||| 0) <<< ((1 : Int32).toInt64 &&& 63)) ||| 0) <<< ((4 : Int32).toInt64 &&& 63)) ||| 0) <<< ((2 : Int32).toInt64 &&& 63)) ||| 3)), (3, .int 2), (4, .int 2), (0, .ref (a 0))]) b dX12_packs_36 rfl (by decide) rfl ?_
  refine z_lload_n b dX12_packs_37 rfl rfl ?_
  refine z_iconst (v := 1) b dX12_packs_38 (by decide) ?_
  exact k

set_option maxHeartbeats 4000000 in
set_option maxRecDepth 100000 in
theorem c_X12_packs_9 {l : Launch} {D : va_G} {cy : Nat → ClassId} {T0 tB tE : Nat} {a : Nat → Nat} (S : GS)  (h_i_0 : fi S 0 = 0) (h_a_0_0 : ar S 0 0 = 0) (h_a_2_0 : ar S 2 0 = 3) (h_a_3_1 : ar S 3 1 = 0) (h_a_1_1 : ar S 1 1 = 0) (h_a_4_1 : ar S 4 1 = 0) (h_a_4_2 : ar S 4 2 = 0) (h_a_0_1 : ar S 0 1 = 0) (h_a_2_1 : ar S 2 1 = 3) (h_a_3_5 : ar S 3 5 = 0) (h_a_1_5 : ar S 1 5 = 0) (h_a_4_5 : ar S 4 5 = 0) (h_a_1_3 : ar S 1 3 = 0) (h_a_4_3 : ar S 4 3 = 0) (h_a_0_2 : ar S 0 2 = 0) (h_a_2_2 : ar S 2 2 = 3) (h_a_3_6 : ar S 3 6 = 0) (h_a_1_6 : ar S 1 6 = 0) (h_a_4_6 : ar S 4 6 = 0) (h_a_1_7 : ar S 1 7 = 0) (h_a_4_7 : ar S 4 7 = 0) : Ct l D cy T0 tB tE yX12_packs cX12_packs 5 (some .long) 1 21 0 0 (mw cy a S) [.ref (a 0)] (QL D (U := GS) (fun r u => (((((((((((((((((((((((((((((((768 ||| ((ar S 1 2) : Int32).toInt64) <<< ((1 : Int32).toInt64 &&& 63)) ||| 0) <<< ((4 : Int32).toInt64 &&& 63)) ||| 0) <<< ((2 : Int32).toInt64 &&& 63)) ||| 3) <<< ((1 : Int32).toInt64 &&& 63)) ||| 0) <<< ((3 : Int32).toInt64 &&& 63)) ||| 0) <<< ((1 : Int32).toInt64 &&& 63)) ||| 0) <<< ((3 : Int32).toInt64 &&& 63)) ||| 0) <<< ((1 : Int32).toInt64 &&& 63)) ||| 0) <<< ((4 : Int32).toInt64 &&& 63)) ||| 0) <<< ((2 : Int32).toInt64 &&& 63)) ||| 3) <<< ((1 : Int32).toInt64 &&& 63)) ||| 0) <<< ((3 : Int32).toInt64 &&& 63)) ||| 0) <<< ((1 : Int32).toInt64 &&& 63)) ||| 0) <<< ((3 : Int32).toInt64 &&& 63)) ||| 0) <<< ((1 : Int32).toInt64 &&& 63)) ||| 0) = r ∧ S = u) (mw cy a)) := by
  refine Ct.ofZ RX12 "packs" [(0, .ref (a 0))] rfl rfl rfl rfl (Nat.le_of_ble_eq_true rfl) ?_
  intro p e R s m args below meth c A b
  refine ch_X12_packs_20 S  h_a_0_0 h_a_0_1 h_a_1_1 h_a_2_0 h_a_3_1 h_a_4_1 h_a_4_2 h_i_0  b ?_
  refine ch_X12_packs_21 S  h_a_0_2 h_a_1_3 h_a_1_5 h_a_2_1 h_a_2_2 h_a_3_5 h_a_4_3 h_a_4_5  b ?_
  refine z_lshl b dX12_packs_39 rfl ?_
  refine z_aload_n b dX12_packs_40 rfl rfl ?_
  refine z_get (q0 := 0) (k9 := 3) (v := .ref (a 4)) b (mw_0 cy a S) rfl in_X12 (by decide) wf_X12_23 rfl dX12_packs_41 ?_
  refine z_iconst (v := 3) b dX12_packs_44 (by decide) ?_
  refine z_iload_n b dX12_packs_45 rfl rfl ?_
  refine z_imul (v := 6) b dX12_packs_46 (by decide) ?_
  refine z_iload_n b dX12_packs_47 rfl rfl ?_
  refine z_iconst (v := 0) b dX12_packs_48 (by decide) ?_
  refine z_calli b (z_runS (As := [.int 2, .int 0]) (st := [.int 6, .ref (a 4), .long ((((((((((((((((((((((768 ||| ((ar S 1 2) : Int32).toInt64) <<< ((1 : Int32).toInt64 &&& 63)) ||| 0) <<< ((4 : Int32).toInt64 &&& 63)) ||| 0) <<< ((2 : Int32).toInt64 &&& 63)) ||| 3) <<< ((1 : Int32).toInt64 &&& 63)) ||| 0) <<< ((3 : Int32).toInt64 &&& 63)) ||| 0) <<< ((1 : Int32).toInt64 &&& 63)) ||| 0) <<< ((3 : Int32).toInt64 &&& 63)) ||| 0) <<< ((1 : Int32).toInt64 &&& 63)) ||| 0) <<< ((4 : Int32).toInt64 &&& 63)) ||| 0) <<< ((2 : Int32).toInt64 &&& 63)) ||| 3) <<< ((1 : Int32).toInt64 &&& 63))]) b (c_X12_other_2 S ) cf_X12_other wm_X12_160 ws_X12_other dX12_packs_49 rfl (Nat.le_of_ble_eq_true rfl) ⟨by decide, by decide, by decide, by decide⟩) (fun r1118 u1119 h1117 => ?_)
  obtain ⟨rfl, rfl⟩ := h1117
  refine z_iadd (v := 6) b dX12_packs_52 (by decide) ?_
  refine y_zald (q0 := 4) (j := 6) (v := (ar S 3 6)) b (mw_4 cy a S) (by decide) rfl dX12_packs_53 ?_
  refine z_eqi h_a_3_6 ?_
  refine z_if_eq_t (tgt := 61) b dX12_packs_54 (by decide) (by decide) ?_
  refine z_lconst (v := 0) b dX12_packs_61 (by decide) ?_
  refine z_lor b dX12_packs_62 rfl ?_
  refine z_lstore_n (lv' := [(1, .long (((((((((((((((((((((((768 ||| ((ar S 1 2) : Int32).toInt64) <<< ((1 : Int32).toInt64 &&& 63)) ||| 0) <<< ((4 : Int32).toInt64 &&& 63)) ||| 0) <<< ((2 : Int32).toInt64 &&& 63)) ||| 3) <<< ((1 : Int32).toInt64 &&& 63)) ||| 0) <<< ((3 : Int32).toInt64 &&& 63)) ||| 0) <<< ((1 : Int32).toInt64 &&& 63)) ||| 0) <<< ((3 : Int32).toInt64 &&& 63)) ||| 0) <<< ((1 : Int32).toInt64 &&& 63)) ||| 0) <<< ((4 : Int32).toInt64 &&& 63)) ||| 0) <<< ((2 : Int32).toInt64 &&& 63)) ||| 3) <<< ((1 : Int32).toInt64 &&& 63)) ||| 0)), (3, .int 2), (4, .int 2), (0, .ref (a 0))]) b dX12_packs_63 rfl (by decide) rfl ?_
  refine z_iconst (v := 0) b dX12_packs_64 (by decide) ?_
  refine z_istore (lv' := [(4, .int 0), (1, .long (((((((((((((((((((((((768 ||| ((ar S 1 2) : Int32).toInt64) <<< ((1 : Int32).toInt64 &&& 63)) ||| 0) <<< ((4 : Int32).toInt64 &&& 63)) ||| 0) <<< ((2 : Int32).toInt64 &&& 63)) ||| 3) <<< ((1 : Int32).toInt64 &&& 63)) ||| 0) <<< ((3 : Int32).toInt64 &&& 63)) ||| 0) <<< ((1 : Int32).toInt64 &&& 63)) ||| 0) <<< ((3 : Int32).toInt64 &&& 63)) ||| 0) <<< ((1 : Int32).toInt64 &&& 63)) ||| 0) <<< ((4 : Int32).toInt64 &&& 63)) ||| 0) <<< ((2 : Int32).toInt64 &&& 63)) ||| 3) <<< ((1 : Int32).toInt64 &&& 63)) ||| 0)), (3, .int 2), (0, .ref (a 0))]) b dX12_packs_65 (by decide) rfl ?_
  refine z_iload b dX12_packs_67 rfl ?_
  refine z_iconst (v := 2) b dX12_packs_69 (by decide) ?_
  refine z_icmp_ge_f (tgt := 128) b dX12_packs_70 (by decide) (by decide) ?_
  refine z_lload_n b dX12_packs_73 rfl rfl ?_
  refine z_iconst (v := 3) b dX12_packs_74 (by decide) ?_
  refine z_lshl b dX12_packs_75 rfl ?_
  refine z_aload_n b dX12_packs_76 rfl rfl ?_
  refine z_get (q0 := 0) (k9 := 1) (v := .ref (a 2)) b (mw_0 cy a S) rfl in_X12 (by decide) wf_X12_17 rfl dX12_packs_77 ?_
  refine z_iconst (v := 3) b dX12_packs_80 (by decide) ?_
  refine z_iload_n b dX12_packs_81 rfl rfl ?_
  refine z_imul (v := 6) b dX12_packs_82 (by decide) ?_
  refine z_iload_n b dX12_packs_83 rfl rfl ?_
  refine z_iload b dX12_packs_84 rfl ?_
  refine z_calli b (z_runS (As := [.int 2, .int 0]) (st := [.int 6, .ref (a 2), .long ((((((((((((((((((((((((768 ||| ((ar S 1 2) : Int32).toInt64) <<< ((1 : Int32).toInt64 &&& 63)) ||| 0) <<< ((4 : Int32).toInt64 &&& 63)) ||| 0) <<< ((2 : Int32).toInt64 &&& 63)) ||| 3) <<< ((1 : Int32).toInt64 &&& 63)) ||| 0) <<< ((3 : Int32).toInt64 &&& 63)) ||| 0) <<< ((1 : Int32).toInt64 &&& 63)) ||| 0) <<< ((3 : Int32).toInt64 &&& 63)) ||| 0) <<< ((1 : Int32).toInt64 &&& 63)) ||| 0) <<< ((4 : Int32).toInt64 &&& 63)) ||| 0) <<< ((2 : Int32).toInt64 &&& 63)) ||| 3) <<< ((1 : Int32).toInt64 &&& 63)) ||| 0) <<< ((3 : Int32).toInt64 &&& 63))]) b (c_X12_other_2 S ) cf_X12_other wm_X12_160 ws_X12_other dX12_packs_86 rfl (Nat.le_of_ble_eq_true rfl) ⟨by decide, by decide, by decide, by decide⟩) (fun r1121 u1122 h1120 => ?_)
  obtain ⟨rfl, rfl⟩ := h1120
  refine z_iadd (v := 6) b dX12_packs_89 (by decide) ?_
  refine y_iald (q0 := 2) (j := 6) (v := (ar S 1 6)) b (mw_2 cy a S) (by decide) rfl dX12_packs_90 ?_
  refine z_eqi h_a_1_6 ?_
  refine z_i2l (v := 0) b dX12_packs_91 (by decide) ?_
  refine z_lor b dX12_packs_92 rfl ?_
  refine z_lstore_n (lv' := [(1, .long (((((((((((((((((((((((((768 ||| ((ar S 1 2) : Int32).toInt64) <<< ((1 : Int32).toInt64 &&& 63)) ||| 0) <<< ((4 : Int32).toInt64 &&& 63)) ||| 0) <<< ((2 : Int32).toInt64 &&& 63)) ||| 3) <<< ((1 : Int32).toInt64 &&& 63)) ||| 0) <<< ((3 : Int32).toInt64 &&& 63)) ||| 0) <<< ((1 : Int32).toInt64 &&& 63)) ||| 0) <<< ((3 : Int32).toInt64 &&& 63)) ||| 0) <<< ((1 : Int32).toInt64 &&& 63)) ||| 0) <<< ((4 : Int32).toInt64 &&& 63)) ||| 0) <<< ((2 : Int32).toInt64 &&& 63)) ||| 3) <<< ((1 : Int32).toInt64 &&& 63)) ||| 0) <<< ((3 : Int32).toInt64 &&& 63)) ||| 0)), (4, .int 0), (3, .int 2), (0, .ref (a 0))]) b dX12_packs_93 rfl (by decide) rfl ?_
  refine z_lload_n b dX12_packs_94 rfl rfl ?_
  refine z_iconst (v := 1) b dX12_packs_95 (by decide) ?_
  refine z_lshl b dX12_packs_96 rfl ?_
  refine z_aload_n b dX12_packs_97 rfl rfl ?_
  refine z_get (q0 := 0) (k9 := 4) (v := .ref (a 5)) b (mw_0 cy a S) rfl in_X12 (by decide) wf_X12_27 rfl dX12_packs_98 ?_
  refine z_iconst (v := 3) b dX12_packs_101 (by decide) ?_
  refine z_iload_n b dX12_packs_102 rfl rfl ?_
  refine z_imul (v := 6) b dX12_packs_103 (by decide) ?_
  refine z_iload_n b dX12_packs_104 rfl rfl ?_
  refine z_iload b dX12_packs_105 rfl ?_
  refine z_calli b (z_runS (As := [.int 2, .int 0]) (st := [.int 6, .ref (a 5), .long ((((((((((((((((((((((((((768 ||| ((ar S 1 2) : Int32).toInt64) <<< ((1 : Int32).toInt64 &&& 63)) ||| 0) <<< ((4 : Int32).toInt64 &&& 63)) ||| 0) <<< ((2 : Int32).toInt64 &&& 63)) ||| 3) <<< ((1 : Int32).toInt64 &&& 63)) ||| 0) <<< ((3 : Int32).toInt64 &&& 63)) ||| 0) <<< ((1 : Int32).toInt64 &&& 63)) ||| 0) <<< ((3 : Int32).toInt64 &&& 63)) ||| 0) <<< ((1 : Int32).toInt64 &&& 63)) ||| 0) <<< ((4 : Int32).toInt64 &&& 63)) ||| 0) <<< ((2 : Int32).toInt64 &&& 63)) ||| 3) <<< ((1 : Int32).toInt64 &&& 63)) ||| 0) <<< ((3 : Int32).toInt64 &&& 63)) ||| 0) <<< ((1 : Int32).toInt64 &&& 63))]) b (c_X12_other_2 S ) cf_X12_other wm_X12_160 ws_X12_other dX12_packs_107 rfl (Nat.le_of_ble_eq_true rfl) ⟨by decide, by decide, by decide, by decide⟩) (fun r1124 u1125 h1123 => ?_)
  obtain ⟨rfl, rfl⟩ := h1123
  refine z_iadd (v := 6) b dX12_packs_110 (by decide) ?_
  refine y_zald (q0 := 5) (j := 6) (v := (ar S 4 6)) b (mw_5 cy a S) (by decide) rfl dX12_packs_111 ?_
  refine z_eqi h_a_4_6 ?_
  refine z_if_eq_t (tgt := 119) b dX12_packs_112 (by decide) (by decide) ?_
  refine z_lconst (v := 0) b dX12_packs_119 (by decide) ?_
  refine z_lor b dX12_packs_120 rfl ?_
  refine z_lstore_n (lv' := [(1, .long (((((((((((((((((((((((((((768 ||| ((ar S 1 2) : Int32).toInt64) <<< ((1 : Int32).toInt64 &&& 63)) ||| 0) <<< ((4 : Int32).toInt64 &&& 63)) ||| 0) <<< ((2 : Int32).toInt64 &&& 63)) ||| 3) <<< ((1 : Int32).toInt64 &&& 63)) ||| 0) <<< ((3 : Int32).toInt64 &&& 63)) ||| 0) <<< ((1 : Int32).toInt64 &&& 63)) ||| 0) <<< ((3 : Int32).toInt64 &&& 63)) ||| 0) <<< ((1 : Int32).toInt64 &&& 63)) ||| 0) <<< ((4 : Int32).toInt64 &&& 63)) ||| 0) <<< ((2 : Int32).toInt64 &&& 63)) ||| 3) <<< ((1 : Int32).toInt64 &&& 63)) ||| 0) <<< ((3 : Int32).toInt64 &&& 63)) ||| 0) <<< ((1 : Int32).toInt64 &&& 63)) ||| 0)), (4, .int 0), (3, .int 2), (0, .ref (a 0))]) b dX12_packs_121 rfl (by decide) rfl ?_
  refine z_iinc (k9 := 1) (v := 1) (lv' := [(4, .int 1), (1, .long (((((((((((((((((((((((((((768 ||| ((ar S 1 2) : Int32).toInt64) <<< ((1 : Int32).toInt64 &&& 63)) ||| 0) <<< ((4 : Int32).toInt64 &&& 63)) ||| 0) <<< ((2 : Int32).toInt64 &&& 63)) ||| 3) <<< ((1 : Int32).toInt64 &&& 63)) ||| 0) <<< ((3 : Int32).toInt64 &&& 63)) ||| 0) <<< ((1 : Int32).toInt64 &&& 63)) ||| 0) <<< ((3 : Int32).toInt64 &&& 63)) ||| 0) <<< ((1 : Int32).toInt64 &&& 63)) ||| 0) <<< ((4 : Int32).toInt64 &&& 63)) ||| 0) <<< ((2 : Int32).toInt64 &&& 63)) ||| 3) <<< ((1 : Int32).toInt64 &&& 63)) ||| 0) <<< ((3 : Int32).toInt64 &&& 63)) ||| 0) <<< ((1 : Int32).toInt64 &&& 63)) ||| 0)), (3, .int 2), (0, .ref (a 0))]) b dX12_packs_122 rfl (by decide) (by decide) rfl ?_
  refine z_goto (tgt := 67) b dX12_packs_125 (by decide) ?_
  refine z_iload b dX12_packs_67 rfl ?_
  refine z_iconst (v := 2) b dX12_packs_69 (by decide) ?_
  refine z_icmp_ge_f (tgt := 128) b dX12_packs_70 (by decide) (by decide) ?_
  refine z_lload_n b dX12_packs_73 rfl rfl ?_
  refine z_iconst (v := 3) b dX12_packs_74 (by decide) ?_
  refine z_lshl b dX12_packs_75 rfl ?_
  refine z_aload_n b dX12_packs_76 rfl rfl ?_
  refine z_get (q0 := 0) (k9 := 1) (v := .ref (a 2)) b (mw_0 cy a S) rfl in_X12 (by decide) wf_X12_17 rfl dX12_packs_77 ?_
  refine z_iconst (v := 3) b dX12_packs_80 (by decide) ?_
  refine z_iload_n b dX12_packs_81 rfl rfl ?_
  refine z_imul (v := 6) b dX12_packs_82 (by decide) ?_
  refine z_iload_n b dX12_packs_83 rfl rfl ?_
  refine z_iload b dX12_packs_84 rfl ?_
  refine z_calli b (z_runS (As := [.int 2, .int 1]) (st := [.int 6, .ref (a 2), .long ((((((((((((((((((((((((((((768 ||| ((ar S 1 2) : Int32).toInt64) <<< ((1 : Int32).toInt64 &&& 63)) ||| 0) <<< ((4 : Int32).toInt64 &&& 63)) ||| 0) <<< ((2 : Int32).toInt64 &&& 63)) ||| 3) <<< ((1 : Int32).toInt64 &&& 63)) ||| 0) <<< ((3 : Int32).toInt64 &&& 63)) ||| 0) <<< ((1 : Int32).toInt64 &&& 63)) ||| 0) <<< ((3 : Int32).toInt64 &&& 63)) ||| 0) <<< ((1 : Int32).toInt64 &&& 63)) ||| 0) <<< ((4 : Int32).toInt64 &&& 63)) ||| 0) <<< ((2 : Int32).toInt64 &&& 63)) ||| 3) <<< ((1 : Int32).toInt64 &&& 63)) ||| 0) <<< ((3 : Int32).toInt64 &&& 63)) ||| 0) <<< ((1 : Int32).toInt64 &&& 63)) ||| 0) <<< ((3 : Int32).toInt64 &&& 63))]) b (c_X12_other S ) cf_X12_other wm_X12_160 ws_X12_other dX12_packs_86 rfl (Nat.le_of_ble_eq_true rfl) ⟨by decide, by decide, by decide, by decide⟩) (fun r1127 u1128 h1126 => ?_)
  obtain ⟨rfl, rfl⟩ := h1126
  refine z_iadd (v := 7) b dX12_packs_89 (by decide) ?_
  refine y_iald (q0 := 2) (j := 7) (v := (ar S 1 7)) b (mw_2 cy a S) (by decide) rfl dX12_packs_90 ?_
  refine z_eqi h_a_1_7 ?_
  refine z_i2l (v := 0) b dX12_packs_91 (by decide) ?_
  refine z_lor b dX12_packs_92 rfl ?_
  refine z_lstore_n (lv' := [(1, .long (((((((((((((((((((((((((((((768 ||| ((ar S 1 2) : Int32).toInt64) <<< ((1 : Int32).toInt64 &&& 63)) ||| 0) <<< ((4 : Int32).toInt64 &&& 63)) ||| 0) <<< ((2 : Int32).toInt64 &&& 63)) ||| 3) <<< ((1 : Int32).toInt64 &&& 63)) ||| 0) <<< ((3 : Int32).toInt64 &&& 63)) ||| 0) <<< ((1 : Int32).toInt64 &&& 63)) ||| 0) <<< ((3 : Int32).toInt64 &&& 63)) ||| 0) <<< ((1 : Int32).toInt64 &&& 63)) ||| 0) <<< ((4 : Int32).toInt64 &&& 63)) ||| 0) <<< ((2 : Int32).toInt64 &&& 63)) ||| 3) <<< ((1 : Int32).toInt64 &&& 63)) ||| 0) <<< ((3 : Int32).toInt64 &&& 63)) ||| 0) <<< ((1 : Int32).toInt64 &&& 63)) ||| 0) <<< ((3 : Int32).toInt64 &&& 63)) ||| 0)), (4, .int 1), (3, .int 2), (0, .ref (a 0))]) b dX12_packs_93 rfl (by decide) rfl ?_
  refine z_lload_n b dX12_packs_94 rfl rfl ?_
  refine z_iconst (v := 1) b dX12_packs_95 (by decide) ?_
  refine z_lshl b dX12_packs_96 rfl ?_
  refine z_aload_n b dX12_packs_97 rfl rfl ?_
  refine z_get (q0 := 0) (k9 := 4) (v := .ref (a 5)) b (mw_0 cy a S) rfl in_X12 (by decide) wf_X12_27 rfl dX12_packs_98 ?_
  refine z_iconst (v := 3) b dX12_packs_101 (by decide) ?_
  refine z_iload_n b dX12_packs_102 rfl rfl ?_
  refine z_imul (v := 6) b dX12_packs_103 (by decide) ?_
  refine z_iload_n b dX12_packs_104 rfl rfl ?_
  refine z_iload b dX12_packs_105 rfl ?_
  refine z_calli b (z_runS (As := [.int 2, .int 1]) (st := [.int 6, .ref (a 5), .long ((((((((((((((((((((((((((((((768 ||| ((ar S 1 2) : Int32).toInt64) <<< ((1 : Int32).toInt64 &&& 63)) ||| 0) <<< ((4 : Int32).toInt64 &&& 63)) ||| 0) <<< ((2 : Int32).toInt64 &&& 63)) ||| 3) <<< ((1 : Int32).toInt64 &&& 63)) ||| 0) <<< ((3 : Int32).toInt64 &&& 63)) ||| 0) <<< ((1 : Int32).toInt64 &&& 63)) ||| 0) <<< ((3 : Int32).toInt64 &&& 63)) ||| 0) <<< ((1 : Int32).toInt64 &&& 63)) ||| 0) <<< ((4 : Int32).toInt64 &&& 63)) ||| 0) <<< ((2 : Int32).toInt64 &&& 63)) ||| 3) <<< ((1 : Int32).toInt64 &&& 63)) ||| 0) <<< ((3 : Int32).toInt64 &&& 63)) ||| 0) <<< ((1 : Int32).toInt64 &&& 63)) ||| 0) <<< ((3 : Int32).toInt64 &&& 63)) ||| 0) <<< ((1 : Int32).toInt64 &&& 63))]) b (c_X12_other S ) cf_X12_other wm_X12_160 ws_X12_other dX12_packs_107 rfl (Nat.le_of_ble_eq_true rfl) ⟨by decide, by decide, by decide, by decide⟩) (fun r1130 u1131 h1129 => ?_)
  obtain ⟨rfl, rfl⟩ := h1129
  refine z_iadd (v := 7) b dX12_packs_110 (by decide) ?_
  refine y_zald (q0 := 5) (j := 7) (v := (ar S 4 7)) b (mw_5 cy a S) (by decide) rfl dX12_packs_111 ?_
  refine z_eqi h_a_4_7 ?_
  refine z_if_eq_t (tgt := 119) b dX12_packs_112 (by decide) (by decide) ?_
  refine z_lconst (v := 0) b dX12_packs_119 (by decide) ?_
  refine z_lor b dX12_packs_120 rfl ?_
  refine z_lstore_n (lv' := [(1, .long (((((((((((((((((((((((((((((((768 ||| ((ar S 1 2) : Int32).toInt64) <<< ((1 : Int32).toInt64 &&& 63)) ||| 0) <<< ((4 : Int32).toInt64 &&& 63)) ||| 0) <<< ((2 : Int32).toInt64 &&& 63)) ||| 3) <<< ((1 : Int32).toInt64 &&& 63)) ||| 0) <<< ((3 : Int32).toInt64 &&& 63)) ||| 0) <<< ((1 : Int32).toInt64 &&& 63)) ||| 0) <<< ((3 : Int32).toInt64 &&& 63)) ||| 0) <<< ((1 : Int32).toInt64 &&& 63)) ||| 0) <<< ((4 : Int32).toInt64 &&& 63)) ||| 0) <<< ((2 : Int32).toInt64 &&& 63)) ||| 3) <<< ((1 : Int32).toInt64 &&& 63)) ||| 0) <<< ((3 : Int32).toInt64 &&& 63)) ||| 0) <<< ((1 : Int32).toInt64 &&& 63)) ||| 0) <<< ((3 : Int32).toInt64 &&& 63)) ||| 0) <<< ((1 : Int32).toInt64 &&& 63)) ||| 0)), (4, .int 1), (3, .int 2), (0, .ref (a 0))]) b dX12_packs_121 rfl (by decide) rfl ?_
  refine z_iinc (k9 := 1) (v := 2) (lv' := [(4, .int 2), (1, .long (((((((((((((((((((((((((((((((768 ||| ((ar S 1 2) : Int32).toInt64) <<< ((1 : Int32).toInt64 &&& 63)) ||| 0) <<< ((4 : Int32).toInt64 &&& 63)) ||| 0) <<< ((2 : Int32).toInt64 &&& 63)) ||| 3) <<< ((1 : Int32).toInt64 &&& 63)) ||| 0) <<< ((3 : Int32).toInt64 &&& 63)) ||| 0) <<< ((1 : Int32).toInt64 &&& 63)) ||| 0) <<< ((3 : Int32).toInt64 &&& 63)) ||| 0) <<< ((1 : Int32).toInt64 &&& 63)) ||| 0) <<< ((4 : Int32).toInt64 &&& 63)) ||| 0) <<< ((2 : Int32).toInt64 &&& 63)) ||| 3) <<< ((1 : Int32).toInt64 &&& 63)) ||| 0) <<< ((3 : Int32).toInt64 &&& 63)) ||| 0) <<< ((1 : Int32).toInt64 &&& 63)) ||| 0) <<< ((3 : Int32).toInt64 &&& 63)) ||| 0) <<< ((1 : Int32).toInt64 &&& 63)) ||| 0)), (3, .int 2), (0, .ref (a 0))]) b dX12_packs_122 rfl (by decide) (by decide) rfl ?_
  refine z_goto (tgt := 67) b dX12_packs_125 (by decide) ?_
  refine z_iload b dX12_packs_67 rfl ?_
  refine z_iconst (v := 2) b dX12_packs_69 (by decide) ?_
  refine z_icmp_ge_t (tgt := 128) b dX12_packs_70 (by decide) (by decide) ?_
  refine z_iinc (k9 := 2) (v := 3) (lv' := [(3, .int 3), (4, .int 2), (1, .long (((((((((((((((((((((((((((((((768 ||| ((ar S 1 2) : Int32).toInt64) <<< ((1 : Int32).toInt64 &&& 63)) ||| 0) <<< ((4 : Int32).toInt64 &&& 63)) ||| 0) <<< ((2 : Int32).toInt64 &&& 63)) ||| 3) <<< ((1 : Int32).toInt64 &&& 63)) ||| 0) <<< ((3 : Int32).toInt64 &&& 63)) ||| 0) <<< ((1 : Int32).toInt64 &&& 63)) ||| 0) <<< ((3 : Int32).toInt64 &&& 63)) ||| 0) <<< ((1 : Int32).toInt64 &&& 63)) ||| 0) <<< ((4 : Int32).toInt64 &&& 63)) ||| 0) <<< ((2 : Int32).toInt64 &&& 63)) ||| 3) <<< ((1 : Int32).toInt64 &&& 63)) ||| 0) <<< ((3 : Int32).toInt64 &&& 63)) ||| 0) <<< ((1 : Int32).toInt64 &&& 63)) ||| 0) <<< ((3 : Int32).toInt64 &&& 63)) ||| 0) <<< ((1 : Int32).toInt64 &&& 63)) ||| 0)), (0, .ref (a 0))]) b dX12_packs_128 rfl (by decide) (by decide) rfl ?_
  refine z_goto (tgt := 8) b dX12_packs_131 (by decide) ?_
  refine z_iload_n b dX12_packs_8 rfl rfl ?_
  refine z_iconst (v := 3) b dX12_packs_9 (by decide) ?_
  refine z_icmp_ge_t (tgt := 134) b dX12_packs_10 (by decide) (by decide) ?_
  refine z_lload_n b dX12_packs_134 rfl rfl ?_
  exact z_lret (u := S) b rfl dX12_packs_135 ⟨rfl, rfl⟩ rfl (by decide) (by decide)

set_option maxHeartbeats 4000000 in
set_option maxRecDepth 100000 in
theorem c_X12_told_9 {l : Launch} {D : va_G} {cy : Nat → ClassId} {T0 tB tE : Nat} {a : Nat → Nat} (S : GS)  (h_i_0 : fi S 0 = 0) (h_a_0_0 : ar S 0 0 = 0) (h_a_2_0 : ar S 2 0 = 3) (h_a_3_1 : ar S 3 1 = 0) (h_a_1_1 : ar S 1 1 = 0) (h_a_4_1 : ar S 4 1 = 0) (h_a_4_2 : ar S 4 2 = 0) (h_a_0_1 : ar S 0 1 = 0) (h_a_2_1 : ar S 2 1 = 3) (h_a_3_5 : ar S 3 5 = 0) (h_a_1_5 : ar S 1 5 = 0) (h_a_4_5 : ar S 4 5 = 0) (h_a_1_3 : ar S 1 3 = 0) (h_a_4_3 : ar S 4 3 = 0) (h_a_0_2 : ar S 0 2 = 0) (h_a_2_2 : ar S 2 2 = 3) (h_a_3_6 : ar S 3 6 = 0) (h_a_1_6 : ar S 1 6 = 0) (h_a_4_6 : ar S 4 6 = 0) (h_a_1_7 : ar S 1 7 = 0) (h_a_4_7 : ar S 4 7 = 0) : Ct l D cy T0 tB tE yX12_told cX12_told 1 (some .boolean) 2 45 0 0 (mw cy a S) [.ref (a 0)] (QI D (U := GS) (fun r u => 1 = r ∧ sl S 0 (((((((((((((((((((((((((((((((768 ||| ((ar S 1 2) : Int32).toInt64) <<< ((1 : Int32).toInt64 &&& 63)) ||| 0) <<< ((4 : Int32).toInt64 &&& 63)) ||| 0) <<< ((2 : Int32).toInt64 &&& 63)) ||| 3) <<< ((1 : Int32).toInt64 &&& 63)) ||| 0) <<< ((3 : Int32).toInt64 &&& 63)) ||| 0) <<< ((1 : Int32).toInt64 &&& 63)) ||| 0) <<< ((3 : Int32).toInt64 &&& 63)) ||| 0) <<< ((1 : Int32).toInt64 &&& 63)) ||| 0) <<< ((4 : Int32).toInt64 &&& 63)) ||| 0) <<< ((2 : Int32).toInt64 &&& 63)) ||| 3) <<< ((1 : Int32).toInt64 &&& 63)) ||| 0) <<< ((3 : Int32).toInt64 &&& 63)) ||| 0) <<< ((1 : Int32).toInt64 &&& 63)) ||| 0) <<< ((3 : Int32).toInt64 &&& 63)) ||| 0) <<< ((1 : Int32).toInt64 &&& 63)) ||| 0) = u) (mw cy a)) := by
  refine Ct.ofZ RX12 "told" [(0, .ref (a 0))] rfl rfl rfl rfl (Nat.le_of_ble_eq_true rfl) ?_
  intro p e R s m args below meth c A b
  refine z_aload_n b dX12_told_0 rfl rfl ?_
  refine z_aload_n b dX12_told_1 rfl rfl ?_
  refine z_calll b (z_runV (q0 := 0) (As := []) (st := [.ref (a 0)]) b (c_X12_packs_9 S h_i_0 h_a_0_0 h_a_2_0 h_a_3_1 h_a_1_1 h_a_4_1 h_a_4_2 h_a_0_1 h_a_2_1 h_a_3_5 h_a_1_5 h_a_4_5 h_a_1_3 h_a_4_3 h_a_0_2 h_a_2_2 h_a_3_6 h_a_1_6 h_a_4_6 h_a_1_7 h_a_4_7) cf_X12_packs (mw_0 cy a S) rfl wm_X12_149 wi_X12_packs ws_X12_packs dX12_told_2 rfl (Nat.le_of_ble_eq_true rfl) ⟨by decide, by decide, by decide, by decide⟩) (fun r1133 u1134 h1132 => ?_)
  obtain ⟨rfl, rfl⟩ := h1132
  refine z_put (q0 := 0) (k9 := 6) tyX12 b (mw_0 cy a S) rfl in_X12 tyX12_ok nmX12 (by decide) wf_X12_153 rfl rfl rfl rfl (Nat.le_of_ble_eq_true rfl) dX12_told_5 (mwp_0_6 cy a S (((((((((((((((((((((((((((((((768 ||| ((ar S 1 2) : Int32).toInt64) <<< ((1 : Int32).toInt64 &&& 63)) ||| 0) <<< ((4 : Int32).toInt64 &&& 63)) ||| 0) <<< ((2 : Int32).toInt64 &&& 63)) ||| 3) <<< ((1 : Int32).toInt64 &&& 63)) ||| 0) <<< ((3 : Int32).toInt64 &&& 63)) ||| 0) <<< ((1 : Int32).toInt64 &&& 63)) ||| 0) <<< ((3 : Int32).toInt64 &&& 63)) ||| 0) <<< ((1 : Int32).toInt64 &&& 63)) ||| 0) <<< ((4 : Int32).toInt64 &&& 63)) ||| 0) <<< ((2 : Int32).toInt64 &&& 63)) ||| 3) <<< ((1 : Int32).toInt64 &&& 63)) ||| 0) <<< ((3 : Int32).toInt64 &&& 63)) ||| 0) <<< ((1 : Int32).toInt64 &&& 63)) ||| 0) <<< ((3 : Int32).toInt64 &&& 63)) ||| 0) <<< ((1 : Int32).toInt64 &&& 63)) ||| 0)) ?_
  refine z_iconst (v := 1) b dX12_told_8 (by decide) ?_
  exact z_zret (u := (sl S 0 (((((((((((((((((((((((((((((((768 ||| ((ar S 1 2) : Int32).toInt64) <<< ((1 : Int32).toInt64 &&& 63)) ||| 0) <<< ((4 : Int32).toInt64 &&& 63)) ||| 0) <<< ((2 : Int32).toInt64 &&& 63)) ||| 3) <<< ((1 : Int32).toInt64 &&& 63)) ||| 0) <<< ((3 : Int32).toInt64 &&& 63)) ||| 0) <<< ((1 : Int32).toInt64 &&& 63)) ||| 0) <<< ((3 : Int32).toInt64 &&& 63)) ||| 0) <<< ((1 : Int32).toInt64 &&& 63)) ||| 0) <<< ((4 : Int32).toInt64 &&& 63)) ||| 0) <<< ((2 : Int32).toInt64 &&& 63)) ||| 3) <<< ((1 : Int32).toInt64 &&& 63)) ||| 0) <<< ((3 : Int32).toInt64 &&& 63)) ||| 0) <<< ((1 : Int32).toInt64 &&& 63)) ||| 0) <<< ((3 : Int32).toInt64 &&& 63)) ||| 0) <<< ((1 : Int32).toInt64 &&& 63)) ||| 0))) b rfl (by decide) dX12_told_9 ⟨rfl, rfl⟩ rfl (by decide) (by decide)

set_option maxHeartbeats 4000000 in
set_option maxRecDepth 100000 in
theorem c_X12_debt_16 {l : Launch} {D : va_G} {cy : Nat → ClassId} {T0 tB tE : Nat} {a : Nat → Nat} (S : GS) (p0 : Int32) (h_l_0 : fl S 0 = 1649317774848) (h_a_4_7 : ar S 4 7 = 0) (h_a_1_7 : ar S 1 7 = 0) (h_a_4_6 : ar S 4 6 = 0) (h_a_1_6 : ar S 1 6 = 0) (h_a_3_6 : ar S 3 6 = 0) (h_a_3_2 : ar S 3 2 = 0) (h_a_2_2 : ar S 2 2 = 3) (h_a_0_2 : ar S 0 2 = 0) (h_a_4_3 : ar S 4 3 = 0) (h_a_1_3 : ar S 1 3 = 0) (h_a_4_5 : ar S 4 5 = 0) (h_a_1_5 : ar S 1 5 = 0) (h_a_3_5 : ar S 3 5 = 0) (h_a_3_7 : ar S 3 7 = 0) (h_a_2_1 : ar S 2 1 = 3) (h_a_0_1 : ar S 0 1 = 0) (h_a_4_2 : ar S 4 2 = 0) (h_a_1_2 : ar S 1 2 = 0) (h_a_4_1 : ar S 4 1 = 0) (h_a_1_1 : ar S 1 1 = 0) (h_a_3_1 : ar S 3 1 = 0) (h_a_3_3 : ar S 3 3 = 0) (h_a_2_0 : ar S 2 0 = 3) (h_a_0_0 : ar S 0 0 = 0) (h_i_0 : fi S 0 = 0) (hr_p0 : 0 ≤ p0.toInt ∧ p0.toInt ≤ 7) : Ct l D cy T0 tB tE yX12_debt cX12_debt 4 (some .boolean) 3 65 0 0 (mw cy a S) [.ref (a 0), .int 0, .int 2, .int p0] (QI D (U := GS) (fun r u => 1 = r ∧ sl (su S 1 2 p0) 0 (((((((((((((((((((((((((((((((768 ||| ((ar (su S 1 2 p0) 1 2) : Int32).toInt64) <<< ((1 : Int32).toInt64 &&& 63)) ||| 0) <<< ((4 : Int32).toInt64 &&& 63)) ||| 0) <<< ((2 : Int32).toInt64 &&& 63)) ||| 3) <<< ((1 : Int32).toInt64 &&& 63)) ||| 0) <<< ((3 : Int32).toInt64 &&& 63)) ||| 0) <<< ((1 : Int32).toInt64 &&& 63)) ||| 0) <<< ((3 : Int32).toInt64 &&& 63)) ||| 0) <<< ((1 : Int32).toInt64 &&& 63)) ||| 0) <<< ((4 : Int32).toInt64 &&& 63)) ||| 0) <<< ((2 : Int32).toInt64 &&& 63)) ||| 3) <<< ((1 : Int32).toInt64 &&& 63)) ||| 0) <<< ((3 : Int32).toInt64 &&& 63)) ||| 0) <<< ((1 : Int32).toInt64 &&& 63)) ||| 0) <<< ((3 : Int32).toInt64 &&& 63)) ||| 0) <<< ((1 : Int32).toInt64 &&& 63)) ||| 0) = u) (mw cy a)) := by
  refine Ct.ofZ RX12 "debt" [(0, .ref (a 0)), (1, .int 0), (2, .int 2), (3, .int p0)] rfl rfl rfl rfl (Nat.le_of_ble_eq_true rfl) ?_
  intro p e R s m args below meth c A b
  refine z_iload_n b dX12_debt_0 rfl rfl ?_
  refine z_calli b (z_runS (As := [.int 0]) (st := []) b (c_X12_isOne_3 S ) cf_X12_isOne wm_X12_170 ws_X12_isOne dX12_debt_1 rfl (Nat.le_of_ble_eq_true rfl) ⟨by decide, by decide, by decide, by decide⟩) (fun r1076 u1077 h1075 => ?_)
  obtain ⟨rfl, rfl⟩ := h1075
  refine z_if_eq_f (tgt := 29) b dX12_debt_4 (by decide) (by decide) ?_
  refine z_iload_n b dX12_debt_7 rfl rfl ?_
  refine z_calli b (z_runS (As := [.int 2]) (st := []) b (c_X12_isOne_5 S ) cf_X12_isOne wm_X12_170 ws_X12_isOne dX12_debt_8 rfl (Nat.le_of_ble_eq_true rfl) ⟨by decide, by decide, by decide, by decide⟩) (fun r1079 u1080 h1078 => ?_)
  obtain ⟨rfl, rfl⟩ := h1078
  refine z_if_eq_f (tgt := 29) b dX12_debt_11 (by decide) (by decide) ?_
  refine z_iload_n b dX12_debt_14 rfl rfl ?_
  refine z_iload_n b dX12_debt_15 rfl rfl ?_
  refine z_icmp_eq_f (tgt := 29) b dX12_debt_16 (by decide) (by decide) ?_
  refine z_iload_n b dX12_debt_19 rfl rfl ?_
  refine z_iconst (v := 0) b dX12_debt_20 (by decide) ?_
  refine z_bipush (v := 7) b dX12_debt_21 (by decide) ?_
  refine z_calli b (z_runS (As := [.int p0, .int 0, .int 7]) (st := []) b (c_X12_isIn_13 S p0 ⟨by omega, by omega⟩) cf_X12_isIn wm_X12_1 ws_X12_isIn dX12_debt_23 rfl (Nat.le_of_ble_eq_true rfl) ⟨by decide, by decide, by decide, by decide⟩) (fun r1082 u1083 h1081 => ?_)
  obtain ⟨rfl, rfl⟩ := h1081
  refine z_if_ne_t (tgt := 31) b dX12_debt_26 (by decide) (by decide) ?_
  refine z_aload_n b dX12_debt_31 rfl rfl ?_
  refine z_aload_n b dX12_debt_32 rfl rfl ?_
  refine z_get (q0 := 0) (k9 := 6) (v := .long (fl S 0)) b (mw_0 cy a S) rfl in_X12 (by decide) wf_X12_153 rfl dX12_debt_33 ?_
  refine z_eql h_l_0 ?_
  refine z_callv b (z_runV (q0 := 0) (As := [.long 1649317774848]) (st := []) b (c_X12_takes S h_a_4_7 h_a_1_7 h_a_4_6 h_a_1_6 h_a_3_6 h_a_3_2 h_a_2_2 h_a_0_2 h_a_4_3 h_a_1_3 h_a_4_5 h_a_1_5 h_a_3_5 h_a_3_7 h_a_2_1 h_a_0_1 h_a_4_2 h_a_1_2 h_a_4_1 h_a_1_1 h_a_3_1 h_a_3_3 h_a_2_0 h_a_0_0 h_i_0) cf_X12_takes (mw_0 cy a S) rfl wm_X12_174 wi_X12_takes ws_X12_takes dX12_debt_36 rfl (Nat.le_of_ble_eq_true rfl) ⟨by decide, by decide, by decide, by decide⟩) (fun u1086 h1084 => ?_)
  obtain rfl := h1084
  refine z_aload_n b dX12_debt_39 rfl rfl ?_
  refine z_get (q0 := 0) (k9 := 1) (v := .ref (a 2)) b (mw_0 cy a S) rfl in_X12 (by decide) wf_X12_17 rfl dX12_debt_40 ?_
  refine z_iconst (v := 3) b dX12_debt_43 (by decide) ?_
  refine z_iload_n b dX12_debt_44 rfl rfl ?_
  refine z_imul (v := 0) b dX12_debt_45 (by decide) ?_
  refine z_iload_n b dX12_debt_46 rfl rfl ?_
  refine z_iadd (v := 2) b dX12_debt_47 (by decide) ?_
  refine z_iload_n b dX12_debt_48 rfl rfl ?_
  refine y_iast (q0 := 2) (j := 2) b (mw_2 cy a S) (by decide) dX12_debt_49 (mwa_2 cy a S 2 p0) ?_
  refine z_aload_n b dX12_debt_50 rfl rfl ?_
  refine z_calli b (z_runV (q0 := 0) (As := []) (st := []) b (c_X12_told_9 (su S 1 2 p0) h_i_0 h_a_0_0 h_a_2_0 h_a_3_1 h_a_1_1 h_a_4_1 h_a_4_2 h_a_0_1 h_a_2_1 h_a_3_5 h_a_1_5 h_a_4_5 h_a_1_3 h_a_4_3 h_a_0_2 h_a_2_2 h_a_3_6 h_a_1_6 h_a_4_6 h_a_1_7 h_a_4_7) cf_X12_told (mw_0 cy a (su S 1 2 p0)) rfl wm_X12_178 wi_X12_told ws_X12_told dX12_debt_51 rfl (Nat.le_of_ble_eq_true rfl) ⟨by decide, by decide, by decide, by decide⟩) (fun r1136 u1137 h1135 => ?_)
  obtain ⟨rfl, rfl⟩ := h1135
  exact z_zret (u := (sl (su S 1 2 p0) 0 (((((((((((((((((((((((((((((((768 ||| ((ar (su S 1 2 p0) 1 2) : Int32).toInt64) <<< ((1 : Int32).toInt64 &&& 63)) ||| 0) <<< ((4 : Int32).toInt64 &&& 63)) ||| 0) <<< ((2 : Int32).toInt64 &&& 63)) ||| 3) <<< ((1 : Int32).toInt64 &&& 63)) ||| 0) <<< ((3 : Int32).toInt64 &&& 63)) ||| 0) <<< ((1 : Int32).toInt64 &&& 63)) ||| 0) <<< ((3 : Int32).toInt64 &&& 63)) ||| 0) <<< ((1 : Int32).toInt64 &&& 63)) ||| 0) <<< ((4 : Int32).toInt64 &&& 63)) ||| 0) <<< ((2 : Int32).toInt64 &&& 63)) ||| 3) <<< ((1 : Int32).toInt64 &&& 63)) ||| 0) <<< ((3 : Int32).toInt64 &&& 63)) ||| 0) <<< ((1 : Int32).toInt64 &&& 63)) ||| 0) <<< ((3 : Int32).toInt64 &&& 63)) ||| 0) <<< ((1 : Int32).toInt64 &&& 63)) ||| 0))) b rfl (by decide) dX12_debt_54 ⟨rfl, rfl⟩ rfl (by decide) (by decide)

set_option maxHeartbeats 4000000 in
set_option maxRecDepth 100000 in
theorem c_X11_debt_17 {l : Launch} {D : va_G} {cy : Nat → ClassId} {T0 tB tE : Nat} {a : Nat → Nat} {rw : Nat → Option Nat} (S : GS) (p0 : Int32)  (hr_p0 : 8 ≤ p0.toInt ∧ p0.toInt ≤ 2147483647) : Ct l D cy T0 tB tE yX11_debt cX11_debt 4 (some .boolean) 2 41 0 0 (cw cy tE a rw S) [.ref (a 0), .int 0, .int 2, .int p0] (QI D (U := GS) (fun r u => 0 = r ∧ S = u) (cw cy tE a rw)) := by
  refine Ct.ofZ RX11 "debt" [(0, .ref (a 0)), (1, .int 0), (2, .int 2), (3, .int p0)] rfl rfl rfl rfl (Nat.le_of_ble_eq_true rfl) ?_
  intro p e R s m args below meth c A b
  refine z_iload_n b dX11_debt_0 rfl rfl ?_
  refine z_iload_n b dX11_debt_1 rfl rfl ?_
  refine z_calli b (z_runS (As := [.int 0, .int 2]) (st := []) b (c_X11_arePair_13 S ) cf_X11_arePair wm_X11_84 ws_X11_arePair dX11_debt_2 rfl (Nat.le_of_ble_eq_true rfl) ⟨by decide, by decide, by decide, by decide⟩) (fun r1139 u1140 h1138 => ?_)
  obtain ⟨rfl, rfl⟩ := h1138
  refine z_if_eq_f (tgt := 17) b dX11_debt_5 (by decide) (by decide) ?_
  refine z_iload_n b dX11_debt_8 rfl rfl ?_
  refine z_bipush (v := 7) b dX11_debt_9 (by decide) ?_
  refine z_calli b (z_runS (As := [.int p0, .int 7]) (st := []) b (c_X11_isWithin_9 S p0 ⟨by omega, by omega⟩) cf_X11_isWithin wm_X11_73 ws_X11_isWithin dX11_debt_11 rfl (Nat.le_of_ble_eq_true rfl) ⟨by decide, by decide, by decide, by decide⟩) (fun r1142 u1143 h1141 => ?_)
  obtain ⟨rfl, rfl⟩ := h1141
  refine z_if_ne_f (tgt := 19) b dX11_debt_14 (by decide) (by decide) ?_
  refine z_iconst (v := 0) b dX11_debt_17 (by decide) ?_
  exact z_zret (u := S) b rfl (by decide) dX11_debt_18 ⟨rfl, rfl⟩ rfl (by decide) (by decide)

set_option maxHeartbeats 4000000 in
set_option maxRecDepth 100000 in
theorem c_X12_debt_17 {l : Launch} {D : va_G} {cy : Nat → ClassId} {T0 tB tE : Nat} {a : Nat → Nat} (S : GS) (p0 : Int32)  (hr_p0 : 8 ≤ p0.toInt ∧ p0.toInt ≤ 2147483647) : Ct l D cy T0 tB tE yX12_debt cX12_debt 4 (some .boolean) 2 42 0 0 (mw cy a S) [.ref (a 0), .int 0, .int 2, .int p0] (QI D (U := GS) (fun r u => 0 = r ∧ S = u) (mw cy a)) := by
  refine Ct.ofZ RX12 "debt" [(0, .ref (a 0)), (1, .int 0), (2, .int 2), (3, .int p0)] rfl rfl rfl rfl (Nat.le_of_ble_eq_true rfl) ?_
  intro p e R s m args below meth c A b
  refine z_iload_n b dX12_debt_0 rfl rfl ?_
  refine z_calli b (z_runS (As := [.int 0]) (st := []) b (c_X12_isOne_3 S ) cf_X12_isOne wm_X12_170 ws_X12_isOne dX12_debt_1 rfl (Nat.le_of_ble_eq_true rfl) ⟨by decide, by decide, by decide, by decide⟩) (fun r1145 u1146 h1144 => ?_)
  obtain ⟨rfl, rfl⟩ := h1144
  refine z_if_eq_f (tgt := 29) b dX12_debt_4 (by decide) (by decide) ?_
  refine z_iload_n b dX12_debt_7 rfl rfl ?_
  refine z_calli b (z_runS (As := [.int 2]) (st := []) b (c_X12_isOne_5 S ) cf_X12_isOne wm_X12_170 ws_X12_isOne dX12_debt_8 rfl (Nat.le_of_ble_eq_true rfl) ⟨by decide, by decide, by decide, by decide⟩) (fun r1148 u1149 h1147 => ?_)
  obtain ⟨rfl, rfl⟩ := h1147
  refine z_if_eq_f (tgt := 29) b dX12_debt_11 (by decide) (by decide) ?_
  refine z_iload_n b dX12_debt_14 rfl rfl ?_
  refine z_iload_n b dX12_debt_15 rfl rfl ?_
  refine z_icmp_eq_f (tgt := 29) b dX12_debt_16 (by decide) (by decide) ?_
  refine z_iload_n b dX12_debt_19 rfl rfl ?_
  refine z_iconst (v := 0) b dX12_debt_20 (by decide) ?_
  refine z_bipush (v := 7) b dX12_debt_21 (by decide) ?_
  refine z_calli b (z_runS (As := [.int p0, .int 0, .int 7]) (st := []) b (c_X12_isIn_14 S p0 ⟨by omega, by omega⟩) cf_X12_isIn wm_X12_1 ws_X12_isIn dX12_debt_23 rfl (Nat.le_of_ble_eq_true rfl) ⟨by decide, by decide, by decide, by decide⟩) (fun r1151 u1152 h1150 => ?_)
  obtain ⟨rfl, rfl⟩ := h1150
  refine z_if_ne_f (tgt := 31) b dX12_debt_26 (by decide) (by decide) ?_
  refine z_iconst (v := 0) b dX12_debt_29 (by decide) ?_
  exact z_zret (u := S) b rfl (by decide) dX12_debt_30 ⟨rfl, rfl⟩ rfl (by decide) (by decide)

set_option maxHeartbeats 4000000 in
set_option maxRecDepth 100000 in
theorem c_X11_arePair_14 {l : Launch} {D : va_G} {cy : Nat → ClassId} {T0 tB tE : Nat} {a : Nat → Nat} {rw : Nat → Option Nat} (S : GS)   : Ct l D cy T0 tB tE yX11_arePair cX11_arePair 2 (some .boolean) 1 20 0 0 (cw cy tE a rw S) [.int 1, .int 0] (QI D (U := GS) (fun r u => 1 = r ∧ S = u) (cw cy tE a rw)) := by
  refine Ct.ofZ RX11 "arePair" [(0, .int 1), (1, .int 0)] rfl rfl rfl rfl (Nat.le_of_ble_eq_true rfl) ?_
  intro p e R s m args below meth c A b
  refine z_iload_n b dX11_arePair_0 rfl rfl ?_
  refine z_calli b (z_runS (As := [.int 1]) (st := []) b (c_X11_isPerson_4 S ) cf_X11_isPerson wm_X11_69 ws_X11_isPerson dX11_arePair_1 rfl (Nat.le_of_ble_eq_true rfl) ⟨by decide, by decide, by decide, by decide⟩) (fun r1154 u1155 h1153 => ?_)
  obtain ⟨rfl, rfl⟩ := h1153
  refine z_if_eq_f (tgt := 23) b dX11_arePair_4 (by decide) (by decide) ?_
  refine z_iload_n b dX11_arePair_7 rfl rfl ?_
  refine z_calli b (z_runS (As := [.int 0]) (st := []) b (c_X11_isPerson_3 S ) cf_X11_isPerson wm_X11_69 ws_X11_isPerson dX11_arePair_8 rfl (Nat.le_of_ble_eq_true rfl) ⟨by decide, by decide, by decide, by decide⟩) (fun r1157 u1158 h1156 => ?_)
  obtain ⟨rfl, rfl⟩ := h1156
  refine z_if_eq_f (tgt := 23) b dX11_arePair_11 (by decide) (by decide) ?_
  refine z_iload_n b dX11_arePair_14 rfl rfl ?_
  refine z_iload_n b dX11_arePair_15 rfl rfl ?_
  refine z_icmp_eq_f (tgt := 23) b dX11_arePair_16 (by decide) (by decide) ?_
  refine z_iconst (v := 1) b dX11_arePair_19 (by decide) ?_
  refine z_goto (tgt := 24) b dX11_arePair_20 (by decide) ?_
  exact z_zret (u := S) b rfl (by decide) dX11_arePair_24 ⟨rfl, rfl⟩ rfl (by decide) (by decide)

set_option maxHeartbeats 4000000 in
set_option maxRecDepth 100000 in
theorem c_X11_debt_18 {l : Launch} {D : va_G} {cy : Nat → ClassId} {T0 tB tE : Nat} {a : Nat → Nat} {rw : Nat → Option Nat} (S : GS) (p0 : Int32)  (hr_p0 : (-2147483648) ≤ p0.toInt ∧ p0.toInt ≤ (-1)) : Ct l D cy T0 tB tE yX11_debt cX11_debt 4 (some .boolean) 2 41 0 0 (cw cy tE a rw S) [.ref (a 0), .int 1, .int 0, .int p0] (QI D (U := GS) (fun r u => 0 = r ∧ S = u) (cw cy tE a rw)) := by
  refine Ct.ofZ RX11 "debt" [(0, .ref (a 0)), (1, .int 1), (2, .int 0), (3, .int p0)] rfl rfl rfl rfl (Nat.le_of_ble_eq_true rfl) ?_
  intro p e R s m args below meth c A b
  refine z_iload_n b dX11_debt_0 rfl rfl ?_
  refine z_iload_n b dX11_debt_1 rfl rfl ?_
  refine z_calli b (z_runS (As := [.int 1, .int 0]) (st := []) b (c_X11_arePair_14 S ) cf_X11_arePair wm_X11_84 ws_X11_arePair dX11_debt_2 rfl (Nat.le_of_ble_eq_true rfl) ⟨by decide, by decide, by decide, by decide⟩) (fun r1160 u1161 h1159 => ?_)
  obtain ⟨rfl, rfl⟩ := h1159
  refine z_if_eq_f (tgt := 17) b dX11_debt_5 (by decide) (by decide) ?_
  refine z_iload_n b dX11_debt_8 rfl rfl ?_
  refine z_bipush (v := 7) b dX11_debt_9 (by decide) ?_
  refine z_calli b (z_runS (As := [.int p0, .int 7]) (st := []) b (c_X11_isWithin_7 S p0 ⟨by omega, by omega⟩) cf_X11_isWithin wm_X11_73 ws_X11_isWithin dX11_debt_11 rfl (Nat.le_of_ble_eq_true rfl) ⟨by decide, by decide, by decide, by decide⟩) (fun r1163 u1164 h1162 => ?_)
  obtain ⟨rfl, rfl⟩ := h1162
  refine z_if_ne_f (tgt := 19) b dX11_debt_14 (by decide) (by decide) ?_
  refine z_iconst (v := 0) b dX11_debt_17 (by decide) ?_
  exact z_zret (u := S) b rfl (by decide) dX11_debt_18 ⟨rfl, rfl⟩ rfl (by decide) (by decide)

set_option maxHeartbeats 4000000 in
set_option maxRecDepth 100000 in
theorem c_X12_debt_18 {l : Launch} {D : va_G} {cy : Nat → ClassId} {T0 tB tE : Nat} {a : Nat → Nat} (S : GS) (p0 : Int32)  (hr_p0 : (-2147483648) ≤ p0.toInt ∧ p0.toInt ≤ (-1)) : Ct l D cy T0 tB tE yX12_debt cX12_debt 4 (some .boolean) 2 42 0 0 (mw cy a S) [.ref (a 0), .int 1, .int 0, .int p0] (QI D (U := GS) (fun r u => 0 = r ∧ S = u) (mw cy a)) := by
  refine Ct.ofZ RX12 "debt" [(0, .ref (a 0)), (1, .int 1), (2, .int 0), (3, .int p0)] rfl rfl rfl rfl (Nat.le_of_ble_eq_true rfl) ?_
  intro p e R s m args below meth c A b
  refine z_iload_n b dX12_debt_0 rfl rfl ?_
  refine z_calli b (z_runS (As := [.int 1]) (st := []) b (c_X12_isOne_4 S ) cf_X12_isOne wm_X12_170 ws_X12_isOne dX12_debt_1 rfl (Nat.le_of_ble_eq_true rfl) ⟨by decide, by decide, by decide, by decide⟩) (fun r1166 u1167 h1165 => ?_)
  obtain ⟨rfl, rfl⟩ := h1165
  refine z_if_eq_f (tgt := 29) b dX12_debt_4 (by decide) (by decide) ?_
  refine z_iload_n b dX12_debt_7 rfl rfl ?_
  refine z_calli b (z_runS (As := [.int 0]) (st := []) b (c_X12_isOne_3 S ) cf_X12_isOne wm_X12_170 ws_X12_isOne dX12_debt_8 rfl (Nat.le_of_ble_eq_true rfl) ⟨by decide, by decide, by decide, by decide⟩) (fun r1169 u1170 h1168 => ?_)
  obtain ⟨rfl, rfl⟩ := h1168
  refine z_if_eq_f (tgt := 29) b dX12_debt_11 (by decide) (by decide) ?_
  refine z_iload_n b dX12_debt_14 rfl rfl ?_
  refine z_iload_n b dX12_debt_15 rfl rfl ?_
  refine z_icmp_eq_f (tgt := 29) b dX12_debt_16 (by decide) (by decide) ?_
  refine z_iload_n b dX12_debt_19 rfl rfl ?_
  refine z_iconst (v := 0) b dX12_debt_20 (by decide) ?_
  refine z_bipush (v := 7) b dX12_debt_21 (by decide) ?_
  refine z_calli b (z_runS (As := [.int p0, .int 0, .int 7]) (st := []) b (c_X12_isIn_12 S p0 ⟨by omega, by omega⟩) cf_X12_isIn wm_X12_1 ws_X12_isIn dX12_debt_23 rfl (Nat.le_of_ble_eq_true rfl) ⟨by decide, by decide, by decide, by decide⟩) (fun r1172 u1173 h1171 => ?_)
  obtain ⟨rfl, rfl⟩ := h1171
  refine z_if_ne_f (tgt := 31) b dX12_debt_26 (by decide) (by decide) ?_
  refine z_iconst (v := 0) b dX12_debt_29 (by decide) ?_
  exact z_zret (u := S) b rfl (by decide) dX12_debt_30 ⟨rfl, rfl⟩ rfl (by decide) (by decide)

set_option maxHeartbeats 4000000 in
set_option maxRecDepth 100000 in
theorem c_X9_set_10 {l : Launch} {D : va_G} {cy : Nat → ClassId} {T0 tB tE : Nat} {a : Nat → Nat} {rw : Nat → Option Nat} (S : GS) (p0 : Int32)  (hr_p0 : 0 ≤ p0.toInt ∧ p0.toInt ≤ 7) : Ct l D cy T0 tB tE yX9_set cX9_set 3 none 0 0 0 0 (cw cy tE a rw S) [.ref (a 14), .int 13, .int p0] (QV D (U := GS) (fun u => su S 4 13 p0 = u) (cw cy tE a rw)) := by
  refine Ct.ofZ RX9 "set" [(0, .ref (a 14)), (1, .int 13), (2, .int p0)] rfl rfl rfl rfl (Nat.le_of_ble_eq_true rfl) ?_
  intro p e R s m args below meth c A b
  refine z_iload_n b dX9_set_0 rfl rfl ?_
  refine z_if_lt_f (tgt := 20) b dX9_set_1 (by decide) (by decide) ?_
  refine z_iload_n b dX9_set_4 rfl rfl ?_
  refine z_aload_n b dX9_set_5 rfl rfl ?_
  refine z_get (q0 := 14) (k9 := 0) (v := .ref (a 15)) b (cw_14 cy tE a rw S) rfl in_X9 (by decide) wf_X9_11 rfl dX9_set_6 ?_
  refine z_alen (q0 := 15) (t0 := 0) (v := 51) b (cw_15 cy tE a rw S) rfl rfl dX9_set_9 ?_
  refine z_icmp_ge_f (tgt := 20) b dX9_set_10 (by decide) (by decide) ?_
  refine z_aload_n b dX9_set_13 rfl rfl ?_
  refine z_get (q0 := 14) (k9 := 0) (v := .ref (a 15)) b (cw_14 cy tE a rw S) rfl in_X9 (by decide) wf_X9_11 rfl dX9_set_14 ?_
  refine z_iload_n b dX9_set_17 rfl rfl ?_
  refine z_iload_n b dX9_set_18 rfl rfl ?_
  refine y_iast (q0 := 15) (j := 13) b (cw_15 cy tE a rw S) (by decide) dX9_set_19 (cwa_15 cy tE a rw S 13 p0) ?_
  exact z_vret (u := (su S 4 13 p0)) b rfl dX9_set_20 rfl rfl (by decide) (by decide)

set_option maxHeartbeats 4000000 in
set_option maxRecDepth 100000 in
theorem c_X11_debt_19 {l : Launch} {D : va_G} {cy : Nat → ClassId} {T0 tB tE : Nat} {a : Nat → Nat} {rw : Nat → Option Nat} (S : GS) (p0 : Int32) (h_i_24 : fi S 24 = 0) (hr_p0 : 0 ≤ p0.toInt ∧ p0.toInt ≤ 7) : Ct l D cy T0 tB tE yX11_debt cX11_debt 4 (some .boolean) 2 41 0 0 (cw cy tE a rw S) [.ref (a 0), .int 1, .int 0, .int p0] (QI D (U := GS) (fun r u => 1 = r ∧ (su S 4 13 p0) = u) (cw cy tE a rw)) := by
  refine Ct.ofZ RX11 "debt" [(0, .ref (a 0)), (1, .int 1), (2, .int 0), (3, .int p0)] rfl rfl rfl rfl (Nat.le_of_ble_eq_true rfl) ?_
  intro p e R s m args below meth c A b
  refine z_iload_n b dX11_debt_0 rfl rfl ?_
  refine z_iload_n b dX11_debt_1 rfl rfl ?_
  refine z_calli b (z_runS (As := [.int 1, .int 0]) (st := []) b (c_X11_arePair_14 S ) cf_X11_arePair wm_X11_84 ws_X11_arePair dX11_debt_2 rfl (Nat.le_of_ble_eq_true rfl) ⟨by decide, by decide, by decide, by decide⟩) (fun r1175 u1176 h1174 => ?_)
  obtain ⟨rfl, rfl⟩ := h1174
  refine z_if_eq_f (tgt := 17) b dX11_debt_5 (by decide) (by decide) ?_
  refine z_iload_n b dX11_debt_8 rfl rfl ?_
  refine z_bipush (v := 7) b dX11_debt_9 (by decide) ?_
  refine z_calli b (z_runS (As := [.int p0, .int 7]) (st := []) b (c_X11_isWithin_8 S p0 ⟨by omega, by omega⟩) cf_X11_isWithin wm_X11_73 ws_X11_isWithin dX11_debt_11 rfl (Nat.le_of_ble_eq_true rfl) ⟨by decide, by decide, by decide, by decide⟩) (fun r1178 u1179 h1177 => ?_)
  obtain ⟨rfl, rfl⟩ := h1177
  refine z_if_ne_t (tgt := 19) b dX11_debt_14 (by decide) (by decide) ?_
  refine z_aload_n b dX11_debt_19 rfl rfl ?_
  refine z_get (q0 := 0) (k9 := 4) (v := .ref (a 14)) b (cw_0 cy tE a rw S) rfl in_X11 (by decide) wf_X11_34 rfl dX11_debt_20 ?_
  refine z_bipush (v := 10) b dX11_debt_23 (by decide) ?_
  refine z_iconst (v := 3) b dX11_debt_25 (by decide) ?_
  refine z_iload_n b dX11_debt_26 rfl rfl ?_
  refine z_imul (v := 3) b dX11_debt_27 (by decide) ?_
  refine z_iadd (v := 13) b dX11_debt_28 (by decide) ?_
  refine z_iload_n b dX11_debt_29 rfl rfl ?_
  refine z_iadd (v := 13) b dX11_debt_30 (by decide) ?_
  refine z_iload_n b dX11_debt_31 rfl rfl ?_
  refine z_callv b (z_runV (q0 := 14) (As := [.int 13, .int p0]) (st := []) b (c_X9_set_10 S p0 ⟨by omega, by omega⟩) cf_X9_set (cw_14 cy tE a rw S) rfl wm_X11_77 wi_X9_set ws_X9_set dX11_debt_32 rfl (Nat.le_of_ble_eq_true rfl) ⟨by decide, by decide, by decide, by decide⟩) (fun u1182 h1180 => ?_)
  obtain rfl := h1180
  refine z_aload_n b dX11_debt_35 rfl rfl ?_
  refine z_get (q0 := 0) (k9 := 6) (v := .ref (a 25)) b (cw_0 cy tE a rw (su S 4 13 p0)) rfl in_X11 (by decide) wf_X11_52 rfl dX11_debt_36 ?_
  refine z_callv b (z_runV (q0 := 25) (As := []) (st := []) b (c_X8_forget (su S 4 13 p0) h_i_24) cf_X8_forget (cw_25 cy tE a rw (su S 4 13 p0)) rfl wm_X11_81 wi_X8_forget ws_X8_forget dX11_debt_39 rfl (Nat.le_of_ble_eq_true rfl) ⟨by decide, by decide, by decide, by decide⟩) (fun u1185 h1183 => ?_)
  obtain rfl := h1183
  refine z_iconst (v := 1) b dX11_debt_42 (by decide) ?_
  exact z_zret (u := (su S 4 13 p0)) b rfl (by decide) dX11_debt_43 ⟨rfl, rfl⟩ rfl (by decide) (by decide)

set_option maxHeartbeats 4000000 in
set_option maxRecDepth 100000 in
theorem ch_X12_packs_22 {p : Program} {l : Launch} {e : Env} {R : Room} {s : State} {m : MethodId} {args : Array Value} {below : List Frame} {meth : Method} {c : Code} {D : va_G} {cy : Nat → ClassId} {T0 tB tE : Nat} {A : Nat → Prop} {Q : State → Prop} {a : Nat → Nat} (S : GS)  (h_a_0_0 : ar S 0 0 = 0) (h_a_1_1 : ar S 1 1 = 0) (h_a_1_2 : ar S 1 2 = 0) (h_a_2_0 : ar S 2 0 = 3) (h_a_3_1 : ar S 3 1 = 0) (h_a_4_1 : ar S 4 1 = 0) (h_a_4_2 : ar S 4 2 = 0) (h_i_0 : fi S 0 = 0) (b : Bz p R s m args meth c D cy T0 tB tE A 5 cX12_packs RX12 (some .long) "packs" 1 21 0 0) (k : Z p l e R s m args below meth c D A 5 Q 0 0 (mw cy a S) [(3, .int 1), (4, .int 2), (1, .long 1536), (0, .ref (a 0))] 21 [.int 1, .ref (a 1), .long 24576]) : Z p l e R s m args below meth c D A 5 Q 0 0 (mw cy a S) [(0, .ref (a 0))] 0 [] := by
  refine z_aload_n b dX12_packs_0 rfl rfl ?_
  refine z_get (q0 := 0) (k9 := 5) (v := .int (fi S 0)) b (mw_0 cy a S) rfl in_X12 (by decide) wf_X12_157 rfl dX12_packs_1 ?_
  refine z_eqi h_i_0 ?_
  refine z_i2l (v := 0) b dX12_packs_4 (by decide) ?_
  refine z_lstore_n (lv' := [(1, .long 0), (0, .ref (a 0))]) b dX12_packs_5 rfl (by decide) rfl ?_
  refine z_iconst (v := 0) b dX12_packs_6 (by decide) ?_
  refine z_istore_n (lv' := [(3, .int 0), (1, .long 0), (0, .ref (a 0))]) b dX12_packs_7 rfl (by decide) rfl ?_
  refine z_iload_n b dX12_packs_8 rfl rfl ?_
  refine z_iconst (v := 3) b dX12_packs_9 (by decide) ?_
  refine z_icmp_ge_f (tgt := 134) b dX12_packs_10 (by decide) (by decide) ?_
  refine z_lload_n b dX12_packs_13 rfl rfl ?_
  refine z_iconst (v := 4) b dX12_packs_14 (by decide) ?_
  refine z_lshl (v := 0) b dX12_packs_15 (by decide) ?_
  refine z_aload_n b dX12_packs_16 rfl rfl ?_
  refine z_get (q0 := 0) (k9 := 0) (v := .ref (a 1)) b (mw_0 cy a S) rfl in_X12 (by decide) wf_X12_13 rfl dX12_packs_17 ?_
  refine z_iload_n b dX12_packs_20 rfl rfl ?_
  refine y_iald (q0 := 1) (j := 0) (v := (ar S 0 0)) b (mw_1 cy a S) (by decide) rfl dX12_packs_21 ?_
  refine z_eqi h_a_0_0 ?_
  refine z_i2l (v := 0) b dX12_packs_22 (by decide) ?_
  refine z_lor (v := 0) b dX12_packs_23 (by decide) ?_
  refine z_lstore_n (lv' := [(1, .long 0), (3, .int 0), (0, .ref (a 0))]) b dX12_packs_24 rfl (by decide) rfl ?_
  refine z_lload_n b dX12_packs_25 rfl rfl ?_
  refine z_iconst (v := 2) b dX12_packs_26 (by decide) ?_
  refine z_lshl (v := 0) b dX12_packs_27 (by decide) ?_
  refine z_aload_n b dX12_packs_28 rfl rfl ?_
  refine z_get (q0 := 0) (k9 := 2) (v := .ref (a 3)) b (mw_0 cy a S) rfl in_X12 (by decide) wf_X12_20 rfl dX12_packs_29 ?_
  refine z_iload_n b dX12_packs_32 rfl rfl ?_
  refine y_iald (q0 := 3) (j := 0) (v := (ar S 2 0)) b (mw_3 cy a S) (by decide) rfl dX12_packs_33 ?_
  refine z_eqi h_a_2_0 ?_
  refine z_i2l (v := 3) b dX12_packs_34 (by decide) ?_
  refine z_lor (v := 3) b dX12_packs_35 (by decide) ?_
  refine z_lstore_n (lv' := [(1, .long 3), (3, .int 0), (0, .ref (a 0))]) b dX12_packs_36 rfl (by decide) rfl ?_
  refine z_lload_n b dX12_packs_37 rfl rfl ?_
  refine z_iconst (v := 1) b dX12_packs_38 (by decide) ?_
  refine z_lshl (v := 6) b dX12_packs_39 (by decide) ?_
  refine z_aload_n b dX12_packs_40 rfl rfl ?_
  refine z_get (q0 := 0) (k9 := 3) (v := .ref (a 4)) b (mw_0 cy a S) rfl in_X12 (by decide) wf_X12_23 rfl dX12_packs_41 ?_
  refine z_iconst (v := 3) b dX12_packs_44 (by decide) ?_
  refine z_iload_n b dX12_packs_45 rfl rfl ?_
  refine z_imul (v := 0) b dX12_packs_46 (by decide) ?_
  refine z_iload_n b dX12_packs_47 rfl rfl ?_
  refine z_iconst (v := 0) b dX12_packs_48 (by decide) ?_
  refine z_calli b (z_runS (As := [.int 0, .int 0]) (st := [.int 0, .ref (a 4), .long 6]) b (c_X12_other_6 S ) cf_X12_other wm_X12_160 ws_X12_other dX12_packs_49 rfl (Nat.le_of_ble_eq_true rfl) ⟨by decide, by decide, by decide, by decide⟩) (fun r1199 u1200 h1198 => ?_)
  obtain ⟨rfl, rfl⟩ := h1198
  refine z_iadd (v := 1) b dX12_packs_52 (by decide) ?_
  refine y_zald (q0 := 4) (j := 1) (v := (ar S 3 1)) b (mw_4 cy a S) (by decide) rfl dX12_packs_53 ?_
  refine z_eqi h_a_3_1 ?_
  refine z_if_eq_t (tgt := 61) b dX12_packs_54 (by decide) (by decide) ?_
  refine z_lconst (v := 0) b dX12_packs_61 (by decide) ?_
  refine z_lor (v := 6) b dX12_packs_62 (by decide) ?_
  refine z_lstore_n (lv' := [(1, .long 6), (3, .int 0), (0, .ref (a 0))]) b dX12_packs_63 rfl (by decide) rfl ?_
  refine z_iconst (v := 0) b dX12_packs_64 (by decide) ?_
  refine z_istore (lv' := [(4, .int 0), (1, .long 6), (3, .int 0), (0, .ref (a 0))]) b dX12_packs_65 (by decide) rfl ?_
  refine z_iload b dX12_packs_67 rfl ?_
  refine z_iconst (v := 2) b dX12_packs_69 (by decide) ?_
  refine z_icmp_ge_f (tgt := 128) b dX12_packs_70 (by decide) (by decide) ?_
  refine z_lload_n b dX12_packs_73 rfl rfl ?_
  refine z_iconst (v := 3) b dX12_packs_74 (by decide) ?_
  refine z_lshl (v := 48) b dX12_packs_75 (by decide) ?_
  refine z_aload_n b dX12_packs_76 rfl rfl ?_
  refine z_get (q0 := 0) (k9 := 1) (v := .ref (a 2)) b (mw_0 cy a S) rfl in_X12 (by decide) wf_X12_17 rfl dX12_packs_77 ?_
  refine z_iconst (v := 3) b dX12_packs_80 (by decide) ?_
  refine z_iload_n b dX12_packs_81 rfl rfl ?_
  refine z_imul (v := 0) b dX12_packs_82 (by decide) ?_
  refine z_iload_n b dX12_packs_83 rfl rfl ?_
  refine z_iload b dX12_packs_84 rfl ?_
  refine z_calli b (z_runS (As := [.int 0, .int 0]) (st := [.int 0, .ref (a 2), .long 48]) b (c_X12_other_6 S ) cf_X12_other wm_X12_160 ws_X12_other dX12_packs_86 rfl (Nat.le_of_ble_eq_true rfl) ⟨by decide, by decide, by decide, by decide⟩) (fun r1202 u1203 h1201 => ?_)
  obtain ⟨rfl, rfl⟩ := h1201
  refine z_iadd (v := 1) b dX12_packs_89 (by decide) ?_
  refine y_iald (q0 := 2) (j := 1) (v := (ar S 1 1)) b (mw_2 cy a S) (by decide) rfl dX12_packs_90 ?_
  refine z_eqi h_a_1_1 ?_
  refine z_i2l (v := 0) b dX12_packs_91 (by decide) ?_
  refine z_lor (v := 48) b dX12_packs_92 (by decide) ?_
  refine z_lstore_n (lv' := [(1, .long 48), (4, .int 0), (3, .int 0), (0, .ref (a 0))]) b dX12_packs_93 rfl (by decide) rfl ?_
  refine z_lload_n b dX12_packs_94 rfl rfl ?_
  refine z_iconst (v := 1) b dX12_packs_95 (by decide) ?_
  refine z_lshl (v := 96) b dX12_packs_96 (by decide) ?_
  refine z_aload_n b dX12_packs_97 rfl rfl ?_
  refine z_get (q0 := 0) (k9 := 4) (v := .ref (a 5)) b (mw_0 cy a S) rfl in_X12 (by decide) wf_X12_27 rfl dX12_packs_98 ?_
  refine z_iconst (v := 3) b dX12_packs_101 (by decide) ?_
  refine z_iload_n b dX12_packs_102 rfl rfl ?_
  refine z_imul (v := 0) b dX12_packs_103 (by decide) ?_
  refine z_iload_n b dX12_packs_104 rfl rfl ?_
  refine z_iload b dX12_packs_105 rfl ?_
  refine z_calli b (z_runS (As := [.int 0, .int 0]) (st := [.int 0, .ref (a 5), .long 96]) b (c_X12_other_6 S ) cf_X12_other wm_X12_160 ws_X12_other dX12_packs_107 rfl (Nat.le_of_ble_eq_true rfl) ⟨by decide, by decide, by decide, by decide⟩) (fun r1205 u1206 h1204 => ?_)
  obtain ⟨rfl, rfl⟩ := h1204
  refine z_iadd (v := 1) b dX12_packs_110 (by decide) ?_
  refine y_zald (q0 := 5) (j := 1) (v := (ar S 4 1)) b (mw_5 cy a S) (by decide) rfl dX12_packs_111 ?_
  refine z_eqi h_a_4_1 ?_
  refine z_if_eq_t (tgt := 119) b dX12_packs_112 (by decide) (by decide) ?_
  refine z_lconst (v := 0) b dX12_packs_119 (by decide) ?_
  refine z_lor (v := 96) b dX12_packs_120 (by decide) ?_
  refine z_lstore_n (lv' := [(1, .long 96), (4, .int 0), (3, .int 0), (0, .ref (a 0))]) b dX12_packs_121 rfl (by decide) rfl ?_
  refine z_iinc (k9 := 1) (v := 1) (lv' := [(4, .int 1), (1, .long 96), (3, .int 0), (0, .ref (a 0))]) b dX12_packs_122 rfl (by decide) (by decide) rfl ?_
  refine z_goto (tgt := 67) b dX12_packs_125 (by decide) ?_
  refine z_iload b dX12_packs_67 rfl ?_
  refine z_iconst (v := 2) b dX12_packs_69 (by decide) ?_
  refine z_icmp_ge_f (tgt := 128) b dX12_packs_70 (by decide) (by decide) ?_
  refine z_lload_n b dX12_packs_73 rfl rfl ?_
  refine z_iconst (v := 3) b dX12_packs_74 (by decide) ?_
  refine z_lshl (v := 768) b dX12_packs_75 (by decide) ?_
  refine z_aload_n b dX12_packs_76 rfl rfl ?_
  refine z_get (q0 := 0) (k9 := 1) (v := .ref (a 2)) b (mw_0 cy a S) rfl in_X12 (by decide) wf_X12_17 rfl dX12_packs_77 ?_
  refine z_iconst (v := 3) b dX12_packs_80 (by decide) ?_
  refine z_iload_n b dX12_packs_81 rfl rfl ?_
  refine z_imul (v := 0) b dX12_packs_82 (by decide) ?_
  refine z_iload_n b dX12_packs_83 rfl rfl ?_
  refine z_iload b dX12_packs_84 rfl ?_
  refine z_calli b (z_runS (As := [.int 0, .int 1]) (st := [.int 0, .ref (a 2), .long 768]) b (c_X12_other_5 S ) cf_X12_other wm_X12_160 ws_X12_other dX12_packs_86 rfl (Nat.le_of_ble_eq_true rfl) ⟨by decide, by decide, by decide, by decide⟩) (fun r1208 u1209 h1207 => ?_)
  obtain ⟨rfl, rfl⟩ := h1207
  refine z_iadd (v := 2) b dX12_packs_89 (by decide) ?_
  refine y_iald (q0 := 2) (j := 2) (v := (ar S 1 2)) b (mw_2 cy a S) (by decide) rfl dX12_packs_90 ?_
  refine z_eqi h_a_1_2 ?_
  refine z_i2l (v := 0) b dX12_packs_91 (by decide) ?_
  refine z_lor (v := 768) b dX12_packs_92 (by decide) ?_
  refine z_lstore_n (lv' := [(1, .long 768), (4, .int 1), (3, .int 0), (0, .ref (a 0))]) b dX12_packs_93 rfl (by decide) rfl ?_
  refine z_lload_n b dX12_packs_94 rfl rfl ?_
  refine z_iconst (v := 1) b dX12_packs_95 (by decide) ?_
  refine z_lshl (v := 1536) b dX12_packs_96 (by decide) ?_
  refine z_aload_n b dX12_packs_97 rfl rfl ?_
  refine z_get (q0 := 0) (k9 := 4) (v := .ref (a 5)) b (mw_0 cy a S) rfl in_X12 (by decide) wf_X12_27 rfl dX12_packs_98 ?_
  refine z_iconst (v := 3) b dX12_packs_101 (by decide) ?_
  refine z_iload_n b dX12_packs_102 rfl rfl ?_
  refine z_imul (v := 0) b dX12_packs_103 (by decide) ?_
  refine z_iload_n b dX12_packs_104 rfl rfl ?_
  refine z_iload b dX12_packs_105 rfl ?_
  refine z_calli b (z_runS (As := [.int 0, .int 1]) (st := [.int 0, .ref (a 5), .long 1536]) b (c_X12_other_5 S ) cf_X12_other wm_X12_160 ws_X12_other dX12_packs_107 rfl (Nat.le_of_ble_eq_true rfl) ⟨by decide, by decide, by decide, by decide⟩) (fun r1211 u1212 h1210 => ?_)
  obtain ⟨rfl, rfl⟩ := h1210
  refine z_iadd (v := 2) b dX12_packs_110 (by decide) ?_
  refine y_zald (q0 := 5) (j := 2) (v := (ar S 4 2)) b (mw_5 cy a S) (by decide) rfl dX12_packs_111 ?_
  refine z_eqi h_a_4_2 ?_
  refine z_if_eq_t (tgt := 119) b dX12_packs_112 (by decide) (by decide) ?_
  refine z_lconst (v := 0) b dX12_packs_119 (by decide) ?_
  refine z_lor (v := 1536) b dX12_packs_120 (by decide) ?_
  refine z_lstore_n (lv' := [(1, .long 1536), (4, .int 1), (3, .int 0), (0, .ref (a 0))]) b dX12_packs_121 rfl (by decide) rfl ?_
  refine z_iinc (k9 := 1) (v := 2) (lv' := [(4, .int 2), (1, .long 1536), (3, .int 0), (0, .ref (a 0))]) b dX12_packs_122 rfl (by decide) (by decide) rfl ?_
  refine z_goto (tgt := 67) b dX12_packs_125 (by decide) ?_
  refine z_iload b dX12_packs_67 rfl ?_
  refine z_iconst (v := 2) b dX12_packs_69 (by decide) ?_
  refine z_icmp_ge_t (tgt := 128) b dX12_packs_70 (by decide) (by decide) ?_
  refine z_iinc (k9 := 2) (v := 1) (lv' := [(3, .int 1), (4, .int 2), (1, .long 1536), (0, .ref (a 0))]) b dX12_packs_128 rfl (by decide) (by decide) rfl ?_
  refine z_goto (tgt := 8) b dX12_packs_131 (by decide) ?_
  refine z_iload_n b dX12_packs_8 rfl rfl ?_
  refine z_iconst (v := 3) b dX12_packs_9 (by decide) ?_
  refine z_icmp_ge_f (tgt := 134) b dX12_packs_10 (by decide) (by decide) ?_
  refine z_lload_n b dX12_packs_13 rfl rfl ?_
  refine z_iconst (v := 4) b dX12_packs_14 (by decide) ?_
  refine z_lshl (v := 24576) b dX12_packs_15 (by decide) ?_
  refine z_aload_n b dX12_packs_16 rfl rfl ?_
  refine z_get (q0 := 0) (k9 := 0) (v := .ref (a 1)) b (mw_0 cy a S) rfl in_X12 (by decide) wf_X12_13 rfl dX12_packs_17 ?_
  refine z_iload_n b dX12_packs_20 rfl rfl ?_
  exact k

set_option maxHeartbeats 4000000 in
set_option maxRecDepth 100000 in
theorem ch_X12_packs_23 {p : Program} {l : Launch} {e : Env} {R : Room} {s : State} {m : MethodId} {args : Array Value} {below : List Frame} {meth : Method} {c : Code} {D : va_G} {cy : Nat → ClassId} {T0 tB tE : Nat} {A : Nat → Prop} {Q : State → Prop} {a : Nat → Nat} (S : GS)  (h_a_0_1 : ar S 0 1 = 0) (h_a_0_2 : ar S 0 2 = 0) (h_a_1_5 : ar S 1 5 = 0) (h_a_2_1 : ar S 2 1 = 3) (h_a_2_2 : ar S 2 2 = 3) (h_a_3_5 : ar S 3 5 = 0) (h_a_4_3 : ar S 4 3 = 0) (h_a_4_5 : ar S 4 5 = 0) (b : Bz p R s m args meth c D cy T0 tB tE A 5 cX12_packs RX12 (some .long) "packs" 1 21 0 0) (k : Z p l e R s m args below meth c D A 5 Q 0 0 (mw cy a S) [(1, .long (((((((25166592 ||| ((ar S 1 3) : Int32).toInt64) <<< ((1 : Int32).toInt64 &&& 63)) ||| 0) <<< ((4 : Int32).toInt64 &&& 63)) ||| 0) <<< ((2 : Int32).toInt64 &&& 63)) ||| 3)), (3, .int 2), (4, .int 2), (0, .ref (a 0))] 38 [.long (((((((25166592 ||| ((ar S 1 3) : Int32).toInt64) <<< ((1 : Int32).toInt64 &&& 63)) ||| 0) <<< ((4 : Int32).toInt64 &&& 63)) ||| 0) <<< ((2 : Int32).toInt64 &&& 63)) ||| 3)]) : Z p l e R s m args below meth c D A 5 Q 0 0 (mw cy a S) [(3, .int 1), (4, .int 2), (1, .long 1536), (0, .ref (a 0))] 21 [.int 1, .ref (a 1), .long 24576] := by
  refine y_iald (q0 := 1) (j := 1) (v := (ar S 0 1)) b (mw_1 cy a S) (by decide) rfl dX12_packs_21 ?_
  refine z_eqi h_a_0_1 ?_
  refine z_i2l (v := 0) b dX12_packs_22 (by decide) ?_
  refine z_lor (v := 24576) b dX12_packs_23 (by decide) ?_
  refine z_lstore_n (lv' := [(1, .long 24576), (3, .int 1), (4, .int 2), (0, .ref (a 0))]) b dX12_packs_24 rfl (by decide) rfl ?_
  refine z_lload_n b dX12_packs_25 rfl rfl ?_
  refine z_iconst (v := 2) b dX12_packs_26 (by decide) ?_
  refine z_lshl (v := 98304) b dX12_packs_27 (by decide) ?_
  refine z_aload_n b dX12_packs_28 rfl rfl ?_
  refine z_get (q0 := 0) (k9 := 2) (v := .ref (a 3)) b (mw_0 cy a S) rfl in_X12 (by decide) wf_X12_20 rfl dX12_packs_29 ?_
  refine z_iload_n b dX12_packs_32 rfl rfl ?_
  refine y_iald (q0 := 3) (j := 1) (v := (ar S 2 1)) b (mw_3 cy a S) (by decide) rfl dX12_packs_33 ?_
  refine z_eqi h_a_2_1 ?_
  refine z_i2l (v := 3) b dX12_packs_34 (by decide) ?_
  refine z_lor (v := 98307) b dX12_packs_35 (by decide) ?_
  refine z_lstore_n (lv' := [(1, .long 98307), (3, .int 1), (4, .int 2), (0, .ref (a 0))]) b dX12_packs_36 rfl (by decide) rfl ?_
  refine z_lload_n b dX12_packs_37 rfl rfl ?_
  refine z_iconst (v := 1) b dX12_packs_38 (by decide) ?_
  refine z_lshl (v := 196614) b dX12_packs_39 (by decide) ?_
  refine z_aload_n b dX12_packs_40 rfl rfl ?_
  refine z_get (q0 := 0) (k9 := 3) (v := .ref (a 4)) b (mw_0 cy a S) rfl in_X12 (by decide) wf_X12_23 rfl dX12_packs_41 ?_
  refine z_iconst (v := 3) b dX12_packs_44 (by decide) ?_
  refine z_iload_n b dX12_packs_45 rfl rfl ?_
  refine z_imul (v := 3) b dX12_packs_46 (by decide) ?_
  refine z_iload_n b dX12_packs_47 rfl rfl ?_
  refine z_iconst (v := 0) b dX12_packs_48 (by decide) ?_
  refine z_calli b (z_runS (As := [.int 1, .int 0]) (st := [.int 3, .ref (a 4), .long 196614]) b (c_X12_other_4 S ) cf_X12_other wm_X12_160 ws_X12_other dX12_packs_49 rfl (Nat.le_of_ble_eq_true rfl) ⟨by decide, by decide, by decide, by decide⟩) (fun r1214 u1215 h1213 => ?_)
  obtain ⟨rfl, rfl⟩ := h1213
  refine z_iadd (v := 5) b dX12_packs_52 (by decide) ?_
  refine y_zald (q0 := 4) (j := 5) (v := (ar S 3 5)) b (mw_4 cy a S) (by decide) rfl dX12_packs_53 ?_
  refine z_eqi h_a_3_5 ?_
  refine z_if_eq_t (tgt := 61) b dX12_packs_54 (by decide) (by decide) ?_
  refine z_lconst (v := 0) b dX12_packs_61 (by decide) ?_
  refine z_lor (v := 196614) b dX12_packs_62 (by decide) ?_
  refine z_lstore_n (lv' := [(1, .long 196614), (3, .int 1), (4, .int 2), (0, .ref (a 0))]) b dX12_packs_63 rfl (by decide) rfl ?_
  refine z_iconst (v := 0) b dX12_packs_64 (by decide) ?_
  refine z_istore (lv' := [(4, .int 0), (1, .long 196614), (3, .int 1), (0, .ref (a 0))]) b dX12_packs_65 (by decide) rfl ?_
  refine z_iload b dX12_packs_67 rfl ?_
  refine z_iconst (v := 2) b dX12_packs_69 (by decide) ?_
  refine z_icmp_ge_f (tgt := 128) b dX12_packs_70 (by decide) (by decide) ?_
  refine z_lload_n b dX12_packs_73 rfl rfl ?_
  refine z_iconst (v := 3) b dX12_packs_74 (by decide) ?_
  refine z_lshl (v := 1572912) b dX12_packs_75 (by decide) ?_
  refine z_aload_n b dX12_packs_76 rfl rfl ?_
  refine z_get (q0 := 0) (k9 := 1) (v := .ref (a 2)) b (mw_0 cy a S) rfl in_X12 (by decide) wf_X12_17 rfl dX12_packs_77 ?_
  refine z_iconst (v := 3) b dX12_packs_80 (by decide) ?_
  refine z_iload_n b dX12_packs_81 rfl rfl ?_
  refine z_imul (v := 3) b dX12_packs_82 (by decide) ?_
  refine z_iload_n b dX12_packs_83 rfl rfl ?_
  refine z_iload b dX12_packs_84 rfl ?_
  refine z_calli b (z_runS (As := [.int 1, .int 0]) (st := [.int 3, .ref (a 2), .long 1572912]) b (c_X12_other_4 S ) cf_X12_other wm_X12_160 ws_X12_other dX12_packs_86 rfl (Nat.le_of_ble_eq_true rfl) ⟨by decide, by decide, by decide, by decide⟩) (fun r1217 u1218 h1216 => ?_)
  obtain ⟨rfl, rfl⟩ := h1216
  refine z_iadd (v := 5) b dX12_packs_89 (by decide) ?_
  refine y_iald (q0 := 2) (j := 5) (v := (ar S 1 5)) b (mw_2 cy a S) (by decide) rfl dX12_packs_90 ?_
  refine z_eqi h_a_1_5 ?_
  refine z_i2l (v := 0) b dX12_packs_91 (by decide) ?_
  refine z_lor (v := 1572912) b dX12_packs_92 (by decide) ?_
  refine z_lstore_n (lv' := [(1, .long 1572912), (4, .int 0), (3, .int 1), (0, .ref (a 0))]) b dX12_packs_93 rfl (by decide) rfl ?_
  refine z_lload_n b dX12_packs_94 rfl rfl ?_
  refine z_iconst (v := 1) b dX12_packs_95 (by decide) ?_
  refine z_lshl (v := 3145824) b dX12_packs_96 (by decide) ?_
  refine z_aload_n b dX12_packs_97 rfl rfl ?_
  refine z_get (q0 := 0) (k9 := 4) (v := .ref (a 5)) b (mw_0 cy a S) rfl in_X12 (by decide) wf_X12_27 rfl dX12_packs_98 ?_
  refine z_iconst (v := 3) b dX12_packs_101 (by decide) ?_
  refine z_iload_n b dX12_packs_102 rfl rfl ?_
  refine z_imul (v := 3) b dX12_packs_103 (by decide) ?_
  refine z_iload_n b dX12_packs_104 rfl rfl ?_
  refine z_iload b dX12_packs_105 rfl ?_
  refine z_calli b (z_runS (As := [.int 1, .int 0]) (st := [.int 3, .ref (a 5), .long 3145824]) b (c_X12_other_4 S ) cf_X12_other wm_X12_160 ws_X12_other dX12_packs_107 rfl (Nat.le_of_ble_eq_true rfl) ⟨by decide, by decide, by decide, by decide⟩) (fun r1220 u1221 h1219 => ?_)
  obtain ⟨rfl, rfl⟩ := h1219
  refine z_iadd (v := 5) b dX12_packs_110 (by decide) ?_
  refine y_zald (q0 := 5) (j := 5) (v := (ar S 4 5)) b (mw_5 cy a S) (by decide) rfl dX12_packs_111 ?_
  refine z_eqi h_a_4_5 ?_
  refine z_if_eq_t (tgt := 119) b dX12_packs_112 (by decide) (by decide) ?_
  refine z_lconst (v := 0) b dX12_packs_119 (by decide) ?_
  refine z_lor (v := 3145824) b dX12_packs_120 (by decide) ?_
  refine z_lstore_n (lv' := [(1, .long 3145824), (4, .int 0), (3, .int 1), (0, .ref (a 0))]) b dX12_packs_121 rfl (by decide) rfl ?_
  refine z_iinc (k9 := 1) (v := 1) (lv' := [(4, .int 1), (1, .long 3145824), (3, .int 1), (0, .ref (a 0))]) b dX12_packs_122 rfl (by decide) (by decide) rfl ?_
  refine z_goto (tgt := 67) b dX12_packs_125 (by decide) ?_
  refine z_iload b dX12_packs_67 rfl ?_
  refine z_iconst (v := 2) b dX12_packs_69 (by decide) ?_
  refine z_icmp_ge_f (tgt := 128) b dX12_packs_70 (by decide) (by decide) ?_
  refine z_lload_n b dX12_packs_73 rfl rfl ?_
  refine z_iconst (v := 3) b dX12_packs_74 (by decide) ?_
  refine z_lshl (v := 25166592) b dX12_packs_75 (by decide) ?_
  refine z_aload_n b dX12_packs_76 rfl rfl ?_
  refine z_get (q0 := 0) (k9 := 1) (v := .ref (a 2)) b (mw_0 cy a S) rfl in_X12 (by decide) wf_X12_17 rfl dX12_packs_77 ?_
  refine z_iconst (v := 3) b dX12_packs_80 (by decide) ?_
  refine z_iload_n b dX12_packs_81 rfl rfl ?_
  refine z_imul (v := 3) b dX12_packs_82 (by decide) ?_
  refine z_iload_n b dX12_packs_83 rfl rfl ?_
  refine z_iload b dX12_packs_84 rfl ?_
  refine z_calli b (z_runS (As := [.int 1, .int 1]) (st := [.int 3, .ref (a 2), .long 25166592]) b (c_X12_other_3 S ) cf_X12_other wm_X12_160 ws_X12_other dX12_packs_86 rfl (Nat.le_of_ble_eq_true rfl) ⟨by decide, by decide, by decide, by decide⟩) (fun r1223 u1224 h1222 => ?_)
  obtain ⟨rfl, rfl⟩ := h1222
  refine z_iadd (v := 3) b dX12_packs_89 (by decide) ?_
  refine y_iald (q0 := 2) (j := 3) (v := (ar S 1 3)) b (mw_2 cy a S) (by decide) rfl dX12_packs_90 ?_
  refine z_i2l b dX12_packs_91 rfl ?_
  refine z_lor b dX12_packs_92 rfl ?_
  refine z_lstore_n (lv' := [(1, .long (25166592 ||| ((ar S 1 3) : Int32).toInt64)), (4, .int 1), (3, .int 1), (0, .ref (a 0))]) b dX12_packs_93 rfl (by decide) rfl ?_
  refine z_lload_n b dX12_packs_94 rfl rfl ?_
  refine z_iconst (v := 1) b dX12_packs_95 (by decide) ?_
  refine z_lshl b dX12_packs_96 rfl ?_
  refine z_aload_n b dX12_packs_97 rfl rfl ?_
  refine z_get (q0 := 0) (k9 := 4) (v := .ref (a 5)) b (mw_0 cy a S) rfl in_X12 (by decide) wf_X12_27 rfl dX12_packs_98 ?_
  refine z_iconst (v := 3) b dX12_packs_101 (by decide) ?_
  refine z_iload_n b dX12_packs_102 rfl rfl ?_
  refine z_imul (v := 3) b dX12_packs_103 (by decide) ?_
  refine z_iload_n b dX12_packs_104 rfl rfl ?_
  refine z_iload b dX12_packs_105 rfl ?_
  refine z_calli b (z_runS (As := [.int 1, .int 1]) (st := [.int 3, .ref (a 5), .long ((25166592 ||| ((ar S 1 3) : Int32).toInt64) <<< ((1 : Int32).toInt64 &&& 63))]) b (c_X12_other_3 S ) cf_X12_other wm_X12_160 ws_X12_other dX12_packs_107 rfl (Nat.le_of_ble_eq_true rfl) ⟨by decide, by decide, by decide, by decide⟩) (fun r1226 u1227 h1225 => ?_)
  obtain ⟨rfl, rfl⟩ := h1225
  refine z_iadd (v := 3) b dX12_packs_110 (by decide) ?_
  refine y_zald (q0 := 5) (j := 3) (v := (ar S 4 3)) b (mw_5 cy a S) (by decide) rfl dX12_packs_111 ?_
  refine z_eqi h_a_4_3 ?_
  refine z_if_eq_t (tgt := 119) b dX12_packs_112 (by decide) (by decide) ?_
  refine z_lconst (v := 0) b dX12_packs_119 (by decide) ?_
  refine z_lor b dX12_packs_120 rfl ?_
  refine z_lstore_n (lv' := [(1, .long (((25166592 ||| ((ar S 1 3) : Int32).toInt64) <<< ((1 : Int32).toInt64 &&& 63)) ||| 0)), (4, .int 1), (3, .int 1), (0, .ref (a 0))]) b dX12_packs_121 rfl (by decide) rfl ?_
  refine z_iinc (k9 := 1) (v := 2) (lv' := [(4, .int 2), (1, .long (((25166592 ||| ((ar S 1 3) : Int32).toInt64) <<< ((1 : Int32).toInt64 &&& 63)) ||| 0)), (3, .int 1), (0, .ref (a 0))]) b dX12_packs_122 rfl (by decide) (by decide) rfl ?_
  refine z_goto (tgt := 67) b dX12_packs_125 (by decide) ?_
  refine z_iload b dX12_packs_67 rfl ?_
  refine z_iconst (v := 2) b dX12_packs_69 (by decide) ?_
  refine z_icmp_ge_t (tgt := 128) b dX12_packs_70 (by decide) (by decide) ?_
  refine z_iinc (k9 := 2) (v := 2) (lv' := [(3, .int 2), (4, .int 2), (1, .long (((25166592 ||| ((ar S 1 3) : Int32).toInt64) <<< ((1 : Int32).toInt64 &&& 63)) ||| 0)), (0, .ref (a 0))]) b dX12_packs_128 rfl (by decide) (by decide) rfl ?_
  refine z_goto (tgt := 8) b dX12_packs_131 (by decide) ?_
  refine z_iload_n b dX12_packs_8 rfl rfl ?_
  refine z_iconst (v := 3) b dX12_packs_9 (by decide) ?_
  refine z_icmp_ge_f (tgt := 134) b dX12_packs_10 (by decide) (by decide) ?_
  refine z_lload_n b dX12_packs_13 rfl rfl ?_
  refine z_iconst (v := 4) b dX12_packs_14 (by decide) ?_
  refine z_lshl b dX12_packs_15 rfl ?_
  refine z_aload_n b dX12_packs_16 rfl rfl ?_
  refine z_get (q0 := 0) (k9 := 0) (v := .ref (a 1)) b (mw_0 cy a S) rfl in_X12 (by decide) wf_X12_13 rfl dX12_packs_17 ?_
  refine z_iload_n b dX12_packs_20 rfl rfl ?_
  refine y_iald (q0 := 1) (j := 2) (v := (ar S 0 2)) b (mw_1 cy a S) (by decide) rfl dX12_packs_21 ?_
  refine z_eqi h_a_0_2 ?_
  refine z_i2l (v := 0) b dX12_packs_22 (by decide) ?_
  refine z_lor b dX12_packs_23 rfl ?_
  refine z_lstore_n (lv' := [(1, .long (((((25166592 ||| ((ar S 1 3) : Int32).toInt64) <<< ((1 : Int32).toInt64 &&& 63)) ||| 0) <<< ((4 : Int32).toInt64 &&& 63)) ||| 0)), (3, .int 2), (4, .int 2), (0, .ref (a 0))]) b dX12_packs_24 rfl (by decide) rfl ?_
  refine z_lload_n b dX12_packs_25 rfl rfl ?_
  refine z_iconst (v := 2) b dX12_packs_26 (by decide) ?_
  refine z_lshl b dX12_packs_27 rfl ?_
  refine z_aload_n b dX12_packs_28 rfl rfl ?_
  refine z_get (q0 := 0) (k9 := 2) (v := .ref (a 3)) b (mw_0 cy a S) rfl in_X12 (by decide) wf_X12_20 rfl dX12_packs_29 ?_
  refine z_iload_n b dX12_packs_32 rfl rfl ?_
  refine y_iald (q0 := 3) (j := 2) (v := (ar S 2 2)) b (mw_3 cy a S) (by decide) rfl dX12_packs_33 ?_
  refine z_eqi h_a_2_2 ?_
  refine z_i2l (v := 3) b dX12_packs_34 (by decide) ?_
  refine z_lor b dX12_packs_35 rfl ?_
  refine z_lstore_n (lv' := [(1, .long (((((((25166592 ||| ((ar S 1 3) : Int32).toInt64) <<< ((1 : Int32).toInt64 &&& 63)) ||| 0) <<< ((4 : Int32).toInt64 &&& 63)) ||| 0) <<< ((2 : Int32).toInt64 &&& 63)) ||| 3)), (3, .int 2), (4, .int 2), (0, .ref (a 0))]) b dX12_packs_36 rfl (by decide) rfl ?_
  refine z_lload_n b dX12_packs_37 rfl rfl ?_
  exact k

set_option maxHeartbeats 4000000 in
set_option maxRecDepth 100000 in
theorem c_X12_packs_10 {l : Launch} {D : va_G} {cy : Nat → ClassId} {T0 tB tE : Nat} {a : Nat → Nat} (S : GS)  (h_i_0 : fi S 0 = 0) (h_a_0_0 : ar S 0 0 = 0) (h_a_2_0 : ar S 2 0 = 3) (h_a_3_1 : ar S 3 1 = 0) (h_a_1_1 : ar S 1 1 = 0) (h_a_4_1 : ar S 4 1 = 0) (h_a_1_2 : ar S 1 2 = 0) (h_a_4_2 : ar S 4 2 = 0) (h_a_0_1 : ar S 0 1 = 0) (h_a_2_1 : ar S 2 1 = 3) (h_a_3_5 : ar S 3 5 = 0) (h_a_1_5 : ar S 1 5 = 0) (h_a_4_5 : ar S 4 5 = 0) (h_a_4_3 : ar S 4 3 = 0) (h_a_0_2 : ar S 0 2 = 0) (h_a_2_2 : ar S 2 2 = 3) (h_a_3_6 : ar S 3 6 = 0) (h_a_1_6 : ar S 1 6 = 0) (h_a_4_6 : ar S 4 6 = 0) (h_a_1_7 : ar S 1 7 = 0) (h_a_4_7 : ar S 4 7 = 0) : Ct l D cy T0 tB tE yX12_packs cX12_packs 5 (some .long) 1 21 0 0 (mw cy a S) [.ref (a 0)] (QL D (U := GS) (fun r u => (((((((((((((((((25166592 ||| ((ar S 1 3) : Int32).toInt64) <<< ((1 : Int32).toInt64 &&& 63)) ||| 0) <<< ((4 : Int32).toInt64 &&& 63)) ||| 0) <<< ((2 : Int32).toInt64 &&& 63)) ||| 3) <<< ((1 : Int32).toInt64 &&& 63)) ||| 0) <<< ((3 : Int32).toInt64 &&& 63)) ||| 0) <<< ((1 : Int32).toInt64 &&& 63)) ||| 0) <<< ((3 : Int32).toInt64 &&& 63)) ||| 0) <<< ((1 : Int32).toInt64 &&& 63)) ||| 0) = r ∧ S = u) (mw cy a)) := by
  refine Ct.ofZ RX12 "packs" [(0, .ref (a 0))] rfl rfl rfl rfl (Nat.le_of_ble_eq_true rfl) ?_
  intro p e R s m args below meth c A b
  refine ch_X12_packs_22 S  h_a_0_0 h_a_1_1 h_a_1_2 h_a_2_0 h_a_3_1 h_a_4_1 h_a_4_2 h_i_0  b ?_
  refine ch_X12_packs_23 S  h_a_0_1 h_a_0_2 h_a_1_5 h_a_2_1 h_a_2_2 h_a_3_5 h_a_4_3 h_a_4_5  b ?_
  refine z_iconst (v := 1) b dX12_packs_38 (by decide) ?_
  refine z_lshl b dX12_packs_39 rfl ?_
  refine z_aload_n b dX12_packs_40 rfl rfl ?_
  refine z_get (q0 := 0) (k9 := 3) (v := .ref (a 4)) b (mw_0 cy a S) rfl in_X12 (by decide) wf_X12_23 rfl dX12_packs_41 ?_
  refine z_iconst (v := 3) b dX12_packs_44 (by decide) ?_
  refine z_iload_n b dX12_packs_45 rfl rfl ?_
  refine z_imul (v := 6) b dX12_packs_46 (by decide) ?_
  refine z_iload_n b dX12_packs_47 rfl rfl ?_
  refine z_iconst (v := 0) b dX12_packs_48 (by decide) ?_
  refine z_calli b (z_runS (As := [.int 2, .int 0]) (st := [.int 6, .ref (a 4), .long ((((((((25166592 ||| ((ar S 1 3) : Int32).toInt64) <<< ((1 : Int32).toInt64 &&& 63)) ||| 0) <<< ((4 : Int32).toInt64 &&& 63)) ||| 0) <<< ((2 : Int32).toInt64 &&& 63)) ||| 3) <<< ((1 : Int32).toInt64 &&& 63))]) b (c_X12_other_2 S ) cf_X12_other wm_X12_160 ws_X12_other dX12_packs_49 rfl (Nat.le_of_ble_eq_true rfl) ⟨by decide, by decide, by decide, by decide⟩) (fun r1229 u1230 h1228 => ?_)
  obtain ⟨rfl, rfl⟩ := h1228
  refine z_iadd (v := 6) b dX12_packs_52 (by decide) ?_
  refine y_zald (q0 := 4) (j := 6) (v := (ar S 3 6)) b (mw_4 cy a S) (by decide) rfl dX12_packs_53 ?_
  refine z_eqi h_a_3_6 ?_
  refine z_if_eq_t (tgt := 61) b dX12_packs_54 (by decide) (by decide) ?_
  refine z_lconst (v := 0) b dX12_packs_61 (by decide) ?_
  refine z_lor b dX12_packs_62 rfl ?_
  refine z_lstore_n (lv' := [(1, .long (((((((((25166592 ||| ((ar S 1 3) : Int32).toInt64) <<< ((1 : Int32).toInt64 &&& 63)) ||| 0) <<< ((4 : Int32).toInt64 &&& 63)) ||| 0) <<< ((2 : Int32).toInt64 &&& 63)) ||| 3) <<< ((1 : Int32).toInt64 &&& 63)) ||| 0)), (3, .int 2), (4, .int 2), (0, .ref (a 0))]) b dX12_packs_63 rfl (by decide) rfl ?_
  refine z_iconst (v := 0) b dX12_packs_64 (by decide) ?_
  refine z_istore (lv' := [(4, .int 0), (1, .long (((((((((25166592 ||| ((ar S 1 3) : Int32).toInt64) <<< ((1 : Int32).toInt64 &&& 63)) ||| 0) <<< ((4 : Int32).toInt64 &&& 63)) ||| 0) <<< ((2 : Int32).toInt64 &&& 63)) ||| 3) <<< ((1 : Int32).toInt64 &&& 63)) ||| 0)), (3, .int 2), (0, .ref (a 0))]) b dX12_packs_65 (by decide) rfl ?_
  refine z_iload b dX12_packs_67 rfl ?_
  refine z_iconst (v := 2) b dX12_packs_69 (by decide) ?_
  refine z_icmp_ge_f (tgt := 128) b dX12_packs_70 (by decide) (by decide) ?_
  refine z_lload_n b dX12_packs_73 rfl rfl ?_
  refine z_iconst (v := 3) b dX12_packs_74 (by decide) ?_
  refine z_lshl b dX12_packs_75 rfl ?_
  refine z_aload_n b dX12_packs_76 rfl rfl ?_
  refine z_get (q0 := 0) (k9 := 1) (v := .ref (a 2)) b (mw_0 cy a S) rfl in_X12 (by decide) wf_X12_17 rfl dX12_packs_77 ?_
  refine z_iconst (v := 3) b dX12_packs_80 (by decide) ?_
  refine z_iload_n b dX12_packs_81 rfl rfl ?_
  refine z_imul (v := 6) b dX12_packs_82 (by decide) ?_
  refine z_iload_n b dX12_packs_83 rfl rfl ?_
  refine z_iload b dX12_packs_84 rfl ?_
  refine z_calli b (z_runS (As := [.int 2, .int 0]) (st := [.int 6, .ref (a 2), .long ((((((((((25166592 ||| ((ar S 1 3) : Int32).toInt64) <<< ((1 : Int32).toInt64 &&& 63)) ||| 0) <<< ((4 : Int32).toInt64 &&& 63)) ||| 0) <<< ((2 : Int32).toInt64 &&& 63)) ||| 3) <<< ((1 : Int32).toInt64 &&& 63)) ||| 0) <<< ((3 : Int32).toInt64 &&& 63))]) b (c_X12_other_2 S ) cf_X12_other wm_X12_160 ws_X12_other dX12_packs_86 rfl (Nat.le_of_ble_eq_true rfl) ⟨by decide, by decide, by decide, by decide⟩) (fun r1232 u1233 h1231 => ?_)
  obtain ⟨rfl, rfl⟩ := h1231
  refine z_iadd (v := 6) b dX12_packs_89 (by decide) ?_
  refine y_iald (q0 := 2) (j := 6) (v := (ar S 1 6)) b (mw_2 cy a S) (by decide) rfl dX12_packs_90 ?_
  refine z_eqi h_a_1_6 ?_
  refine z_i2l (v := 0) b dX12_packs_91 (by decide) ?_
  refine z_lor b dX12_packs_92 rfl ?_
  refine z_lstore_n (lv' := [(1, .long (((((((((((25166592 ||| ((ar S 1 3) : Int32).toInt64) <<< ((1 : Int32).toInt64 &&& 63)) ||| 0) <<< ((4 : Int32).toInt64 &&& 63)) ||| 0) <<< ((2 : Int32).toInt64 &&& 63)) ||| 3) <<< ((1 : Int32).toInt64 &&& 63)) ||| 0) <<< ((3 : Int32).toInt64 &&& 63)) ||| 0)), (4, .int 0), (3, .int 2), (0, .ref (a 0))]) b dX12_packs_93 rfl (by decide) rfl ?_
  refine z_lload_n b dX12_packs_94 rfl rfl ?_
  refine z_iconst (v := 1) b dX12_packs_95 (by decide) ?_
  refine z_lshl b dX12_packs_96 rfl ?_
  refine z_aload_n b dX12_packs_97 rfl rfl ?_
  refine z_get (q0 := 0) (k9 := 4) (v := .ref (a 5)) b (mw_0 cy a S) rfl in_X12 (by decide) wf_X12_27 rfl dX12_packs_98 ?_
  refine z_iconst (v := 3) b dX12_packs_101 (by decide) ?_
  refine z_iload_n b dX12_packs_102 rfl rfl ?_
  refine z_imul (v := 6) b dX12_packs_103 (by decide) ?_
  refine z_iload_n b dX12_packs_104 rfl rfl ?_
  refine z_iload b dX12_packs_105 rfl ?_
  refine z_calli b (z_runS (As := [.int 2, .int 0]) (st := [.int 6, .ref (a 5), .long ((((((((((((25166592 ||| ((ar S 1 3) : Int32).toInt64) <<< ((1 : Int32).toInt64 &&& 63)) ||| 0) <<< ((4 : Int32).toInt64 &&& 63)) ||| 0) <<< ((2 : Int32).toInt64 &&& 63)) ||| 3) <<< ((1 : Int32).toInt64 &&& 63)) ||| 0) <<< ((3 : Int32).toInt64 &&& 63)) ||| 0) <<< ((1 : Int32).toInt64 &&& 63))]) b (c_X12_other_2 S ) cf_X12_other wm_X12_160 ws_X12_other dX12_packs_107 rfl (Nat.le_of_ble_eq_true rfl) ⟨by decide, by decide, by decide, by decide⟩) (fun r1235 u1236 h1234 => ?_)
  obtain ⟨rfl, rfl⟩ := h1234
  refine z_iadd (v := 6) b dX12_packs_110 (by decide) ?_
  refine y_zald (q0 := 5) (j := 6) (v := (ar S 4 6)) b (mw_5 cy a S) (by decide) rfl dX12_packs_111 ?_
  refine z_eqi h_a_4_6 ?_
  refine z_if_eq_t (tgt := 119) b dX12_packs_112 (by decide) (by decide) ?_
  refine z_lconst (v := 0) b dX12_packs_119 (by decide) ?_
  refine z_lor b dX12_packs_120 rfl ?_
  refine z_lstore_n (lv' := [(1, .long (((((((((((((25166592 ||| ((ar S 1 3) : Int32).toInt64) <<< ((1 : Int32).toInt64 &&& 63)) ||| 0) <<< ((4 : Int32).toInt64 &&& 63)) ||| 0) <<< ((2 : Int32).toInt64 &&& 63)) ||| 3) <<< ((1 : Int32).toInt64 &&& 63)) ||| 0) <<< ((3 : Int32).toInt64 &&& 63)) ||| 0) <<< ((1 : Int32).toInt64 &&& 63)) ||| 0)), (4, .int 0), (3, .int 2), (0, .ref (a 0))]) b dX12_packs_121 rfl (by decide) rfl ?_
  refine z_iinc (k9 := 1) (v := 1) (lv' := [(4, .int 1), (1, .long (((((((((((((25166592 ||| ((ar S 1 3) : Int32).toInt64) <<< ((1 : Int32).toInt64 &&& 63)) ||| 0) <<< ((4 : Int32).toInt64 &&& 63)) ||| 0) <<< ((2 : Int32).toInt64 &&& 63)) ||| 3) <<< ((1 : Int32).toInt64 &&& 63)) ||| 0) <<< ((3 : Int32).toInt64 &&& 63)) ||| 0) <<< ((1 : Int32).toInt64 &&& 63)) ||| 0)), (3, .int 2), (0, .ref (a 0))]) b dX12_packs_122 rfl (by decide) (by decide) rfl ?_
  refine z_goto (tgt := 67) b dX12_packs_125 (by decide) ?_
  refine z_iload b dX12_packs_67 rfl ?_
  refine z_iconst (v := 2) b dX12_packs_69 (by decide) ?_
  refine z_icmp_ge_f (tgt := 128) b dX12_packs_70 (by decide) (by decide) ?_
  refine z_lload_n b dX12_packs_73 rfl rfl ?_
  refine z_iconst (v := 3) b dX12_packs_74 (by decide) ?_
  refine z_lshl b dX12_packs_75 rfl ?_
  refine z_aload_n b dX12_packs_76 rfl rfl ?_
  refine z_get (q0 := 0) (k9 := 1) (v := .ref (a 2)) b (mw_0 cy a S) rfl in_X12 (by decide) wf_X12_17 rfl dX12_packs_77 ?_
  refine z_iconst (v := 3) b dX12_packs_80 (by decide) ?_
  refine z_iload_n b dX12_packs_81 rfl rfl ?_
  refine z_imul (v := 6) b dX12_packs_82 (by decide) ?_
  refine z_iload_n b dX12_packs_83 rfl rfl ?_
  refine z_iload b dX12_packs_84 rfl ?_
  refine z_calli b (z_runS (As := [.int 2, .int 1]) (st := [.int 6, .ref (a 2), .long ((((((((((((((25166592 ||| ((ar S 1 3) : Int32).toInt64) <<< ((1 : Int32).toInt64 &&& 63)) ||| 0) <<< ((4 : Int32).toInt64 &&& 63)) ||| 0) <<< ((2 : Int32).toInt64 &&& 63)) ||| 3) <<< ((1 : Int32).toInt64 &&& 63)) ||| 0) <<< ((3 : Int32).toInt64 &&& 63)) ||| 0) <<< ((1 : Int32).toInt64 &&& 63)) ||| 0) <<< ((3 : Int32).toInt64 &&& 63))]) b (c_X12_other S ) cf_X12_other wm_X12_160 ws_X12_other dX12_packs_86 rfl (Nat.le_of_ble_eq_true rfl) ⟨by decide, by decide, by decide, by decide⟩) (fun r1238 u1239 h1237 => ?_)
  obtain ⟨rfl, rfl⟩ := h1237
  refine z_iadd (v := 7) b dX12_packs_89 (by decide) ?_
  refine y_iald (q0 := 2) (j := 7) (v := (ar S 1 7)) b (mw_2 cy a S) (by decide) rfl dX12_packs_90 ?_
  refine z_eqi h_a_1_7 ?_
  refine z_i2l (v := 0) b dX12_packs_91 (by decide) ?_
  refine z_lor b dX12_packs_92 rfl ?_
  refine z_lstore_n (lv' := [(1, .long (((((((((((((((25166592 ||| ((ar S 1 3) : Int32).toInt64) <<< ((1 : Int32).toInt64 &&& 63)) ||| 0) <<< ((4 : Int32).toInt64 &&& 63)) ||| 0) <<< ((2 : Int32).toInt64 &&& 63)) ||| 3) <<< ((1 : Int32).toInt64 &&& 63)) ||| 0) <<< ((3 : Int32).toInt64 &&& 63)) ||| 0) <<< ((1 : Int32).toInt64 &&& 63)) ||| 0) <<< ((3 : Int32).toInt64 &&& 63)) ||| 0)), (4, .int 1), (3, .int 2), (0, .ref (a 0))]) b dX12_packs_93 rfl (by decide) rfl ?_
  refine z_lload_n b dX12_packs_94 rfl rfl ?_
  refine z_iconst (v := 1) b dX12_packs_95 (by decide) ?_
  refine z_lshl b dX12_packs_96 rfl ?_
  refine z_aload_n b dX12_packs_97 rfl rfl ?_
  refine z_get (q0 := 0) (k9 := 4) (v := .ref (a 5)) b (mw_0 cy a S) rfl in_X12 (by decide) wf_X12_27 rfl dX12_packs_98 ?_
  refine z_iconst (v := 3) b dX12_packs_101 (by decide) ?_
  refine z_iload_n b dX12_packs_102 rfl rfl ?_
  refine z_imul (v := 6) b dX12_packs_103 (by decide) ?_
  refine z_iload_n b dX12_packs_104 rfl rfl ?_
  refine z_iload b dX12_packs_105 rfl ?_
  refine z_calli b (z_runS (As := [.int 2, .int 1]) (st := [.int 6, .ref (a 5), .long ((((((((((((((((25166592 ||| ((ar S 1 3) : Int32).toInt64) <<< ((1 : Int32).toInt64 &&& 63)) ||| 0) <<< ((4 : Int32).toInt64 &&& 63)) ||| 0) <<< ((2 : Int32).toInt64 &&& 63)) ||| 3) <<< ((1 : Int32).toInt64 &&& 63)) ||| 0) <<< ((3 : Int32).toInt64 &&& 63)) ||| 0) <<< ((1 : Int32).toInt64 &&& 63)) ||| 0) <<< ((3 : Int32).toInt64 &&& 63)) ||| 0) <<< ((1 : Int32).toInt64 &&& 63))]) b (c_X12_other S ) cf_X12_other wm_X12_160 ws_X12_other dX12_packs_107 rfl (Nat.le_of_ble_eq_true rfl) ⟨by decide, by decide, by decide, by decide⟩) (fun r1241 u1242 h1240 => ?_)
  obtain ⟨rfl, rfl⟩ := h1240
  refine z_iadd (v := 7) b dX12_packs_110 (by decide) ?_
  refine y_zald (q0 := 5) (j := 7) (v := (ar S 4 7)) b (mw_5 cy a S) (by decide) rfl dX12_packs_111 ?_
  refine z_eqi h_a_4_7 ?_
  refine z_if_eq_t (tgt := 119) b dX12_packs_112 (by decide) (by decide) ?_
  refine z_lconst (v := 0) b dX12_packs_119 (by decide) ?_
  refine z_lor b dX12_packs_120 rfl ?_
  refine z_lstore_n (lv' := [(1, .long (((((((((((((((((25166592 ||| ((ar S 1 3) : Int32).toInt64) <<< ((1 : Int32).toInt64 &&& 63)) ||| 0) <<< ((4 : Int32).toInt64 &&& 63)) ||| 0) <<< ((2 : Int32).toInt64 &&& 63)) ||| 3) <<< ((1 : Int32).toInt64 &&& 63)) ||| 0) <<< ((3 : Int32).toInt64 &&& 63)) ||| 0) <<< ((1 : Int32).toInt64 &&& 63)) ||| 0) <<< ((3 : Int32).toInt64 &&& 63)) ||| 0) <<< ((1 : Int32).toInt64 &&& 63)) ||| 0)), (4, .int 1), (3, .int 2), (0, .ref (a 0))]) b dX12_packs_121 rfl (by decide) rfl ?_
  refine z_iinc (k9 := 1) (v := 2) (lv' := [(4, .int 2), (1, .long (((((((((((((((((25166592 ||| ((ar S 1 3) : Int32).toInt64) <<< ((1 : Int32).toInt64 &&& 63)) ||| 0) <<< ((4 : Int32).toInt64 &&& 63)) ||| 0) <<< ((2 : Int32).toInt64 &&& 63)) ||| 3) <<< ((1 : Int32).toInt64 &&& 63)) ||| 0) <<< ((3 : Int32).toInt64 &&& 63)) ||| 0) <<< ((1 : Int32).toInt64 &&& 63)) ||| 0) <<< ((3 : Int32).toInt64 &&& 63)) ||| 0) <<< ((1 : Int32).toInt64 &&& 63)) ||| 0)), (3, .int 2), (0, .ref (a 0))]) b dX12_packs_122 rfl (by decide) (by decide) rfl ?_
  refine z_goto (tgt := 67) b dX12_packs_125 (by decide) ?_
  refine z_iload b dX12_packs_67 rfl ?_
  refine z_iconst (v := 2) b dX12_packs_69 (by decide) ?_
  refine z_icmp_ge_t (tgt := 128) b dX12_packs_70 (by decide) (by decide) ?_
  refine z_iinc (k9 := 2) (v := 3) (lv' := [(3, .int 3), (4, .int 2), (1, .long (((((((((((((((((25166592 ||| ((ar S 1 3) : Int32).toInt64) <<< ((1 : Int32).toInt64 &&& 63)) ||| 0) <<< ((4 : Int32).toInt64 &&& 63)) ||| 0) <<< ((2 : Int32).toInt64 &&& 63)) ||| 3) <<< ((1 : Int32).toInt64 &&& 63)) ||| 0) <<< ((3 : Int32).toInt64 &&& 63)) ||| 0) <<< ((1 : Int32).toInt64 &&& 63)) ||| 0) <<< ((3 : Int32).toInt64 &&& 63)) ||| 0) <<< ((1 : Int32).toInt64 &&& 63)) ||| 0)), (0, .ref (a 0))]) b dX12_packs_128 rfl (by decide) (by decide) rfl ?_
  refine z_goto (tgt := 8) b dX12_packs_131 (by decide) ?_
  refine z_iload_n b dX12_packs_8 rfl rfl ?_
  refine z_iconst (v := 3) b dX12_packs_9 (by decide) ?_
  refine z_icmp_ge_t (tgt := 134) b dX12_packs_10 (by decide) (by decide) ?_
  refine z_lload_n b dX12_packs_134 rfl rfl ?_
  exact z_lret (u := S) b rfl dX12_packs_135 ⟨rfl, rfl⟩ rfl (by decide) (by decide)

set_option maxHeartbeats 4000000 in
set_option maxRecDepth 100000 in
theorem c_X12_told_10 {l : Launch} {D : va_G} {cy : Nat → ClassId} {T0 tB tE : Nat} {a : Nat → Nat} (S : GS)  (h_i_0 : fi S 0 = 0) (h_a_0_0 : ar S 0 0 = 0) (h_a_2_0 : ar S 2 0 = 3) (h_a_3_1 : ar S 3 1 = 0) (h_a_1_1 : ar S 1 1 = 0) (h_a_4_1 : ar S 4 1 = 0) (h_a_1_2 : ar S 1 2 = 0) (h_a_4_2 : ar S 4 2 = 0) (h_a_0_1 : ar S 0 1 = 0) (h_a_2_1 : ar S 2 1 = 3) (h_a_3_5 : ar S 3 5 = 0) (h_a_1_5 : ar S 1 5 = 0) (h_a_4_5 : ar S 4 5 = 0) (h_a_4_3 : ar S 4 3 = 0) (h_a_0_2 : ar S 0 2 = 0) (h_a_2_2 : ar S 2 2 = 3) (h_a_3_6 : ar S 3 6 = 0) (h_a_1_6 : ar S 1 6 = 0) (h_a_4_6 : ar S 4 6 = 0) (h_a_1_7 : ar S 1 7 = 0) (h_a_4_7 : ar S 4 7 = 0) : Ct l D cy T0 tB tE yX12_told cX12_told 1 (some .boolean) 2 45 0 0 (mw cy a S) [.ref (a 0)] (QI D (U := GS) (fun r u => 1 = r ∧ sl S 0 (((((((((((((((((25166592 ||| ((ar S 1 3) : Int32).toInt64) <<< ((1 : Int32).toInt64 &&& 63)) ||| 0) <<< ((4 : Int32).toInt64 &&& 63)) ||| 0) <<< ((2 : Int32).toInt64 &&& 63)) ||| 3) <<< ((1 : Int32).toInt64 &&& 63)) ||| 0) <<< ((3 : Int32).toInt64 &&& 63)) ||| 0) <<< ((1 : Int32).toInt64 &&& 63)) ||| 0) <<< ((3 : Int32).toInt64 &&& 63)) ||| 0) <<< ((1 : Int32).toInt64 &&& 63)) ||| 0) = u) (mw cy a)) := by
  refine Ct.ofZ RX12 "told" [(0, .ref (a 0))] rfl rfl rfl rfl (Nat.le_of_ble_eq_true rfl) ?_
  intro p e R s m args below meth c A b
  refine z_aload_n b dX12_told_0 rfl rfl ?_
  refine z_aload_n b dX12_told_1 rfl rfl ?_
  refine z_calll b (z_runV (q0 := 0) (As := []) (st := [.ref (a 0)]) b (c_X12_packs_10 S h_i_0 h_a_0_0 h_a_2_0 h_a_3_1 h_a_1_1 h_a_4_1 h_a_1_2 h_a_4_2 h_a_0_1 h_a_2_1 h_a_3_5 h_a_1_5 h_a_4_5 h_a_4_3 h_a_0_2 h_a_2_2 h_a_3_6 h_a_1_6 h_a_4_6 h_a_1_7 h_a_4_7) cf_X12_packs (mw_0 cy a S) rfl wm_X12_149 wi_X12_packs ws_X12_packs dX12_told_2 rfl (Nat.le_of_ble_eq_true rfl) ⟨by decide, by decide, by decide, by decide⟩) (fun r1244 u1245 h1243 => ?_)
  obtain ⟨rfl, rfl⟩ := h1243
  refine z_put (q0 := 0) (k9 := 6) tyX12 b (mw_0 cy a S) rfl in_X12 tyX12_ok nmX12 (by decide) wf_X12_153 rfl rfl rfl rfl (Nat.le_of_ble_eq_true rfl) dX12_told_5 (mwp_0_6 cy a S (((((((((((((((((25166592 ||| ((ar S 1 3) : Int32).toInt64) <<< ((1 : Int32).toInt64 &&& 63)) ||| 0) <<< ((4 : Int32).toInt64 &&& 63)) ||| 0) <<< ((2 : Int32).toInt64 &&& 63)) ||| 3) <<< ((1 : Int32).toInt64 &&& 63)) ||| 0) <<< ((3 : Int32).toInt64 &&& 63)) ||| 0) <<< ((1 : Int32).toInt64 &&& 63)) ||| 0) <<< ((3 : Int32).toInt64 &&& 63)) ||| 0) <<< ((1 : Int32).toInt64 &&& 63)) ||| 0)) ?_
  refine z_iconst (v := 1) b dX12_told_8 (by decide) ?_
  exact z_zret (u := (sl S 0 (((((((((((((((((25166592 ||| ((ar S 1 3) : Int32).toInt64) <<< ((1 : Int32).toInt64 &&& 63)) ||| 0) <<< ((4 : Int32).toInt64 &&& 63)) ||| 0) <<< ((2 : Int32).toInt64 &&& 63)) ||| 3) <<< ((1 : Int32).toInt64 &&& 63)) ||| 0) <<< ((3 : Int32).toInt64 &&& 63)) ||| 0) <<< ((1 : Int32).toInt64 &&& 63)) ||| 0) <<< ((3 : Int32).toInt64 &&& 63)) ||| 0) <<< ((1 : Int32).toInt64 &&& 63)) ||| 0))) b rfl (by decide) dX12_told_9 ⟨rfl, rfl⟩ rfl (by decide) (by decide)

set_option maxHeartbeats 4000000 in
set_option maxRecDepth 100000 in
theorem c_X12_debt_19 {l : Launch} {D : va_G} {cy : Nat → ClassId} {T0 tB tE : Nat} {a : Nat → Nat} (S : GS) (p0 : Int32) (h_l_0 : fl S 0 = 1649317774848) (h_a_4_7 : ar S 4 7 = 0) (h_a_1_7 : ar S 1 7 = 0) (h_a_4_6 : ar S 4 6 = 0) (h_a_1_6 : ar S 1 6 = 0) (h_a_3_6 : ar S 3 6 = 0) (h_a_3_2 : ar S 3 2 = 0) (h_a_2_2 : ar S 2 2 = 3) (h_a_0_2 : ar S 0 2 = 0) (h_a_4_3 : ar S 4 3 = 0) (h_a_1_3 : ar S 1 3 = 0) (h_a_4_5 : ar S 4 5 = 0) (h_a_1_5 : ar S 1 5 = 0) (h_a_3_5 : ar S 3 5 = 0) (h_a_3_7 : ar S 3 7 = 0) (h_a_2_1 : ar S 2 1 = 3) (h_a_0_1 : ar S 0 1 = 0) (h_a_4_2 : ar S 4 2 = 0) (h_a_1_2 : ar S 1 2 = 0) (h_a_4_1 : ar S 4 1 = 0) (h_a_1_1 : ar S 1 1 = 0) (h_a_3_1 : ar S 3 1 = 0) (h_a_3_3 : ar S 3 3 = 0) (h_a_2_0 : ar S 2 0 = 3) (h_a_0_0 : ar S 0 0 = 0) (h_i_0 : fi S 0 = 0) (hr_p0 : 0 ≤ p0.toInt ∧ p0.toInt ≤ 7) : Ct l D cy T0 tB tE yX12_debt cX12_debt 4 (some .boolean) 3 65 0 0 (mw cy a S) [.ref (a 0), .int 1, .int 0, .int p0] (QI D (U := GS) (fun r u => 1 = r ∧ sl (su S 1 3 p0) 0 (((((((((((((((((25166592 ||| ((ar (su S 1 3 p0) 1 3) : Int32).toInt64) <<< ((1 : Int32).toInt64 &&& 63)) ||| 0) <<< ((4 : Int32).toInt64 &&& 63)) ||| 0) <<< ((2 : Int32).toInt64 &&& 63)) ||| 3) <<< ((1 : Int32).toInt64 &&& 63)) ||| 0) <<< ((3 : Int32).toInt64 &&& 63)) ||| 0) <<< ((1 : Int32).toInt64 &&& 63)) ||| 0) <<< ((3 : Int32).toInt64 &&& 63)) ||| 0) <<< ((1 : Int32).toInt64 &&& 63)) ||| 0) = u) (mw cy a)) := by
  refine Ct.ofZ RX12 "debt" [(0, .ref (a 0)), (1, .int 1), (2, .int 0), (3, .int p0)] rfl rfl rfl rfl (Nat.le_of_ble_eq_true rfl) ?_
  intro p e R s m args below meth c A b
  refine z_iload_n b dX12_debt_0 rfl rfl ?_
  refine z_calli b (z_runS (As := [.int 1]) (st := []) b (c_X12_isOne_4 S ) cf_X12_isOne wm_X12_170 ws_X12_isOne dX12_debt_1 rfl (Nat.le_of_ble_eq_true rfl) ⟨by decide, by decide, by decide, by decide⟩) (fun r1187 u1188 h1186 => ?_)
  obtain ⟨rfl, rfl⟩ := h1186
  refine z_if_eq_f (tgt := 29) b dX12_debt_4 (by decide) (by decide) ?_
  refine z_iload_n b dX12_debt_7 rfl rfl ?_
  refine z_calli b (z_runS (As := [.int 0]) (st := []) b (c_X12_isOne_3 S ) cf_X12_isOne wm_X12_170 ws_X12_isOne dX12_debt_8 rfl (Nat.le_of_ble_eq_true rfl) ⟨by decide, by decide, by decide, by decide⟩) (fun r1190 u1191 h1189 => ?_)
  obtain ⟨rfl, rfl⟩ := h1189
  refine z_if_eq_f (tgt := 29) b dX12_debt_11 (by decide) (by decide) ?_
  refine z_iload_n b dX12_debt_14 rfl rfl ?_
  refine z_iload_n b dX12_debt_15 rfl rfl ?_
  refine z_icmp_eq_f (tgt := 29) b dX12_debt_16 (by decide) (by decide) ?_
  refine z_iload_n b dX12_debt_19 rfl rfl ?_
  refine z_iconst (v := 0) b dX12_debt_20 (by decide) ?_
  refine z_bipush (v := 7) b dX12_debt_21 (by decide) ?_
  refine z_calli b (z_runS (As := [.int p0, .int 0, .int 7]) (st := []) b (c_X12_isIn_13 S p0 ⟨by omega, by omega⟩) cf_X12_isIn wm_X12_1 ws_X12_isIn dX12_debt_23 rfl (Nat.le_of_ble_eq_true rfl) ⟨by decide, by decide, by decide, by decide⟩) (fun r1193 u1194 h1192 => ?_)
  obtain ⟨rfl, rfl⟩ := h1192
  refine z_if_ne_t (tgt := 31) b dX12_debt_26 (by decide) (by decide) ?_
  refine z_aload_n b dX12_debt_31 rfl rfl ?_
  refine z_aload_n b dX12_debt_32 rfl rfl ?_
  refine z_get (q0 := 0) (k9 := 6) (v := .long (fl S 0)) b (mw_0 cy a S) rfl in_X12 (by decide) wf_X12_153 rfl dX12_debt_33 ?_
  refine z_eql h_l_0 ?_
  refine z_callv b (z_runV (q0 := 0) (As := [.long 1649317774848]) (st := []) b (c_X12_takes S h_a_4_7 h_a_1_7 h_a_4_6 h_a_1_6 h_a_3_6 h_a_3_2 h_a_2_2 h_a_0_2 h_a_4_3 h_a_1_3 h_a_4_5 h_a_1_5 h_a_3_5 h_a_3_7 h_a_2_1 h_a_0_1 h_a_4_2 h_a_1_2 h_a_4_1 h_a_1_1 h_a_3_1 h_a_3_3 h_a_2_0 h_a_0_0 h_i_0) cf_X12_takes (mw_0 cy a S) rfl wm_X12_174 wi_X12_takes ws_X12_takes dX12_debt_36 rfl (Nat.le_of_ble_eq_true rfl) ⟨by decide, by decide, by decide, by decide⟩) (fun u1197 h1195 => ?_)
  obtain rfl := h1195
  refine z_aload_n b dX12_debt_39 rfl rfl ?_
  refine z_get (q0 := 0) (k9 := 1) (v := .ref (a 2)) b (mw_0 cy a S) rfl in_X12 (by decide) wf_X12_17 rfl dX12_debt_40 ?_
  refine z_iconst (v := 3) b dX12_debt_43 (by decide) ?_
  refine z_iload_n b dX12_debt_44 rfl rfl ?_
  refine z_imul (v := 3) b dX12_debt_45 (by decide) ?_
  refine z_iload_n b dX12_debt_46 rfl rfl ?_
  refine z_iadd (v := 3) b dX12_debt_47 (by decide) ?_
  refine z_iload_n b dX12_debt_48 rfl rfl ?_
  refine y_iast (q0 := 2) (j := 3) b (mw_2 cy a S) (by decide) dX12_debt_49 (mwa_2 cy a S 3 p0) ?_
  refine z_aload_n b dX12_debt_50 rfl rfl ?_
  refine z_calli b (z_runV (q0 := 0) (As := []) (st := []) b (c_X12_told_10 (su S 1 3 p0) h_i_0 h_a_0_0 h_a_2_0 h_a_3_1 h_a_1_1 h_a_4_1 h_a_1_2 h_a_4_2 h_a_0_1 h_a_2_1 h_a_3_5 h_a_1_5 h_a_4_5 h_a_4_3 h_a_0_2 h_a_2_2 h_a_3_6 h_a_1_6 h_a_4_6 h_a_1_7 h_a_4_7) cf_X12_told (mw_0 cy a (su S 1 3 p0)) rfl wm_X12_178 wi_X12_told ws_X12_told dX12_debt_51 rfl (Nat.le_of_ble_eq_true rfl) ⟨by decide, by decide, by decide, by decide⟩) (fun r1247 u1248 h1246 => ?_)
  obtain ⟨rfl, rfl⟩ := h1246
  exact z_zret (u := (sl (su S 1 3 p0) 0 (((((((((((((((((25166592 ||| ((ar (su S 1 3 p0) 1 3) : Int32).toInt64) <<< ((1 : Int32).toInt64 &&& 63)) ||| 0) <<< ((4 : Int32).toInt64 &&& 63)) ||| 0) <<< ((2 : Int32).toInt64 &&& 63)) ||| 3) <<< ((1 : Int32).toInt64 &&& 63)) ||| 0) <<< ((3 : Int32).toInt64 &&& 63)) ||| 0) <<< ((1 : Int32).toInt64 &&& 63)) ||| 0) <<< ((3 : Int32).toInt64 &&& 63)) ||| 0) <<< ((1 : Int32).toInt64 &&& 63)) ||| 0))) b rfl (by decide) dX12_debt_54 ⟨rfl, rfl⟩ rfl (by decide) (by decide)

set_option maxHeartbeats 4000000 in
set_option maxRecDepth 100000 in
theorem c_X11_debt_20 {l : Launch} {D : va_G} {cy : Nat → ClassId} {T0 tB tE : Nat} {a : Nat → Nat} {rw : Nat → Option Nat} (S : GS) (p0 : Int32)  (hr_p0 : 8 ≤ p0.toInt ∧ p0.toInt ≤ 2147483647) : Ct l D cy T0 tB tE yX11_debt cX11_debt 4 (some .boolean) 2 41 0 0 (cw cy tE a rw S) [.ref (a 0), .int 1, .int 0, .int p0] (QI D (U := GS) (fun r u => 0 = r ∧ S = u) (cw cy tE a rw)) := by
  refine Ct.ofZ RX11 "debt" [(0, .ref (a 0)), (1, .int 1), (2, .int 0), (3, .int p0)] rfl rfl rfl rfl (Nat.le_of_ble_eq_true rfl) ?_
  intro p e R s m args below meth c A b
  refine z_iload_n b dX11_debt_0 rfl rfl ?_
  refine z_iload_n b dX11_debt_1 rfl rfl ?_
  refine z_calli b (z_runS (As := [.int 1, .int 0]) (st := []) b (c_X11_arePair_14 S ) cf_X11_arePair wm_X11_84 ws_X11_arePair dX11_debt_2 rfl (Nat.le_of_ble_eq_true rfl) ⟨by decide, by decide, by decide, by decide⟩) (fun r1250 u1251 h1249 => ?_)
  obtain ⟨rfl, rfl⟩ := h1249
  refine z_if_eq_f (tgt := 17) b dX11_debt_5 (by decide) (by decide) ?_
  refine z_iload_n b dX11_debt_8 rfl rfl ?_
  refine z_bipush (v := 7) b dX11_debt_9 (by decide) ?_
  refine z_calli b (z_runS (As := [.int p0, .int 7]) (st := []) b (c_X11_isWithin_9 S p0 ⟨by omega, by omega⟩) cf_X11_isWithin wm_X11_73 ws_X11_isWithin dX11_debt_11 rfl (Nat.le_of_ble_eq_true rfl) ⟨by decide, by decide, by decide, by decide⟩) (fun r1253 u1254 h1252 => ?_)
  obtain ⟨rfl, rfl⟩ := h1252
  refine z_if_ne_f (tgt := 19) b dX11_debt_14 (by decide) (by decide) ?_
  refine z_iconst (v := 0) b dX11_debt_17 (by decide) ?_
  exact z_zret (u := S) b rfl (by decide) dX11_debt_18 ⟨rfl, rfl⟩ rfl (by decide) (by decide)

set_option maxHeartbeats 4000000 in
set_option maxRecDepth 100000 in
theorem c_X12_debt_20 {l : Launch} {D : va_G} {cy : Nat → ClassId} {T0 tB tE : Nat} {a : Nat → Nat} (S : GS) (p0 : Int32)  (hr_p0 : 8 ≤ p0.toInt ∧ p0.toInt ≤ 2147483647) : Ct l D cy T0 tB tE yX12_debt cX12_debt 4 (some .boolean) 2 42 0 0 (mw cy a S) [.ref (a 0), .int 1, .int 0, .int p0] (QI D (U := GS) (fun r u => 0 = r ∧ S = u) (mw cy a)) := by
  refine Ct.ofZ RX12 "debt" [(0, .ref (a 0)), (1, .int 1), (2, .int 0), (3, .int p0)] rfl rfl rfl rfl (Nat.le_of_ble_eq_true rfl) ?_
  intro p e R s m args below meth c A b
  refine z_iload_n b dX12_debt_0 rfl rfl ?_
  refine z_calli b (z_runS (As := [.int 1]) (st := []) b (c_X12_isOne_4 S ) cf_X12_isOne wm_X12_170 ws_X12_isOne dX12_debt_1 rfl (Nat.le_of_ble_eq_true rfl) ⟨by decide, by decide, by decide, by decide⟩) (fun r1256 u1257 h1255 => ?_)
  obtain ⟨rfl, rfl⟩ := h1255
  refine z_if_eq_f (tgt := 29) b dX12_debt_4 (by decide) (by decide) ?_
  refine z_iload_n b dX12_debt_7 rfl rfl ?_
  refine z_calli b (z_runS (As := [.int 0]) (st := []) b (c_X12_isOne_3 S ) cf_X12_isOne wm_X12_170 ws_X12_isOne dX12_debt_8 rfl (Nat.le_of_ble_eq_true rfl) ⟨by decide, by decide, by decide, by decide⟩) (fun r1259 u1260 h1258 => ?_)
  obtain ⟨rfl, rfl⟩ := h1258
  refine z_if_eq_f (tgt := 29) b dX12_debt_11 (by decide) (by decide) ?_
  refine z_iload_n b dX12_debt_14 rfl rfl ?_
  refine z_iload_n b dX12_debt_15 rfl rfl ?_
  refine z_icmp_eq_f (tgt := 29) b dX12_debt_16 (by decide) (by decide) ?_
  refine z_iload_n b dX12_debt_19 rfl rfl ?_
  refine z_iconst (v := 0) b dX12_debt_20 (by decide) ?_
  refine z_bipush (v := 7) b dX12_debt_21 (by decide) ?_
  refine z_calli b (z_runS (As := [.int p0, .int 0, .int 7]) (st := []) b (c_X12_isIn_14 S p0 ⟨by omega, by omega⟩) cf_X12_isIn wm_X12_1 ws_X12_isIn dX12_debt_23 rfl (Nat.le_of_ble_eq_true rfl) ⟨by decide, by decide, by decide, by decide⟩) (fun r1262 u1263 h1261 => ?_)
  obtain ⟨rfl, rfl⟩ := h1261
  refine z_if_ne_f (tgt := 31) b dX12_debt_26 (by decide) (by decide) ?_
  refine z_iconst (v := 0) b dX12_debt_29 (by decide) ?_
  exact z_zret (u := S) b rfl (by decide) dX12_debt_30 ⟨rfl, rfl⟩ rfl (by decide) (by decide)

set_option maxHeartbeats 4000000 in
set_option maxRecDepth 100000 in
theorem c_X11_arePair_15 {l : Launch} {D : va_G} {cy : Nat → ClassId} {T0 tB tE : Nat} {a : Nat → Nat} {rw : Nat → Option Nat} (S : GS)   : Ct l D cy T0 tB tE yX11_arePair cX11_arePair 2 (some .boolean) 1 20 0 0 (cw cy tE a rw S) [.int 1, .int 2] (QI D (U := GS) (fun r u => 1 = r ∧ S = u) (cw cy tE a rw)) := by
  refine Ct.ofZ RX11 "arePair" [(0, .int 1), (1, .int 2)] rfl rfl rfl rfl (Nat.le_of_ble_eq_true rfl) ?_
  intro p e R s m args below meth c A b
  refine z_iload_n b dX11_arePair_0 rfl rfl ?_
  refine z_calli b (z_runS (As := [.int 1]) (st := []) b (c_X11_isPerson_4 S ) cf_X11_isPerson wm_X11_69 ws_X11_isPerson dX11_arePair_1 rfl (Nat.le_of_ble_eq_true rfl) ⟨by decide, by decide, by decide, by decide⟩) (fun r1265 u1266 h1264 => ?_)
  obtain ⟨rfl, rfl⟩ := h1264
  refine z_if_eq_f (tgt := 23) b dX11_arePair_4 (by decide) (by decide) ?_
  refine z_iload_n b dX11_arePair_7 rfl rfl ?_
  refine z_calli b (z_runS (As := [.int 2]) (st := []) b (c_X11_isPerson_5 S ) cf_X11_isPerson wm_X11_69 ws_X11_isPerson dX11_arePair_8 rfl (Nat.le_of_ble_eq_true rfl) ⟨by decide, by decide, by decide, by decide⟩) (fun r1268 u1269 h1267 => ?_)
  obtain ⟨rfl, rfl⟩ := h1267
  refine z_if_eq_f (tgt := 23) b dX11_arePair_11 (by decide) (by decide) ?_
  refine z_iload_n b dX11_arePair_14 rfl rfl ?_
  refine z_iload_n b dX11_arePair_15 rfl rfl ?_
  refine z_icmp_eq_f (tgt := 23) b dX11_arePair_16 (by decide) (by decide) ?_
  refine z_iconst (v := 1) b dX11_arePair_19 (by decide) ?_
  refine z_goto (tgt := 24) b dX11_arePair_20 (by decide) ?_
  exact z_zret (u := S) b rfl (by decide) dX11_arePair_24 ⟨rfl, rfl⟩ rfl (by decide) (by decide)

set_option maxHeartbeats 4000000 in
set_option maxRecDepth 100000 in
theorem c_X11_debt_21 {l : Launch} {D : va_G} {cy : Nat → ClassId} {T0 tB tE : Nat} {a : Nat → Nat} {rw : Nat → Option Nat} (S : GS) (p0 : Int32)  (hr_p0 : (-2147483648) ≤ p0.toInt ∧ p0.toInt ≤ (-1)) : Ct l D cy T0 tB tE yX11_debt cX11_debt 4 (some .boolean) 2 41 0 0 (cw cy tE a rw S) [.ref (a 0), .int 1, .int 2, .int p0] (QI D (U := GS) (fun r u => 0 = r ∧ S = u) (cw cy tE a rw)) := by
  refine Ct.ofZ RX11 "debt" [(0, .ref (a 0)), (1, .int 1), (2, .int 2), (3, .int p0)] rfl rfl rfl rfl (Nat.le_of_ble_eq_true rfl) ?_
  intro p e R s m args below meth c A b
  refine z_iload_n b dX11_debt_0 rfl rfl ?_
  refine z_iload_n b dX11_debt_1 rfl rfl ?_
  refine z_calli b (z_runS (As := [.int 1, .int 2]) (st := []) b (c_X11_arePair_15 S ) cf_X11_arePair wm_X11_84 ws_X11_arePair dX11_debt_2 rfl (Nat.le_of_ble_eq_true rfl) ⟨by decide, by decide, by decide, by decide⟩) (fun r1271 u1272 h1270 => ?_)
  obtain ⟨rfl, rfl⟩ := h1270
  refine z_if_eq_f (tgt := 17) b dX11_debt_5 (by decide) (by decide) ?_
  refine z_iload_n b dX11_debt_8 rfl rfl ?_
  refine z_bipush (v := 7) b dX11_debt_9 (by decide) ?_
  refine z_calli b (z_runS (As := [.int p0, .int 7]) (st := []) b (c_X11_isWithin_7 S p0 ⟨by omega, by omega⟩) cf_X11_isWithin wm_X11_73 ws_X11_isWithin dX11_debt_11 rfl (Nat.le_of_ble_eq_true rfl) ⟨by decide, by decide, by decide, by decide⟩) (fun r1274 u1275 h1273 => ?_)
  obtain ⟨rfl, rfl⟩ := h1273
  refine z_if_ne_f (tgt := 19) b dX11_debt_14 (by decide) (by decide) ?_
  refine z_iconst (v := 0) b dX11_debt_17 (by decide) ?_
  exact z_zret (u := S) b rfl (by decide) dX11_debt_18 ⟨rfl, rfl⟩ rfl (by decide) (by decide)

set_option maxHeartbeats 4000000 in
set_option maxRecDepth 100000 in
theorem c_X12_debt_21 {l : Launch} {D : va_G} {cy : Nat → ClassId} {T0 tB tE : Nat} {a : Nat → Nat} (S : GS) (p0 : Int32)  (hr_p0 : (-2147483648) ≤ p0.toInt ∧ p0.toInt ≤ (-1)) : Ct l D cy T0 tB tE yX12_debt cX12_debt 4 (some .boolean) 2 42 0 0 (mw cy a S) [.ref (a 0), .int 1, .int 2, .int p0] (QI D (U := GS) (fun r u => 0 = r ∧ S = u) (mw cy a)) := by
  refine Ct.ofZ RX12 "debt" [(0, .ref (a 0)), (1, .int 1), (2, .int 2), (3, .int p0)] rfl rfl rfl rfl (Nat.le_of_ble_eq_true rfl) ?_
  intro p e R s m args below meth c A b
  refine z_iload_n b dX12_debt_0 rfl rfl ?_
  refine z_calli b (z_runS (As := [.int 1]) (st := []) b (c_X12_isOne_4 S ) cf_X12_isOne wm_X12_170 ws_X12_isOne dX12_debt_1 rfl (Nat.le_of_ble_eq_true rfl) ⟨by decide, by decide, by decide, by decide⟩) (fun r1277 u1278 h1276 => ?_)
  obtain ⟨rfl, rfl⟩ := h1276
  refine z_if_eq_f (tgt := 29) b dX12_debt_4 (by decide) (by decide) ?_
  refine z_iload_n b dX12_debt_7 rfl rfl ?_
  refine z_calli b (z_runS (As := [.int 2]) (st := []) b (c_X12_isOne_5 S ) cf_X12_isOne wm_X12_170 ws_X12_isOne dX12_debt_8 rfl (Nat.le_of_ble_eq_true rfl) ⟨by decide, by decide, by decide, by decide⟩) (fun r1280 u1281 h1279 => ?_)
  obtain ⟨rfl, rfl⟩ := h1279
  refine z_if_eq_f (tgt := 29) b dX12_debt_11 (by decide) (by decide) ?_
  refine z_iload_n b dX12_debt_14 rfl rfl ?_
  refine z_iload_n b dX12_debt_15 rfl rfl ?_
  refine z_icmp_eq_f (tgt := 29) b dX12_debt_16 (by decide) (by decide) ?_
  refine z_iload_n b dX12_debt_19 rfl rfl ?_
  refine z_iconst (v := 0) b dX12_debt_20 (by decide) ?_
  refine z_bipush (v := 7) b dX12_debt_21 (by decide) ?_
  refine z_calli b (z_runS (As := [.int p0, .int 0, .int 7]) (st := []) b (c_X12_isIn_12 S p0 ⟨by omega, by omega⟩) cf_X12_isIn wm_X12_1 ws_X12_isIn dX12_debt_23 rfl (Nat.le_of_ble_eq_true rfl) ⟨by decide, by decide, by decide, by decide⟩) (fun r1283 u1284 h1282 => ?_)
  obtain ⟨rfl, rfl⟩ := h1282
  refine z_if_ne_f (tgt := 31) b dX12_debt_26 (by decide) (by decide) ?_
  refine z_iconst (v := 0) b dX12_debt_29 (by decide) ?_
  exact z_zret (u := S) b rfl (by decide) dX12_debt_30 ⟨rfl, rfl⟩ rfl (by decide) (by decide)

set_option maxHeartbeats 4000000 in
set_option maxRecDepth 100000 in
theorem c_X9_set_11 {l : Launch} {D : va_G} {cy : Nat → ClassId} {T0 tB tE : Nat} {a : Nat → Nat} {rw : Nat → Option Nat} (S : GS) (p0 : Int32)  (hr_p0 : 0 ≤ p0.toInt ∧ p0.toInt ≤ 7) : Ct l D cy T0 tB tE yX9_set cX9_set 3 none 0 0 0 0 (cw cy tE a rw S) [.ref (a 14), .int 15, .int p0] (QV D (U := GS) (fun u => su S 4 15 p0 = u) (cw cy tE a rw)) := by
  refine Ct.ofZ RX9 "set" [(0, .ref (a 14)), (1, .int 15), (2, .int p0)] rfl rfl rfl rfl (Nat.le_of_ble_eq_true rfl) ?_
  intro p e R s m args below meth c A b
  refine z_iload_n b dX9_set_0 rfl rfl ?_
  refine z_if_lt_f (tgt := 20) b dX9_set_1 (by decide) (by decide) ?_
  refine z_iload_n b dX9_set_4 rfl rfl ?_
  refine z_aload_n b dX9_set_5 rfl rfl ?_
  refine z_get (q0 := 14) (k9 := 0) (v := .ref (a 15)) b (cw_14 cy tE a rw S) rfl in_X9 (by decide) wf_X9_11 rfl dX9_set_6 ?_
  refine z_alen (q0 := 15) (t0 := 0) (v := 51) b (cw_15 cy tE a rw S) rfl rfl dX9_set_9 ?_
  refine z_icmp_ge_f (tgt := 20) b dX9_set_10 (by decide) (by decide) ?_
  refine z_aload_n b dX9_set_13 rfl rfl ?_
  refine z_get (q0 := 14) (k9 := 0) (v := .ref (a 15)) b (cw_14 cy tE a rw S) rfl in_X9 (by decide) wf_X9_11 rfl dX9_set_14 ?_
  refine z_iload_n b dX9_set_17 rfl rfl ?_
  refine z_iload_n b dX9_set_18 rfl rfl ?_
  refine y_iast (q0 := 15) (j := 15) b (cw_15 cy tE a rw S) (by decide) dX9_set_19 (cwa_15 cy tE a rw S 15 p0) ?_
  exact z_vret (u := (su S 4 15 p0)) b rfl dX9_set_20 rfl rfl (by decide) (by decide)

set_option maxHeartbeats 4000000 in
set_option maxRecDepth 100000 in
theorem c_X11_debt_22 {l : Launch} {D : va_G} {cy : Nat → ClassId} {T0 tB tE : Nat} {a : Nat → Nat} {rw : Nat → Option Nat} (S : GS) (p0 : Int32) (h_i_24 : fi S 24 = 0) (hr_p0 : 0 ≤ p0.toInt ∧ p0.toInt ≤ 7) : Ct l D cy T0 tB tE yX11_debt cX11_debt 4 (some .boolean) 2 41 0 0 (cw cy tE a rw S) [.ref (a 0), .int 1, .int 2, .int p0] (QI D (U := GS) (fun r u => 1 = r ∧ (su S 4 15 p0) = u) (cw cy tE a rw)) := by
  refine Ct.ofZ RX11 "debt" [(0, .ref (a 0)), (1, .int 1), (2, .int 2), (3, .int p0)] rfl rfl rfl rfl (Nat.le_of_ble_eq_true rfl) ?_
  intro p e R s m args below meth c A b
  refine z_iload_n b dX11_debt_0 rfl rfl ?_
  refine z_iload_n b dX11_debt_1 rfl rfl ?_
  refine z_calli b (z_runS (As := [.int 1, .int 2]) (st := []) b (c_X11_arePair_15 S ) cf_X11_arePair wm_X11_84 ws_X11_arePair dX11_debt_2 rfl (Nat.le_of_ble_eq_true rfl) ⟨by decide, by decide, by decide, by decide⟩) (fun r1286 u1287 h1285 => ?_)
  obtain ⟨rfl, rfl⟩ := h1285
  refine z_if_eq_f (tgt := 17) b dX11_debt_5 (by decide) (by decide) ?_
  refine z_iload_n b dX11_debt_8 rfl rfl ?_
  refine z_bipush (v := 7) b dX11_debt_9 (by decide) ?_
  refine z_calli b (z_runS (As := [.int p0, .int 7]) (st := []) b (c_X11_isWithin_8 S p0 ⟨by omega, by omega⟩) cf_X11_isWithin wm_X11_73 ws_X11_isWithin dX11_debt_11 rfl (Nat.le_of_ble_eq_true rfl) ⟨by decide, by decide, by decide, by decide⟩) (fun r1289 u1290 h1288 => ?_)
  obtain ⟨rfl, rfl⟩ := h1288
  refine z_if_ne_t (tgt := 19) b dX11_debt_14 (by decide) (by decide) ?_
  refine z_aload_n b dX11_debt_19 rfl rfl ?_
  refine z_get (q0 := 0) (k9 := 4) (v := .ref (a 14)) b (cw_0 cy tE a rw S) rfl in_X11 (by decide) wf_X11_34 rfl dX11_debt_20 ?_
  refine z_bipush (v := 10) b dX11_debt_23 (by decide) ?_
  refine z_iconst (v := 3) b dX11_debt_25 (by decide) ?_
  refine z_iload_n b dX11_debt_26 rfl rfl ?_
  refine z_imul (v := 3) b dX11_debt_27 (by decide) ?_
  refine z_iadd (v := 13) b dX11_debt_28 (by decide) ?_
  refine z_iload_n b dX11_debt_29 rfl rfl ?_
  refine z_iadd (v := 15) b dX11_debt_30 (by decide) ?_
  refine z_iload_n b dX11_debt_31 rfl rfl ?_
  refine z_callv b (z_runV (q0 := 14) (As := [.int 15, .int p0]) (st := []) b (c_X9_set_11 S p0 ⟨by omega, by omega⟩) cf_X9_set (cw_14 cy tE a rw S) rfl wm_X11_77 wi_X9_set ws_X9_set dX11_debt_32 rfl (Nat.le_of_ble_eq_true rfl) ⟨by decide, by decide, by decide, by decide⟩) (fun u1293 h1291 => ?_)
  obtain rfl := h1291
  refine z_aload_n b dX11_debt_35 rfl rfl ?_
  refine z_get (q0 := 0) (k9 := 6) (v := .ref (a 25)) b (cw_0 cy tE a rw (su S 4 15 p0)) rfl in_X11 (by decide) wf_X11_52 rfl dX11_debt_36 ?_
  refine z_callv b (z_runV (q0 := 25) (As := []) (st := []) b (c_X8_forget (su S 4 15 p0) h_i_24) cf_X8_forget (cw_25 cy tE a rw (su S 4 15 p0)) rfl wm_X11_81 wi_X8_forget ws_X8_forget dX11_debt_39 rfl (Nat.le_of_ble_eq_true rfl) ⟨by decide, by decide, by decide, by decide⟩) (fun u1296 h1294 => ?_)
  obtain rfl := h1294
  refine z_iconst (v := 1) b dX11_debt_42 (by decide) ?_
  exact z_zret (u := (su S 4 15 p0)) b rfl (by decide) dX11_debt_43 ⟨rfl, rfl⟩ rfl (by decide) (by decide)

set_option maxHeartbeats 4000000 in
set_option maxRecDepth 100000 in
theorem ch_X12_packs_24 {p : Program} {l : Launch} {e : Env} {R : Room} {s : State} {m : MethodId} {args : Array Value} {below : List Frame} {meth : Method} {c : Code} {D : va_G} {cy : Nat → ClassId} {T0 tB tE : Nat} {A : Nat → Prop} {Q : State → Prop} {a : Nat → Nat} (S : GS)  (h_a_0_0 : ar S 0 0 = 0) (h_a_1_1 : ar S 1 1 = 0) (h_a_1_2 : ar S 1 2 = 0) (h_a_2_0 : ar S 2 0 = 3) (h_a_3_1 : ar S 3 1 = 0) (h_a_4_1 : ar S 4 1 = 0) (h_a_4_2 : ar S 4 2 = 0) (h_i_0 : fi S 0 = 0) (b : Bz p R s m args meth c D cy T0 tB tE A 5 cX12_packs RX12 (some .long) "packs" 1 21 0 0) (k : Z p l e R s m args below meth c D A 5 Q 0 0 (mw cy a S) [(3, .int 1), (4, .int 2), (1, .long 1536), (0, .ref (a 0))] 21 [.int 1, .ref (a 1), .long 24576]) : Z p l e R s m args below meth c D A 5 Q 0 0 (mw cy a S) [(0, .ref (a 0))] 0 [] := by
  refine z_aload_n b dX12_packs_0 rfl rfl ?_
  refine z_get (q0 := 0) (k9 := 5) (v := .int (fi S 0)) b (mw_0 cy a S) rfl in_X12 (by decide) wf_X12_157 rfl dX12_packs_1 ?_
  refine z_eqi h_i_0 ?_
  refine z_i2l (v := 0) b dX12_packs_4 (by decide) ?_
  refine z_lstore_n (lv' := [(1, .long 0), (0, .ref (a 0))]) b dX12_packs_5 rfl (by decide) rfl ?_
  refine z_iconst (v := 0) b dX12_packs_6 (by decide) ?_
  refine z_istore_n (lv' := [(3, .int 0), (1, .long 0), (0, .ref (a 0))]) b dX12_packs_7 rfl (by decide) rfl ?_
  refine z_iload_n b dX12_packs_8 rfl rfl ?_
  refine z_iconst (v := 3) b dX12_packs_9 (by decide) ?_
  refine z_icmp_ge_f (tgt := 134) b dX12_packs_10 (by decide) (by decide) ?_
  refine z_lload_n b dX12_packs_13 rfl rfl ?_
  refine z_iconst (v := 4) b dX12_packs_14 (by decide) ?_
  refine z_lshl (v := 0) b dX12_packs_15 (by decide) ?_
  refine z_aload_n b dX12_packs_16 rfl rfl ?_
  refine z_get (q0 := 0) (k9 := 0) (v := .ref (a 1)) b (mw_0 cy a S) rfl in_X12 (by decide) wf_X12_13 rfl dX12_packs_17 ?_
  refine z_iload_n b dX12_packs_20 rfl rfl ?_
  refine y_iald (q0 := 1) (j := 0) (v := (ar S 0 0)) b (mw_1 cy a S) (by decide) rfl dX12_packs_21 ?_
  refine z_eqi h_a_0_0 ?_
  refine z_i2l (v := 0) b dX12_packs_22 (by decide) ?_
  refine z_lor (v := 0) b dX12_packs_23 (by decide) ?_
  refine z_lstore_n (lv' := [(1, .long 0), (3, .int 0), (0, .ref (a 0))]) b dX12_packs_24 rfl (by decide) rfl ?_
  refine z_lload_n b dX12_packs_25 rfl rfl ?_
  refine z_iconst (v := 2) b dX12_packs_26 (by decide) ?_
  refine z_lshl (v := 0) b dX12_packs_27 (by decide) ?_
  refine z_aload_n b dX12_packs_28 rfl rfl ?_
  refine z_get (q0 := 0) (k9 := 2) (v := .ref (a 3)) b (mw_0 cy a S) rfl in_X12 (by decide) wf_X12_20 rfl dX12_packs_29 ?_
  refine z_iload_n b dX12_packs_32 rfl rfl ?_
  refine y_iald (q0 := 3) (j := 0) (v := (ar S 2 0)) b (mw_3 cy a S) (by decide) rfl dX12_packs_33 ?_
  refine z_eqi h_a_2_0 ?_
  refine z_i2l (v := 3) b dX12_packs_34 (by decide) ?_
  refine z_lor (v := 3) b dX12_packs_35 (by decide) ?_
  refine z_lstore_n (lv' := [(1, .long 3), (3, .int 0), (0, .ref (a 0))]) b dX12_packs_36 rfl (by decide) rfl ?_
  refine z_lload_n b dX12_packs_37 rfl rfl ?_
  refine z_iconst (v := 1) b dX12_packs_38 (by decide) ?_
  refine z_lshl (v := 6) b dX12_packs_39 (by decide) ?_
  refine z_aload_n b dX12_packs_40 rfl rfl ?_
  refine z_get (q0 := 0) (k9 := 3) (v := .ref (a 4)) b (mw_0 cy a S) rfl in_X12 (by decide) wf_X12_23 rfl dX12_packs_41 ?_
  refine z_iconst (v := 3) b dX12_packs_44 (by decide) ?_
  refine z_iload_n b dX12_packs_45 rfl rfl ?_
  refine z_imul (v := 0) b dX12_packs_46 (by decide) ?_
  refine z_iload_n b dX12_packs_47 rfl rfl ?_
  refine z_iconst (v := 0) b dX12_packs_48 (by decide) ?_
  refine z_calli b (z_runS (As := [.int 0, .int 0]) (st := [.int 0, .ref (a 4), .long 6]) b (c_X12_other_6 S ) cf_X12_other wm_X12_160 ws_X12_other dX12_packs_49 rfl (Nat.le_of_ble_eq_true rfl) ⟨by decide, by decide, by decide, by decide⟩) (fun r1310 u1311 h1309 => ?_)
  obtain ⟨rfl, rfl⟩ := h1309
  refine z_iadd (v := 1) b dX12_packs_52 (by decide) ?_
  refine y_zald (q0 := 4) (j := 1) (v := (ar S 3 1)) b (mw_4 cy a S) (by decide) rfl dX12_packs_53 ?_
  refine z_eqi h_a_3_1 ?_
  refine z_if_eq_t (tgt := 61) b dX12_packs_54 (by decide) (by decide) ?_
  refine z_lconst (v := 0) b dX12_packs_61 (by decide) ?_
  refine z_lor (v := 6) b dX12_packs_62 (by decide) ?_
  refine z_lstore_n (lv' := [(1, .long 6), (3, .int 0), (0, .ref (a 0))]) b dX12_packs_63 rfl (by decide) rfl ?_
  refine z_iconst (v := 0) b dX12_packs_64 (by decide) ?_
  refine z_istore (lv' := [(4, .int 0), (1, .long 6), (3, .int 0), (0, .ref (a 0))]) b dX12_packs_65 (by decide) rfl ?_
  refine z_iload b dX12_packs_67 rfl ?_
  refine z_iconst (v := 2) b dX12_packs_69 (by decide) ?_
  refine z_icmp_ge_f (tgt := 128) b dX12_packs_70 (by decide) (by decide) ?_
  refine z_lload_n b dX12_packs_73 rfl rfl ?_
  refine z_iconst (v := 3) b dX12_packs_74 (by decide) ?_
  refine z_lshl (v := 48) b dX12_packs_75 (by decide) ?_
  refine z_aload_n b dX12_packs_76 rfl rfl ?_
  refine z_get (q0 := 0) (k9 := 1) (v := .ref (a 2)) b (mw_0 cy a S) rfl in_X12 (by decide) wf_X12_17 rfl dX12_packs_77 ?_
  refine z_iconst (v := 3) b dX12_packs_80 (by decide) ?_
  refine z_iload_n b dX12_packs_81 rfl rfl ?_
  refine z_imul (v := 0) b dX12_packs_82 (by decide) ?_
  refine z_iload_n b dX12_packs_83 rfl rfl ?_
  refine z_iload b dX12_packs_84 rfl ?_
  refine z_calli b (z_runS (As := [.int 0, .int 0]) (st := [.int 0, .ref (a 2), .long 48]) b (c_X12_other_6 S ) cf_X12_other wm_X12_160 ws_X12_other dX12_packs_86 rfl (Nat.le_of_ble_eq_true rfl) ⟨by decide, by decide, by decide, by decide⟩) (fun r1313 u1314 h1312 => ?_)
  obtain ⟨rfl, rfl⟩ := h1312
  refine z_iadd (v := 1) b dX12_packs_89 (by decide) ?_
  refine y_iald (q0 := 2) (j := 1) (v := (ar S 1 1)) b (mw_2 cy a S) (by decide) rfl dX12_packs_90 ?_
  refine z_eqi h_a_1_1 ?_
  refine z_i2l (v := 0) b dX12_packs_91 (by decide) ?_
  refine z_lor (v := 48) b dX12_packs_92 (by decide) ?_
  refine z_lstore_n (lv' := [(1, .long 48), (4, .int 0), (3, .int 0), (0, .ref (a 0))]) b dX12_packs_93 rfl (by decide) rfl ?_
  refine z_lload_n b dX12_packs_94 rfl rfl ?_
  refine z_iconst (v := 1) b dX12_packs_95 (by decide) ?_
  refine z_lshl (v := 96) b dX12_packs_96 (by decide) ?_
  refine z_aload_n b dX12_packs_97 rfl rfl ?_
  refine z_get (q0 := 0) (k9 := 4) (v := .ref (a 5)) b (mw_0 cy a S) rfl in_X12 (by decide) wf_X12_27 rfl dX12_packs_98 ?_
  refine z_iconst (v := 3) b dX12_packs_101 (by decide) ?_
  refine z_iload_n b dX12_packs_102 rfl rfl ?_
  refine z_imul (v := 0) b dX12_packs_103 (by decide) ?_
  refine z_iload_n b dX12_packs_104 rfl rfl ?_
  refine z_iload b dX12_packs_105 rfl ?_
  refine z_calli b (z_runS (As := [.int 0, .int 0]) (st := [.int 0, .ref (a 5), .long 96]) b (c_X12_other_6 S ) cf_X12_other wm_X12_160 ws_X12_other dX12_packs_107 rfl (Nat.le_of_ble_eq_true rfl) ⟨by decide, by decide, by decide, by decide⟩) (fun r1316 u1317 h1315 => ?_)
  obtain ⟨rfl, rfl⟩ := h1315
  refine z_iadd (v := 1) b dX12_packs_110 (by decide) ?_
  refine y_zald (q0 := 5) (j := 1) (v := (ar S 4 1)) b (mw_5 cy a S) (by decide) rfl dX12_packs_111 ?_
  refine z_eqi h_a_4_1 ?_
  refine z_if_eq_t (tgt := 119) b dX12_packs_112 (by decide) (by decide) ?_
  refine z_lconst (v := 0) b dX12_packs_119 (by decide) ?_
  refine z_lor (v := 96) b dX12_packs_120 (by decide) ?_
  refine z_lstore_n (lv' := [(1, .long 96), (4, .int 0), (3, .int 0), (0, .ref (a 0))]) b dX12_packs_121 rfl (by decide) rfl ?_
  refine z_iinc (k9 := 1) (v := 1) (lv' := [(4, .int 1), (1, .long 96), (3, .int 0), (0, .ref (a 0))]) b dX12_packs_122 rfl (by decide) (by decide) rfl ?_
  refine z_goto (tgt := 67) b dX12_packs_125 (by decide) ?_
  refine z_iload b dX12_packs_67 rfl ?_
  refine z_iconst (v := 2) b dX12_packs_69 (by decide) ?_
  refine z_icmp_ge_f (tgt := 128) b dX12_packs_70 (by decide) (by decide) ?_
  refine z_lload_n b dX12_packs_73 rfl rfl ?_
  refine z_iconst (v := 3) b dX12_packs_74 (by decide) ?_
  refine z_lshl (v := 768) b dX12_packs_75 (by decide) ?_
  refine z_aload_n b dX12_packs_76 rfl rfl ?_
  refine z_get (q0 := 0) (k9 := 1) (v := .ref (a 2)) b (mw_0 cy a S) rfl in_X12 (by decide) wf_X12_17 rfl dX12_packs_77 ?_
  refine z_iconst (v := 3) b dX12_packs_80 (by decide) ?_
  refine z_iload_n b dX12_packs_81 rfl rfl ?_
  refine z_imul (v := 0) b dX12_packs_82 (by decide) ?_
  refine z_iload_n b dX12_packs_83 rfl rfl ?_
  refine z_iload b dX12_packs_84 rfl ?_
  refine z_calli b (z_runS (As := [.int 0, .int 1]) (st := [.int 0, .ref (a 2), .long 768]) b (c_X12_other_5 S ) cf_X12_other wm_X12_160 ws_X12_other dX12_packs_86 rfl (Nat.le_of_ble_eq_true rfl) ⟨by decide, by decide, by decide, by decide⟩) (fun r1319 u1320 h1318 => ?_)
  obtain ⟨rfl, rfl⟩ := h1318
  refine z_iadd (v := 2) b dX12_packs_89 (by decide) ?_
  refine y_iald (q0 := 2) (j := 2) (v := (ar S 1 2)) b (mw_2 cy a S) (by decide) rfl dX12_packs_90 ?_
  refine z_eqi h_a_1_2 ?_
  refine z_i2l (v := 0) b dX12_packs_91 (by decide) ?_
  refine z_lor (v := 768) b dX12_packs_92 (by decide) ?_
  refine z_lstore_n (lv' := [(1, .long 768), (4, .int 1), (3, .int 0), (0, .ref (a 0))]) b dX12_packs_93 rfl (by decide) rfl ?_
  refine z_lload_n b dX12_packs_94 rfl rfl ?_
  refine z_iconst (v := 1) b dX12_packs_95 (by decide) ?_
  refine z_lshl (v := 1536) b dX12_packs_96 (by decide) ?_
  refine z_aload_n b dX12_packs_97 rfl rfl ?_
  refine z_get (q0 := 0) (k9 := 4) (v := .ref (a 5)) b (mw_0 cy a S) rfl in_X12 (by decide) wf_X12_27 rfl dX12_packs_98 ?_
  refine z_iconst (v := 3) b dX12_packs_101 (by decide) ?_
  refine z_iload_n b dX12_packs_102 rfl rfl ?_
  refine z_imul (v := 0) b dX12_packs_103 (by decide) ?_
  refine z_iload_n b dX12_packs_104 rfl rfl ?_
  refine z_iload b dX12_packs_105 rfl ?_
  refine z_calli b (z_runS (As := [.int 0, .int 1]) (st := [.int 0, .ref (a 5), .long 1536]) b (c_X12_other_5 S ) cf_X12_other wm_X12_160 ws_X12_other dX12_packs_107 rfl (Nat.le_of_ble_eq_true rfl) ⟨by decide, by decide, by decide, by decide⟩) (fun r1322 u1323 h1321 => ?_)
  obtain ⟨rfl, rfl⟩ := h1321
  refine z_iadd (v := 2) b dX12_packs_110 (by decide) ?_
  refine y_zald (q0 := 5) (j := 2) (v := (ar S 4 2)) b (mw_5 cy a S) (by decide) rfl dX12_packs_111 ?_
  refine z_eqi h_a_4_2 ?_
  refine z_if_eq_t (tgt := 119) b dX12_packs_112 (by decide) (by decide) ?_
  refine z_lconst (v := 0) b dX12_packs_119 (by decide) ?_
  refine z_lor (v := 1536) b dX12_packs_120 (by decide) ?_
  refine z_lstore_n (lv' := [(1, .long 1536), (4, .int 1), (3, .int 0), (0, .ref (a 0))]) b dX12_packs_121 rfl (by decide) rfl ?_
  refine z_iinc (k9 := 1) (v := 2) (lv' := [(4, .int 2), (1, .long 1536), (3, .int 0), (0, .ref (a 0))]) b dX12_packs_122 rfl (by decide) (by decide) rfl ?_
  refine z_goto (tgt := 67) b dX12_packs_125 (by decide) ?_
  refine z_iload b dX12_packs_67 rfl ?_
  refine z_iconst (v := 2) b dX12_packs_69 (by decide) ?_
  refine z_icmp_ge_t (tgt := 128) b dX12_packs_70 (by decide) (by decide) ?_
  refine z_iinc (k9 := 2) (v := 1) (lv' := [(3, .int 1), (4, .int 2), (1, .long 1536), (0, .ref (a 0))]) b dX12_packs_128 rfl (by decide) (by decide) rfl ?_
  refine z_goto (tgt := 8) b dX12_packs_131 (by decide) ?_
  refine z_iload_n b dX12_packs_8 rfl rfl ?_
  refine z_iconst (v := 3) b dX12_packs_9 (by decide) ?_
  refine z_icmp_ge_f (tgt := 134) b dX12_packs_10 (by decide) (by decide) ?_
  refine z_lload_n b dX12_packs_13 rfl rfl ?_
  refine z_iconst (v := 4) b dX12_packs_14 (by decide) ?_
  refine z_lshl (v := 24576) b dX12_packs_15 (by decide) ?_
  refine z_aload_n b dX12_packs_16 rfl rfl ?_
  refine z_get (q0 := 0) (k9 := 0) (v := .ref (a 1)) b (mw_0 cy a S) rfl in_X12 (by decide) wf_X12_13 rfl dX12_packs_17 ?_
  refine z_iload_n b dX12_packs_20 rfl rfl ?_
  exact k

set_option maxHeartbeats 4000000 in
set_option maxRecDepth 100000 in
theorem ch_X12_packs_25 {p : Program} {l : Launch} {e : Env} {R : Room} {s : State} {m : MethodId} {args : Array Value} {below : List Frame} {meth : Method} {c : Code} {D : va_G} {cy : Nat → ClassId} {T0 tB tE : Nat} {A : Nat → Prop} {Q : State → Prop} {a : Nat → Nat} (S : GS)  (h_a_0_1 : ar S 0 1 = 0) (h_a_0_2 : ar S 0 2 = 0) (h_a_1_3 : ar S 1 3 = 0) (h_a_2_1 : ar S 2 1 = 3) (h_a_2_2 : ar S 2 2 = 3) (h_a_3_5 : ar S 3 5 = 0) (h_a_4_3 : ar S 4 3 = 0) (h_a_4_5 : ar S 4 5 = 0) (b : Bz p R s m args meth c D cy T0 tB tE A 5 cX12_packs RX12 (some .long) "packs" 1 21 0 0) (k : Z p l e R s m args below meth c D A 5 Q 0 0 (mw cy a S) [(1, .long (((((((((((1572912 ||| ((ar S 1 5) : Int32).toInt64) <<< ((1 : Int32).toInt64 &&& 63)) ||| 0) <<< ((3 : Int32).toInt64 &&& 63)) ||| 0) <<< ((1 : Int32).toInt64 &&& 63)) ||| 0) <<< ((4 : Int32).toInt64 &&& 63)) ||| 0) <<< ((2 : Int32).toInt64 &&& 63)) ||| 3)), (3, .int 2), (4, .int 2), (0, .ref (a 0))] 38 [.long (((((((((((1572912 ||| ((ar S 1 5) : Int32).toInt64) <<< ((1 : Int32).toInt64 &&& 63)) ||| 0) <<< ((3 : Int32).toInt64 &&& 63)) ||| 0) <<< ((1 : Int32).toInt64 &&& 63)) ||| 0) <<< ((4 : Int32).toInt64 &&& 63)) ||| 0) <<< ((2 : Int32).toInt64 &&& 63)) ||| 3)]) : Z p l e R s m args below meth c D A 5 Q 0 0 (mw cy a S) [(3, .int 1), (4, .int 2), (1, .long 1536), (0, .ref (a 0))] 21 [.int 1, .ref (a 1), .long 24576] := by
  refine y_iald (q0 := 1) (j := 1) (v := (ar S 0 1)) b (mw_1 cy a S) (by decide) rfl dX12_packs_21 ?_
  refine z_eqi h_a_0_1 ?_
  refine z_i2l (v := 0) b dX12_packs_22 (by decide) ?_
  refine z_lor (v := 24576) b dX12_packs_23 (by decide) ?_
  refine z_lstore_n (lv' := [(1, .long 24576), (3, .int 1), (4, .int 2), (0, .ref (a 0))]) b dX12_packs_24 rfl (by decide) rfl ?_
  refine z_lload_n b dX12_packs_25 rfl rfl ?_
  refine z_iconst (v := 2) b dX12_packs_26 (by decide) ?_
  refine z_lshl (v := 98304) b dX12_packs_27 (by decide) ?_
  refine z_aload_n b dX12_packs_28 rfl rfl ?_
  refine z_get (q0 := 0) (k9 := 2) (v := .ref (a 3)) b (mw_0 cy a S) rfl in_X12 (by decide) wf_X12_20 rfl dX12_packs_29 ?_
  refine z_iload_n b dX12_packs_32 rfl rfl ?_
  refine y_iald (q0 := 3) (j := 1) (v := (ar S 2 1)) b (mw_3 cy a S) (by decide) rfl dX12_packs_33 ?_
  refine z_eqi h_a_2_1 ?_
  refine z_i2l (v := 3) b dX12_packs_34 (by decide) ?_
  refine z_lor (v := 98307) b dX12_packs_35 (by decide) ?_
  refine z_lstore_n (lv' := [(1, .long 98307), (3, .int 1), (4, .int 2), (0, .ref (a 0))]) b dX12_packs_36 rfl (by decide) rfl ?_
  refine z_lload_n b dX12_packs_37 rfl rfl ?_
  refine z_iconst (v := 1) b dX12_packs_38 (by decide) ?_
  refine z_lshl (v := 196614) b dX12_packs_39 (by decide) ?_
  refine z_aload_n b dX12_packs_40 rfl rfl ?_
  refine z_get (q0 := 0) (k9 := 3) (v := .ref (a 4)) b (mw_0 cy a S) rfl in_X12 (by decide) wf_X12_23 rfl dX12_packs_41 ?_
  refine z_iconst (v := 3) b dX12_packs_44 (by decide) ?_
  refine z_iload_n b dX12_packs_45 rfl rfl ?_
  refine z_imul (v := 3) b dX12_packs_46 (by decide) ?_
  refine z_iload_n b dX12_packs_47 rfl rfl ?_
  refine z_iconst (v := 0) b dX12_packs_48 (by decide) ?_
  refine z_calli b (z_runS (As := [.int 1, .int 0]) (st := [.int 3, .ref (a 4), .long 196614]) b (c_X12_other_4 S ) cf_X12_other wm_X12_160 ws_X12_other dX12_packs_49 rfl (Nat.le_of_ble_eq_true rfl) ⟨by decide, by decide, by decide, by decide⟩) (fun r1325 u1326 h1324 => ?_)
  obtain ⟨rfl, rfl⟩ := h1324
  refine z_iadd (v := 5) b dX12_packs_52 (by decide) ?_
  refine y_zald (q0 := 4) (j := 5) (v := (ar S 3 5)) b (mw_4 cy a S) (by decide) rfl dX12_packs_53 ?_
  refine z_eqi h_a_3_5 ?_
  refine z_if_eq_t (tgt := 61) b dX12_packs_54 (by decide) (by decide) ?_
  refine z_lconst (v := 0) b dX12_packs_61 (by decide) ?_
  refine z_lor (v := 196614) b dX12_packs_62 (by decide) ?_
  refine z_lstore_n (lv' := [(1, .long 196614), (3, .int 1), (4, .int 2), (0, .ref (a 0))]) b dX12_packs_63 rfl (by decide) rfl ?_
  refine z_iconst (v := 0) b dX12_packs_64 (by decide) ?_
  refine z_istore (lv' := [(4, .int 0), (1, .long 196614), (3, .int 1), (0, .ref (a 0))]) b dX12_packs_65 (by decide) rfl ?_
  refine z_iload b dX12_packs_67 rfl ?_
  refine z_iconst (v := 2) b dX12_packs_69 (by decide) ?_
  refine z_icmp_ge_f (tgt := 128) b dX12_packs_70 (by decide) (by decide) ?_
  refine z_lload_n b dX12_packs_73 rfl rfl ?_
  refine z_iconst (v := 3) b dX12_packs_74 (by decide) ?_
  refine z_lshl (v := 1572912) b dX12_packs_75 (by decide) ?_
  refine z_aload_n b dX12_packs_76 rfl rfl ?_
  refine z_get (q0 := 0) (k9 := 1) (v := .ref (a 2)) b (mw_0 cy a S) rfl in_X12 (by decide) wf_X12_17 rfl dX12_packs_77 ?_
  refine z_iconst (v := 3) b dX12_packs_80 (by decide) ?_
  refine z_iload_n b dX12_packs_81 rfl rfl ?_
  refine z_imul (v := 3) b dX12_packs_82 (by decide) ?_
  refine z_iload_n b dX12_packs_83 rfl rfl ?_
  refine z_iload b dX12_packs_84 rfl ?_
  refine z_calli b (z_runS (As := [.int 1, .int 0]) (st := [.int 3, .ref (a 2), .long 1572912]) b (c_X12_other_4 S ) cf_X12_other wm_X12_160 ws_X12_other dX12_packs_86 rfl (Nat.le_of_ble_eq_true rfl) ⟨by decide, by decide, by decide, by decide⟩) (fun r1328 u1329 h1327 => ?_)
  obtain ⟨rfl, rfl⟩ := h1327
  refine z_iadd (v := 5) b dX12_packs_89 (by decide) ?_
  refine y_iald (q0 := 2) (j := 5) (v := (ar S 1 5)) b (mw_2 cy a S) (by decide) rfl dX12_packs_90 ?_
  refine z_i2l b dX12_packs_91 rfl ?_
  refine z_lor b dX12_packs_92 rfl ?_
  refine z_lstore_n (lv' := [(1, .long (1572912 ||| ((ar S 1 5) : Int32).toInt64)), (4, .int 0), (3, .int 1), (0, .ref (a 0))]) b dX12_packs_93 rfl (by decide) rfl ?_
  refine z_lload_n b dX12_packs_94 rfl rfl ?_
  refine z_iconst (v := 1) b dX12_packs_95 (by decide) ?_
  refine z_lshl b dX12_packs_96 rfl ?_
  refine z_aload_n b dX12_packs_97 rfl rfl ?_
  refine z_get (q0 := 0) (k9 := 4) (v := .ref (a 5)) b (mw_0 cy a S) rfl in_X12 (by decide) wf_X12_27 rfl dX12_packs_98 ?_
  refine z_iconst (v := 3) b dX12_packs_101 (by decide) ?_
  refine z_iload_n b dX12_packs_102 rfl rfl ?_
  refine z_imul (v := 3) b dX12_packs_103 (by decide) ?_
  refine z_iload_n b dX12_packs_104 rfl rfl ?_
  refine z_iload b dX12_packs_105 rfl ?_
  refine z_calli b (z_runS (As := [.int 1, .int 0]) (st := [.int 3, .ref (a 5), .long ((1572912 ||| ((ar S 1 5) : Int32).toInt64) <<< ((1 : Int32).toInt64 &&& 63))]) b (c_X12_other_4 S ) cf_X12_other wm_X12_160 ws_X12_other dX12_packs_107 rfl (Nat.le_of_ble_eq_true rfl) ⟨by decide, by decide, by decide, by decide⟩) (fun r1331 u1332 h1330 => ?_)
  obtain ⟨rfl, rfl⟩ := h1330
  refine z_iadd (v := 5) b dX12_packs_110 (by decide) ?_
  refine y_zald (q0 := 5) (j := 5) (v := (ar S 4 5)) b (mw_5 cy a S) (by decide) rfl dX12_packs_111 ?_
  refine z_eqi h_a_4_5 ?_
  refine z_if_eq_t (tgt := 119) b dX12_packs_112 (by decide) (by decide) ?_
  refine z_lconst (v := 0) b dX12_packs_119 (by decide) ?_
  refine z_lor b dX12_packs_120 rfl ?_
  refine z_lstore_n (lv' := [(1, .long (((1572912 ||| ((ar S 1 5) : Int32).toInt64) <<< ((1 : Int32).toInt64 &&& 63)) ||| 0)), (4, .int 0), (3, .int 1), (0, .ref (a 0))]) b dX12_packs_121 rfl (by decide) rfl ?_
  refine z_iinc (k9 := 1) (v := 1) (lv' := [(4, .int 1), (1, .long (((1572912 ||| ((ar S 1 5) : Int32).toInt64) <<< ((1 : Int32).toInt64 &&& 63)) ||| 0)), (3, .int 1), (0, .ref (a 0))]) b dX12_packs_122 rfl (by decide) (by decide) rfl ?_
  refine z_goto (tgt := 67) b dX12_packs_125 (by decide) ?_
  refine z_iload b dX12_packs_67 rfl ?_
  refine z_iconst (v := 2) b dX12_packs_69 (by decide) ?_
  refine z_icmp_ge_f (tgt := 128) b dX12_packs_70 (by decide) (by decide) ?_
  refine z_lload_n b dX12_packs_73 rfl rfl ?_
  refine z_iconst (v := 3) b dX12_packs_74 (by decide) ?_
  refine z_lshl b dX12_packs_75 rfl ?_
  refine z_aload_n b dX12_packs_76 rfl rfl ?_
  refine z_get (q0 := 0) (k9 := 1) (v := .ref (a 2)) b (mw_0 cy a S) rfl in_X12 (by decide) wf_X12_17 rfl dX12_packs_77 ?_
  refine z_iconst (v := 3) b dX12_packs_80 (by decide) ?_
  refine z_iload_n b dX12_packs_81 rfl rfl ?_
  refine z_imul (v := 3) b dX12_packs_82 (by decide) ?_
  refine z_iload_n b dX12_packs_83 rfl rfl ?_
  refine z_iload b dX12_packs_84 rfl ?_
  refine z_calli b (z_runS (As := [.int 1, .int 1]) (st := [.int 3, .ref (a 2), .long ((((1572912 ||| ((ar S 1 5) : Int32).toInt64) <<< ((1 : Int32).toInt64 &&& 63)) ||| 0) <<< ((3 : Int32).toInt64 &&& 63))]) b (c_X12_other_3 S ) cf_X12_other wm_X12_160 ws_X12_other dX12_packs_86 rfl (Nat.le_of_ble_eq_true rfl) ⟨by decide, by decide, by decide, by decide⟩) (fun r1334 u1335 h1333 => ?_)
  obtain ⟨rfl, rfl⟩ := h1333
  refine z_iadd (v := 3) b dX12_packs_89 (by decide) ?_
  refine y_iald (q0 := 2) (j := 3) (v := (ar S 1 3)) b (mw_2 cy a S) (by decide) rfl dX12_packs_90 ?_
  refine z_eqi h_a_1_3 ?_
  refine z_i2l (v := 0) b dX12_packs_91 (by decide) ?_
  refine z_lor b dX12_packs_92 rfl ?_
  refine z_lstore_n (lv' := [(1, .long (((((1572912 ||| ((ar S 1 5) : Int32).toInt64) <<< ((1 : Int32).toInt64 &&& 63)) ||| 0) <<< ((3 : Int32).toInt64 &&& 63)) ||| 0)), (4, .int 1), (3, .int 1), (0, .ref (a 0))]) b dX12_packs_93 rfl (by decide) rfl ?_
  refine z_lload_n b dX12_packs_94 rfl rfl ?_
  refine z_iconst (v := 1) b dX12_packs_95 (by decide) ?_
  refine z_lshl b dX12_packs_96 rfl ?_
  refine z_aload_n b dX12_packs_97 rfl rfl ?_
  refine z_get (q0 := 0) (k9 := 4) (v := .ref (a 5)) b (mw_0 cy a S) rfl in_X12 (by decide) wf_X12_27 rfl dX12_packs_98 ?_
  refine z_iconst (v := 3) b dX12_packs_101 (by decide) ?_
  refine z_iload_n b dX12_packs_102 rfl rfl ?_
  refine z_imul (v := 3) b dX12_packs_103 (by decide) ?_
  refine z_iload_n b dX12_packs_104 rfl rfl ?_
  refine z_iload b dX12_packs_105 rfl ?_
  refine z_calli b (z_runS (As := [.int 1, .int 1]) (st := [.int 3, .ref (a 5), .long ((((((1572912 ||| ((ar S 1 5) : Int32).toInt64) <<< ((1 : Int32).toInt64 &&& 63)) ||| 0) <<< ((3 : Int32).toInt64 &&& 63)) ||| 0) <<< ((1 : Int32).toInt64 &&& 63))]) b (c_X12_other_3 S ) cf_X12_other wm_X12_160 ws_X12_other dX12_packs_107 rfl (Nat.le_of_ble_eq_true rfl) ⟨by decide, by decide, by decide, by decide⟩) (fun r1337 u1338 h1336 => ?_)
  obtain ⟨rfl, rfl⟩ := h1336
  refine z_iadd (v := 3) b dX12_packs_110 (by decide) ?_
  refine y_zald (q0 := 5) (j := 3) (v := (ar S 4 3)) b (mw_5 cy a S) (by decide) rfl dX12_packs_111 ?_
  refine z_eqi h_a_4_3 ?_
  refine z_if_eq_t (tgt := 119) b dX12_packs_112 (by decide) (by decide) ?_
  refine z_lconst (v := 0) b dX12_packs_119 (by decide) ?_
  refine z_lor b dX12_packs_120 rfl ?_
  refine z_lstore_n (lv' := [(1, .long (((((((1572912 ||| ((ar S 1 5) : Int32).toInt64) <<< ((1 : Int32).toInt64 &&& 63)) ||| 0) <<< ((3 : Int32).toInt64 &&& 63)) ||| 0) <<< ((1 : Int32).toInt64 &&& 63)) ||| 0)), (4, .int 1), (3, .int 1), (0, .ref (a 0))]) b dX12_packs_121 rfl (by decide) rfl ?_
  refine z_iinc (k9 := 1) (v := 2) (lv' := [(4, .int 2), (1, .long (((((((1572912 ||| ((ar S 1 5) : Int32).toInt64) <<< ((1 : Int32).toInt64 &&& 63)) ||| 0) <<< ((3 : Int32).toInt64 &&& 63)) ||| 0) <<< ((1 : Int32).toInt64 &&& 63)) ||| 0)), (3, .int 1), (0, .ref (a 0))]) b dX12_packs_122 rfl (by decide) (by decide) rfl ?_
  refine z_goto (tgt := 67) b dX12_packs_125 (by decide) ?_
  refine z_iload b dX12_packs_67 rfl ?_
  refine z_iconst (v := 2) b dX12_packs_69 (by decide) ?_
  refine z_icmp_ge_t (tgt := 128) b dX12_packs_70 (by decide) (by decide) ?_
  refine z_iinc (k9 := 2) (v := 2) (lv' := [(3, .int 2), (4, .int 2), (1, .long (((((((1572912 ||| ((ar S 1 5) : Int32).toInt64) <<< ((1 : Int32).toInt64 &&& 63)) ||| 0) <<< ((3 : Int32).toInt64 &&& 63)) ||| 0) <<< ((1 : Int32).toInt64 &&& 63)) ||| 0)), (0, .ref (a 0))]) b dX12_packs_128 rfl (by decide) (by decide) rfl ?_
  refine z_goto (tgt := 8) b dX12_packs_131 (by decide) ?_
  refine z_iload_n b dX12_packs_8 rfl rfl ?_
  refine z_iconst (v := 3) b dX12_packs_9 (by decide) ?_
  refine z_icmp_ge_f (tgt := 134) b dX12_packs_10 (by decide) (by decide) ?_
  refine z_lload_n b dX12_packs_13 rfl rfl ?_
  refine z_iconst (v := 4) b dX12_packs_14 (by decide) ?_
  refine z_lshl b dX12_packs_15 rfl ?_
  refine z_aload_n b dX12_packs_16 rfl rfl ?_
  refine z_get (q0 := 0) (k9 := 0) (v := .ref (a 1)) b (mw_0 cy a S) rfl in_X12 (by decide) wf_X12_13 rfl dX12_packs_17 ?_
  refine z_iload_n b dX12_packs_20 rfl rfl ?_
  refine y_iald (q0 := 1) (j := 2) (v := (ar S 0 2)) b (mw_1 cy a S) (by decide) rfl dX12_packs_21 ?_
  refine z_eqi h_a_0_2 ?_
  refine z_i2l (v := 0) b dX12_packs_22 (by decide) ?_
  refine z_lor b dX12_packs_23 rfl ?_
  refine z_lstore_n (lv' := [(1, .long (((((((((1572912 ||| ((ar S 1 5) : Int32).toInt64) <<< ((1 : Int32).toInt64 &&& 63)) ||| 0) <<< ((3 : Int32).toInt64 &&& 63)) ||| 0) <<< ((1 : Int32).toInt64 &&& 63)) ||| 0) <<< ((4 : Int32).toInt64 &&& 63)) ||| 0)), (3, .int 2), (4, .int 2), (0, .ref (a 0))]) b dX12_packs_24 rfl (by decide) rfl ?_
  refine z_lload_n b dX12_packs_25 rfl rfl ?_
  refine z_iconst (v := 2) b dX12_packs_26 (by decide) ?_
  refine z_lshl b dX12_packs_27 rfl ?_
  refine z_aload_n b dX12_packs_28 rfl rfl ?_
  refine z_get (q0 := 0) (k9 := 2) (v := .ref (a 3)) b (mw_0 cy a S) rfl in_X12 (by decide) wf_X12_20 rfl dX12_packs_29 ?_
  refine z_iload_n b dX12_packs_32 rfl rfl ?_
  refine y_iald (q0 := 3) (j := 2) (v := (ar S 2 2)) b (mw_3 cy a S) (by decide) rfl dX12_packs_33 ?_
  refine z_eqi h_a_2_2 ?_
  refine z_i2l (v := 3) b dX12_packs_34 (by decide) ?_
  refine z_lor b dX12_packs_35 rfl ?_
  refine z_lstore_n (lv' := [(1, .long (((((((((((1572912 ||| ((ar S 1 5) : Int32).toInt64) <<< ((1 : Int32).toInt64 &&& 63)) ||| 0) <<< ((3 : Int32).toInt64 &&& 63)) ||| 0) <<< ((1 : Int32).toInt64 &&& 63)) ||| 0) <<< ((4 : Int32).toInt64 &&& 63)) ||| 0) <<< ((2 : Int32).toInt64 &&& 63)) ||| 3)), (3, .int 2), (4, .int 2), (0, .ref (a 0))]) b dX12_packs_36 rfl (by decide) rfl ?_
  refine z_lload_n b dX12_packs_37 rfl rfl ?_
  exact k

set_option maxHeartbeats 4000000 in
set_option maxRecDepth 100000 in
theorem c_X12_packs_11 {l : Launch} {D : va_G} {cy : Nat → ClassId} {T0 tB tE : Nat} {a : Nat → Nat} (S : GS)  (h_i_0 : fi S 0 = 0) (h_a_0_0 : ar S 0 0 = 0) (h_a_2_0 : ar S 2 0 = 3) (h_a_3_1 : ar S 3 1 = 0) (h_a_1_1 : ar S 1 1 = 0) (h_a_4_1 : ar S 4 1 = 0) (h_a_1_2 : ar S 1 2 = 0) (h_a_4_2 : ar S 4 2 = 0) (h_a_0_1 : ar S 0 1 = 0) (h_a_2_1 : ar S 2 1 = 3) (h_a_3_5 : ar S 3 5 = 0) (h_a_4_5 : ar S 4 5 = 0) (h_a_1_3 : ar S 1 3 = 0) (h_a_4_3 : ar S 4 3 = 0) (h_a_0_2 : ar S 0 2 = 0) (h_a_2_2 : ar S 2 2 = 3) (h_a_3_6 : ar S 3 6 = 0) (h_a_1_6 : ar S 1 6 = 0) (h_a_4_6 : ar S 4 6 = 0) (h_a_1_7 : ar S 1 7 = 0) (h_a_4_7 : ar S 4 7 = 0) : Ct l D cy T0 tB tE yX12_packs cX12_packs 5 (some .long) 1 21 0 0 (mw cy a S) [.ref (a 0)] (QL D (U := GS) (fun r u => (((((((((((((((((((((1572912 ||| ((ar S 1 5) : Int32).toInt64) <<< ((1 : Int32).toInt64 &&& 63)) ||| 0) <<< ((3 : Int32).toInt64 &&& 63)) ||| 0) <<< ((1 : Int32).toInt64 &&& 63)) ||| 0) <<< ((4 : Int32).toInt64 &&& 63)) ||| 0) <<< ((2 : Int32).toInt64 &&& 63)) ||| 3) <<< ((1 : Int32).toInt64 &&& 63)) ||| 0) <<< ((3 : Int32).toInt64 &&& 63)) ||| 0) <<< ((1 : Int32).toInt64 &&& 63)) ||| 0) <<< ((3 : Int32).toInt64 &&& 63)) ||| 0) <<< ((1 : Int32).toInt64 &&& 63)) ||| 0) = r ∧ S = u) (mw cy a)) := by
  refine Ct.ofZ RX12 "packs" [(0, .ref (a 0))] rfl rfl rfl rfl (Nat.le_of_ble_eq_true rfl) ?_
  intro p e R s m args below meth c A b
  refine ch_X12_packs_24 S  h_a_0_0 h_a_1_1 h_a_1_2 h_a_2_0 h_a_3_1 h_a_4_1 h_a_4_2 h_i_0  b ?_
  refine ch_X12_packs_25 S  h_a_0_1 h_a_0_2 h_a_1_3 h_a_2_1 h_a_2_2 h_a_3_5 h_a_4_3 h_a_4_5  b ?_
  refine z_iconst (v := 1) b dX12_packs_38 (by decide) ?_
  refine z_lshl b dX12_packs_39 rfl ?_
  refine z_aload_n b dX12_packs_40 rfl rfl ?_
  refine z_get (q0 := 0) (k9 := 3) (v := .ref (a 4)) b (mw_0 cy a S) rfl in_X12 (by decide) wf_X12_23 rfl dX12_packs_41 ?_
  refine z_iconst (v := 3) b dX12_packs_44 (by decide) ?_
  refine z_iload_n b dX12_packs_45 rfl rfl ?_
  refine z_imul (v := 6) b dX12_packs_46 (by decide) ?_
  refine z_iload_n b dX12_packs_47 rfl rfl ?_
  refine z_iconst (v := 0) b dX12_packs_48 (by decide) ?_
  refine z_calli b (z_runS (As := [.int 2, .int 0]) (st := [.int 6, .ref (a 4), .long ((((((((((((1572912 ||| ((ar S 1 5) : Int32).toInt64) <<< ((1 : Int32).toInt64 &&& 63)) ||| 0) <<< ((3 : Int32).toInt64 &&& 63)) ||| 0) <<< ((1 : Int32).toInt64 &&& 63)) ||| 0) <<< ((4 : Int32).toInt64 &&& 63)) ||| 0) <<< ((2 : Int32).toInt64 &&& 63)) ||| 3) <<< ((1 : Int32).toInt64 &&& 63))]) b (c_X12_other_2 S ) cf_X12_other wm_X12_160 ws_X12_other dX12_packs_49 rfl (Nat.le_of_ble_eq_true rfl) ⟨by decide, by decide, by decide, by decide⟩) (fun r1340 u1341 h1339 => ?_)
  obtain ⟨rfl, rfl⟩ := h1339
  refine z_iadd (v := 6) b dX12_packs_52 (by decide) ?_
  refine y_zald (q0 := 4) (j := 6) (v := (ar S 3 6)) b (mw_4 cy a S) (by decide) rfl dX12_packs_53 ?_
  refine z_eqi h_a_3_6 ?_
  refine z_if_eq_t (tgt := 61) b dX12_packs_54 (by decide) (by decide) ?_
  refine z_lconst (v := 0) b dX12_packs_61 (by decide) ?_
  refine z_lor b dX12_packs_62 rfl ?_
  refine z_lstore_n (lv' := [(1, .long (((((((((((((1572912 ||| ((ar S 1 5) : Int32).toInt64) <<< ((1 : Int32).toInt64 &&& 63)) ||| 0) <<< ((3 : Int32).toInt64 &&& 63)) ||| 0) <<< ((1 : Int32).toInt64 &&& 63)) ||| 0) <<< ((4 : Int32).toInt64 &&& 63)) ||| 0) <<< ((2 : Int32).toInt64 &&& 63)) ||| 3) <<< ((1 : Int32).toInt64 &&& 63)) ||| 0)), (3, .int 2), (4, .int 2), (0, .ref (a 0))]) b dX12_packs_63 rfl (by decide) rfl ?_
  refine z_iconst (v := 0) b dX12_packs_64 (by decide) ?_
  refine z_istore (lv' := [(4, .int 0), (1, .long (((((((((((((1572912 ||| ((ar S 1 5) : Int32).toInt64) <<< ((1 : Int32).toInt64 &&& 63)) ||| 0) <<< ((3 : Int32).toInt64 &&& 63)) ||| 0) <<< ((1 : Int32).toInt64 &&& 63)) ||| 0) <<< ((4 : Int32).toInt64 &&& 63)) ||| 0) <<< ((2 : Int32).toInt64 &&& 63)) ||| 3) <<< ((1 : Int32).toInt64 &&& 63)) ||| 0)), (3, .int 2), (0, .ref (a 0))]) b dX12_packs_65 (by decide) rfl ?_
  refine z_iload b dX12_packs_67 rfl ?_
  refine z_iconst (v := 2) b dX12_packs_69 (by decide) ?_
  refine z_icmp_ge_f (tgt := 128) b dX12_packs_70 (by decide) (by decide) ?_
  refine z_lload_n b dX12_packs_73 rfl rfl ?_
  refine z_iconst (v := 3) b dX12_packs_74 (by decide) ?_
  refine z_lshl b dX12_packs_75 rfl ?_
  refine z_aload_n b dX12_packs_76 rfl rfl ?_
  refine z_get (q0 := 0) (k9 := 1) (v := .ref (a 2)) b (mw_0 cy a S) rfl in_X12 (by decide) wf_X12_17 rfl dX12_packs_77 ?_
  refine z_iconst (v := 3) b dX12_packs_80 (by decide) ?_
  refine z_iload_n b dX12_packs_81 rfl rfl ?_
  refine z_imul (v := 6) b dX12_packs_82 (by decide) ?_
  refine z_iload_n b dX12_packs_83 rfl rfl ?_
  refine z_iload b dX12_packs_84 rfl ?_
  refine z_calli b (z_runS (As := [.int 2, .int 0]) (st := [.int 6, .ref (a 2), .long ((((((((((((((1572912 ||| ((ar S 1 5) : Int32).toInt64) <<< ((1 : Int32).toInt64 &&& 63)) ||| 0) <<< ((3 : Int32).toInt64 &&& 63)) ||| 0) <<< ((1 : Int32).toInt64 &&& 63)) ||| 0) <<< ((4 : Int32).toInt64 &&& 63)) ||| 0) <<< ((2 : Int32).toInt64 &&& 63)) ||| 3) <<< ((1 : Int32).toInt64 &&& 63)) ||| 0) <<< ((3 : Int32).toInt64 &&& 63))]) b (c_X12_other_2 S ) cf_X12_other wm_X12_160 ws_X12_other dX12_packs_86 rfl (Nat.le_of_ble_eq_true rfl) ⟨by decide, by decide, by decide, by decide⟩) (fun r1343 u1344 h1342 => ?_)
  obtain ⟨rfl, rfl⟩ := h1342
  refine z_iadd (v := 6) b dX12_packs_89 (by decide) ?_
  refine y_iald (q0 := 2) (j := 6) (v := (ar S 1 6)) b (mw_2 cy a S) (by decide) rfl dX12_packs_90 ?_
  refine z_eqi h_a_1_6 ?_
  refine z_i2l (v := 0) b dX12_packs_91 (by decide) ?_
  refine z_lor b dX12_packs_92 rfl ?_
  refine z_lstore_n (lv' := [(1, .long (((((((((((((((1572912 ||| ((ar S 1 5) : Int32).toInt64) <<< ((1 : Int32).toInt64 &&& 63)) ||| 0) <<< ((3 : Int32).toInt64 &&& 63)) ||| 0) <<< ((1 : Int32).toInt64 &&& 63)) ||| 0) <<< ((4 : Int32).toInt64 &&& 63)) ||| 0) <<< ((2 : Int32).toInt64 &&& 63)) ||| 3) <<< ((1 : Int32).toInt64 &&& 63)) ||| 0) <<< ((3 : Int32).toInt64 &&& 63)) ||| 0)), (4, .int 0), (3, .int 2), (0, .ref (a 0))]) b dX12_packs_93 rfl (by decide) rfl ?_
  refine z_lload_n b dX12_packs_94 rfl rfl ?_
  refine z_iconst (v := 1) b dX12_packs_95 (by decide) ?_
  refine z_lshl b dX12_packs_96 rfl ?_
  refine z_aload_n b dX12_packs_97 rfl rfl ?_
  refine z_get (q0 := 0) (k9 := 4) (v := .ref (a 5)) b (mw_0 cy a S) rfl in_X12 (by decide) wf_X12_27 rfl dX12_packs_98 ?_
  refine z_iconst (v := 3) b dX12_packs_101 (by decide) ?_
  refine z_iload_n b dX12_packs_102 rfl rfl ?_
  refine z_imul (v := 6) b dX12_packs_103 (by decide) ?_
  refine z_iload_n b dX12_packs_104 rfl rfl ?_
  refine z_iload b dX12_packs_105 rfl ?_
  refine z_calli b (z_runS (As := [.int 2, .int 0]) (st := [.int 6, .ref (a 5), .long ((((((((((((((((1572912 ||| ((ar S 1 5) : Int32).toInt64) <<< ((1 : Int32).toInt64 &&& 63)) ||| 0) <<< ((3 : Int32).toInt64 &&& 63)) ||| 0) <<< ((1 : Int32).toInt64 &&& 63)) ||| 0) <<< ((4 : Int32).toInt64 &&& 63)) ||| 0) <<< ((2 : Int32).toInt64 &&& 63)) ||| 3) <<< ((1 : Int32).toInt64 &&& 63)) ||| 0) <<< ((3 : Int32).toInt64 &&& 63)) ||| 0) <<< ((1 : Int32).toInt64 &&& 63))]) b (c_X12_other_2 S ) cf_X12_other wm_X12_160 ws_X12_other dX12_packs_107 rfl (Nat.le_of_ble_eq_true rfl) ⟨by decide, by decide, by decide, by decide⟩) (fun r1346 u1347 h1345 => ?_)
  obtain ⟨rfl, rfl⟩ := h1345
  refine z_iadd (v := 6) b dX12_packs_110 (by decide) ?_
  refine y_zald (q0 := 5) (j := 6) (v := (ar S 4 6)) b (mw_5 cy a S) (by decide) rfl dX12_packs_111 ?_
  refine z_eqi h_a_4_6 ?_
  refine z_if_eq_t (tgt := 119) b dX12_packs_112 (by decide) (by decide) ?_
  refine z_lconst (v := 0) b dX12_packs_119 (by decide) ?_
  refine z_lor b dX12_packs_120 rfl ?_
  refine z_lstore_n (lv' := [(1, .long (((((((((((((((((1572912 ||| ((ar S 1 5) : Int32).toInt64) <<< ((1 : Int32).toInt64 &&& 63)) ||| 0) <<< ((3 : Int32).toInt64 &&& 63)) ||| 0) <<< ((1 : Int32).toInt64 &&& 63)) ||| 0) <<< ((4 : Int32).toInt64 &&& 63)) ||| 0) <<< ((2 : Int32).toInt64 &&& 63)) ||| 3) <<< ((1 : Int32).toInt64 &&& 63)) ||| 0) <<< ((3 : Int32).toInt64 &&& 63)) ||| 0) <<< ((1 : Int32).toInt64 &&& 63)) ||| 0)), (4, .int 0), (3, .int 2), (0, .ref (a 0))]) b dX12_packs_121 rfl (by decide) rfl ?_
  refine z_iinc (k9 := 1) (v := 1) (lv' := [(4, .int 1), (1, .long (((((((((((((((((1572912 ||| ((ar S 1 5) : Int32).toInt64) <<< ((1 : Int32).toInt64 &&& 63)) ||| 0) <<< ((3 : Int32).toInt64 &&& 63)) ||| 0) <<< ((1 : Int32).toInt64 &&& 63)) ||| 0) <<< ((4 : Int32).toInt64 &&& 63)) ||| 0) <<< ((2 : Int32).toInt64 &&& 63)) ||| 3) <<< ((1 : Int32).toInt64 &&& 63)) ||| 0) <<< ((3 : Int32).toInt64 &&& 63)) ||| 0) <<< ((1 : Int32).toInt64 &&& 63)) ||| 0)), (3, .int 2), (0, .ref (a 0))]) b dX12_packs_122 rfl (by decide) (by decide) rfl ?_
  refine z_goto (tgt := 67) b dX12_packs_125 (by decide) ?_
  refine z_iload b dX12_packs_67 rfl ?_
  refine z_iconst (v := 2) b dX12_packs_69 (by decide) ?_
  refine z_icmp_ge_f (tgt := 128) b dX12_packs_70 (by decide) (by decide) ?_
  refine z_lload_n b dX12_packs_73 rfl rfl ?_
  refine z_iconst (v := 3) b dX12_packs_74 (by decide) ?_
  refine z_lshl b dX12_packs_75 rfl ?_
  refine z_aload_n b dX12_packs_76 rfl rfl ?_
  refine z_get (q0 := 0) (k9 := 1) (v := .ref (a 2)) b (mw_0 cy a S) rfl in_X12 (by decide) wf_X12_17 rfl dX12_packs_77 ?_
  refine z_iconst (v := 3) b dX12_packs_80 (by decide) ?_
  refine z_iload_n b dX12_packs_81 rfl rfl ?_
  refine z_imul (v := 6) b dX12_packs_82 (by decide) ?_
  refine z_iload_n b dX12_packs_83 rfl rfl ?_
  refine z_iload b dX12_packs_84 rfl ?_
  refine z_calli b (z_runS (As := [.int 2, .int 1]) (st := [.int 6, .ref (a 2), .long ((((((((((((((((((1572912 ||| ((ar S 1 5) : Int32).toInt64) <<< ((1 : Int32).toInt64 &&& 63)) ||| 0) <<< ((3 : Int32).toInt64 &&& 63)) ||| 0) <<< ((1 : Int32).toInt64 &&& 63)) ||| 0) <<< ((4 : Int32).toInt64 &&& 63)) ||| 0) <<< ((2 : Int32).toInt64 &&& 63)) ||| 3) <<< ((1 : Int32).toInt64 &&& 63)) ||| 0) <<< ((3 : Int32).toInt64 &&& 63)) ||| 0) <<< ((1 : Int32).toInt64 &&& 63)) ||| 0) <<< ((3 : Int32).toInt64 &&& 63))]) b (c_X12_other S ) cf_X12_other wm_X12_160 ws_X12_other dX12_packs_86 rfl (Nat.le_of_ble_eq_true rfl) ⟨by decide, by decide, by decide, by decide⟩) (fun r1349 u1350 h1348 => ?_)
  obtain ⟨rfl, rfl⟩ := h1348
  refine z_iadd (v := 7) b dX12_packs_89 (by decide) ?_
  refine y_iald (q0 := 2) (j := 7) (v := (ar S 1 7)) b (mw_2 cy a S) (by decide) rfl dX12_packs_90 ?_
  refine z_eqi h_a_1_7 ?_
  refine z_i2l (v := 0) b dX12_packs_91 (by decide) ?_
  refine z_lor b dX12_packs_92 rfl ?_
  refine z_lstore_n (lv' := [(1, .long (((((((((((((((((((1572912 ||| ((ar S 1 5) : Int32).toInt64) <<< ((1 : Int32).toInt64 &&& 63)) ||| 0) <<< ((3 : Int32).toInt64 &&& 63)) ||| 0) <<< ((1 : Int32).toInt64 &&& 63)) ||| 0) <<< ((4 : Int32).toInt64 &&& 63)) ||| 0) <<< ((2 : Int32).toInt64 &&& 63)) ||| 3) <<< ((1 : Int32).toInt64 &&& 63)) ||| 0) <<< ((3 : Int32).toInt64 &&& 63)) ||| 0) <<< ((1 : Int32).toInt64 &&& 63)) ||| 0) <<< ((3 : Int32).toInt64 &&& 63)) ||| 0)), (4, .int 1), (3, .int 2), (0, .ref (a 0))]) b dX12_packs_93 rfl (by decide) rfl ?_
  refine z_lload_n b dX12_packs_94 rfl rfl ?_
  refine z_iconst (v := 1) b dX12_packs_95 (by decide) ?_
  refine z_lshl b dX12_packs_96 rfl ?_
  refine z_aload_n b dX12_packs_97 rfl rfl ?_
  refine z_get (q0 := 0) (k9 := 4) (v := .ref (a 5)) b (mw_0 cy a S) rfl in_X12 (by decide) wf_X12_27 rfl dX12_packs_98 ?_
  refine z_iconst (v := 3) b dX12_packs_101 (by decide) ?_
  refine z_iload_n b dX12_packs_102 rfl rfl ?_
  refine z_imul (v := 6) b dX12_packs_103 (by decide) ?_
  refine z_iload_n b dX12_packs_104 rfl rfl ?_
  refine z_iload b dX12_packs_105 rfl ?_
  refine z_calli b (z_runS (As := [.int 2, .int 1]) (st := [.int 6, .ref (a 5), .long ((((((((((((((((((((1572912 ||| ((ar S 1 5) : Int32).toInt64) <<< ((1 : Int32).toInt64 &&& 63)) ||| 0) <<< ((3 : Int32).toInt64 &&& 63)) ||| 0) <<< ((1 : Int32).toInt64 &&& 63)) ||| 0) <<< ((4 : Int32).toInt64 &&& 63)) ||| 0) <<< ((2 : Int32).toInt64 &&& 63)) ||| 3) <<< ((1 : Int32).toInt64 &&& 63)) ||| 0) <<< ((3 : Int32).toInt64 &&& 63)) ||| 0) <<< ((1 : Int32).toInt64 &&& 63)) ||| 0) <<< ((3 : Int32).toInt64 &&& 63)) ||| 0) <<< ((1 : Int32).toInt64 &&& 63))]) b (c_X12_other S ) cf_X12_other wm_X12_160 ws_X12_other dX12_packs_107 rfl (Nat.le_of_ble_eq_true rfl) ⟨by decide, by decide, by decide, by decide⟩) (fun r1352 u1353 h1351 => ?_)
  obtain ⟨rfl, rfl⟩ := h1351
  refine z_iadd (v := 7) b dX12_packs_110 (by decide) ?_
  refine y_zald (q0 := 5) (j := 7) (v := (ar S 4 7)) b (mw_5 cy a S) (by decide) rfl dX12_packs_111 ?_
  refine z_eqi h_a_4_7 ?_
  refine z_if_eq_t (tgt := 119) b dX12_packs_112 (by decide) (by decide) ?_
  refine z_lconst (v := 0) b dX12_packs_119 (by decide) ?_
  refine z_lor b dX12_packs_120 rfl ?_
  refine z_lstore_n (lv' := [(1, .long (((((((((((((((((((((1572912 ||| ((ar S 1 5) : Int32).toInt64) <<< ((1 : Int32).toInt64 &&& 63)) ||| 0) <<< ((3 : Int32).toInt64 &&& 63)) ||| 0) <<< ((1 : Int32).toInt64 &&& 63)) ||| 0) <<< ((4 : Int32).toInt64 &&& 63)) ||| 0) <<< ((2 : Int32).toInt64 &&& 63)) ||| 3) <<< ((1 : Int32).toInt64 &&& 63)) ||| 0) <<< ((3 : Int32).toInt64 &&& 63)) ||| 0) <<< ((1 : Int32).toInt64 &&& 63)) ||| 0) <<< ((3 : Int32).toInt64 &&& 63)) ||| 0) <<< ((1 : Int32).toInt64 &&& 63)) ||| 0)), (4, .int 1), (3, .int 2), (0, .ref (a 0))]) b dX12_packs_121 rfl (by decide) rfl ?_
  refine z_iinc (k9 := 1) (v := 2) (lv' := [(4, .int 2), (1, .long (((((((((((((((((((((1572912 ||| ((ar S 1 5) : Int32).toInt64) <<< ((1 : Int32).toInt64 &&& 63)) ||| 0) <<< ((3 : Int32).toInt64 &&& 63)) ||| 0) <<< ((1 : Int32).toInt64 &&& 63)) ||| 0) <<< ((4 : Int32).toInt64 &&& 63)) ||| 0) <<< ((2 : Int32).toInt64 &&& 63)) ||| 3) <<< ((1 : Int32).toInt64 &&& 63)) ||| 0) <<< ((3 : Int32).toInt64 &&& 63)) ||| 0) <<< ((1 : Int32).toInt64 &&& 63)) ||| 0) <<< ((3 : Int32).toInt64 &&& 63)) ||| 0) <<< ((1 : Int32).toInt64 &&& 63)) ||| 0)), (3, .int 2), (0, .ref (a 0))]) b dX12_packs_122 rfl (by decide) (by decide) rfl ?_
  refine z_goto (tgt := 67) b dX12_packs_125 (by decide) ?_
  refine z_iload b dX12_packs_67 rfl ?_
  refine z_iconst (v := 2) b dX12_packs_69 (by decide) ?_
  refine z_icmp_ge_t (tgt := 128) b dX12_packs_70 (by decide) (by decide) ?_
  refine z_iinc (k9 := 2) (v := 3) (lv' := [(3, .int 3), (4, .int 2), (1, .long (((((((((((((((((((((1572912 ||| ((ar S 1 5) : Int32).toInt64) <<< ((1 : Int32).toInt64 &&& 63)) ||| 0) <<< ((3 : Int32).toInt64 &&& 63)) ||| 0) <<< ((1 : Int32).toInt64 &&& 63)) ||| 0) <<< ((4 : Int32).toInt64 &&& 63)) ||| 0) <<< ((2 : Int32).toInt64 &&& 63)) ||| 3) <<< ((1 : Int32).toInt64 &&& 63)) ||| 0) <<< ((3 : Int32).toInt64 &&& 63)) ||| 0) <<< ((1 : Int32).toInt64 &&& 63)) ||| 0) <<< ((3 : Int32).toInt64 &&& 63)) ||| 0) <<< ((1 : Int32).toInt64 &&& 63)) ||| 0)), (0, .ref (a 0))]) b dX12_packs_128 rfl (by decide) (by decide) rfl ?_
  refine z_goto (tgt := 8) b dX12_packs_131 (by decide) ?_
  refine z_iload_n b dX12_packs_8 rfl rfl ?_
  refine z_iconst (v := 3) b dX12_packs_9 (by decide) ?_
  refine z_icmp_ge_t (tgt := 134) b dX12_packs_10 (by decide) (by decide) ?_
  refine z_lload_n b dX12_packs_134 rfl rfl ?_
  exact z_lret (u := S) b rfl dX12_packs_135 ⟨rfl, rfl⟩ rfl (by decide) (by decide)

set_option maxHeartbeats 4000000 in
set_option maxRecDepth 100000 in
theorem c_X12_told_11 {l : Launch} {D : va_G} {cy : Nat → ClassId} {T0 tB tE : Nat} {a : Nat → Nat} (S : GS)  (h_i_0 : fi S 0 = 0) (h_a_0_0 : ar S 0 0 = 0) (h_a_2_0 : ar S 2 0 = 3) (h_a_3_1 : ar S 3 1 = 0) (h_a_1_1 : ar S 1 1 = 0) (h_a_4_1 : ar S 4 1 = 0) (h_a_1_2 : ar S 1 2 = 0) (h_a_4_2 : ar S 4 2 = 0) (h_a_0_1 : ar S 0 1 = 0) (h_a_2_1 : ar S 2 1 = 3) (h_a_3_5 : ar S 3 5 = 0) (h_a_4_5 : ar S 4 5 = 0) (h_a_1_3 : ar S 1 3 = 0) (h_a_4_3 : ar S 4 3 = 0) (h_a_0_2 : ar S 0 2 = 0) (h_a_2_2 : ar S 2 2 = 3) (h_a_3_6 : ar S 3 6 = 0) (h_a_1_6 : ar S 1 6 = 0) (h_a_4_6 : ar S 4 6 = 0) (h_a_1_7 : ar S 1 7 = 0) (h_a_4_7 : ar S 4 7 = 0) : Ct l D cy T0 tB tE yX12_told cX12_told 1 (some .boolean) 2 45 0 0 (mw cy a S) [.ref (a 0)] (QI D (U := GS) (fun r u => 1 = r ∧ sl S 0 (((((((((((((((((((((1572912 ||| ((ar S 1 5) : Int32).toInt64) <<< ((1 : Int32).toInt64 &&& 63)) ||| 0) <<< ((3 : Int32).toInt64 &&& 63)) ||| 0) <<< ((1 : Int32).toInt64 &&& 63)) ||| 0) <<< ((4 : Int32).toInt64 &&& 63)) ||| 0) <<< ((2 : Int32).toInt64 &&& 63)) ||| 3) <<< ((1 : Int32).toInt64 &&& 63)) ||| 0) <<< ((3 : Int32).toInt64 &&& 63)) ||| 0) <<< ((1 : Int32).toInt64 &&& 63)) ||| 0) <<< ((3 : Int32).toInt64 &&& 63)) ||| 0) <<< ((1 : Int32).toInt64 &&& 63)) ||| 0) = u) (mw cy a)) := by
  refine Ct.ofZ RX12 "told" [(0, .ref (a 0))] rfl rfl rfl rfl (Nat.le_of_ble_eq_true rfl) ?_
  intro p e R s m args below meth c A b
  refine z_aload_n b dX12_told_0 rfl rfl ?_
  refine z_aload_n b dX12_told_1 rfl rfl ?_
  refine z_calll b (z_runV (q0 := 0) (As := []) (st := [.ref (a 0)]) b (c_X12_packs_11 S h_i_0 h_a_0_0 h_a_2_0 h_a_3_1 h_a_1_1 h_a_4_1 h_a_1_2 h_a_4_2 h_a_0_1 h_a_2_1 h_a_3_5 h_a_4_5 h_a_1_3 h_a_4_3 h_a_0_2 h_a_2_2 h_a_3_6 h_a_1_6 h_a_4_6 h_a_1_7 h_a_4_7) cf_X12_packs (mw_0 cy a S) rfl wm_X12_149 wi_X12_packs ws_X12_packs dX12_told_2 rfl (Nat.le_of_ble_eq_true rfl) ⟨by decide, by decide, by decide, by decide⟩) (fun r1355 u1356 h1354 => ?_)
  obtain ⟨rfl, rfl⟩ := h1354
  refine z_put (q0 := 0) (k9 := 6) tyX12 b (mw_0 cy a S) rfl in_X12 tyX12_ok nmX12 (by decide) wf_X12_153 rfl rfl rfl rfl (Nat.le_of_ble_eq_true rfl) dX12_told_5 (mwp_0_6 cy a S (((((((((((((((((((((1572912 ||| ((ar S 1 5) : Int32).toInt64) <<< ((1 : Int32).toInt64 &&& 63)) ||| 0) <<< ((3 : Int32).toInt64 &&& 63)) ||| 0) <<< ((1 : Int32).toInt64 &&& 63)) ||| 0) <<< ((4 : Int32).toInt64 &&& 63)) ||| 0) <<< ((2 : Int32).toInt64 &&& 63)) ||| 3) <<< ((1 : Int32).toInt64 &&& 63)) ||| 0) <<< ((3 : Int32).toInt64 &&& 63)) ||| 0) <<< ((1 : Int32).toInt64 &&& 63)) ||| 0) <<< ((3 : Int32).toInt64 &&& 63)) ||| 0) <<< ((1 : Int32).toInt64 &&& 63)) ||| 0)) ?_
  refine z_iconst (v := 1) b dX12_told_8 (by decide) ?_
  exact z_zret (u := (sl S 0 (((((((((((((((((((((1572912 ||| ((ar S 1 5) : Int32).toInt64) <<< ((1 : Int32).toInt64 &&& 63)) ||| 0) <<< ((3 : Int32).toInt64 &&& 63)) ||| 0) <<< ((1 : Int32).toInt64 &&& 63)) ||| 0) <<< ((4 : Int32).toInt64 &&& 63)) ||| 0) <<< ((2 : Int32).toInt64 &&& 63)) ||| 3) <<< ((1 : Int32).toInt64 &&& 63)) ||| 0) <<< ((3 : Int32).toInt64 &&& 63)) ||| 0) <<< ((1 : Int32).toInt64 &&& 63)) ||| 0) <<< ((3 : Int32).toInt64 &&& 63)) ||| 0) <<< ((1 : Int32).toInt64 &&& 63)) ||| 0))) b rfl (by decide) dX12_told_9 ⟨rfl, rfl⟩ rfl (by decide) (by decide)

set_option maxHeartbeats 4000000 in
set_option maxRecDepth 100000 in
theorem c_X12_debt_22 {l : Launch} {D : va_G} {cy : Nat → ClassId} {T0 tB tE : Nat} {a : Nat → Nat} (S : GS) (p0 : Int32) (h_l_0 : fl S 0 = 1649317774848) (h_a_4_7 : ar S 4 7 = 0) (h_a_1_7 : ar S 1 7 = 0) (h_a_4_6 : ar S 4 6 = 0) (h_a_1_6 : ar S 1 6 = 0) (h_a_3_6 : ar S 3 6 = 0) (h_a_3_2 : ar S 3 2 = 0) (h_a_2_2 : ar S 2 2 = 3) (h_a_0_2 : ar S 0 2 = 0) (h_a_4_3 : ar S 4 3 = 0) (h_a_1_3 : ar S 1 3 = 0) (h_a_4_5 : ar S 4 5 = 0) (h_a_1_5 : ar S 1 5 = 0) (h_a_3_5 : ar S 3 5 = 0) (h_a_3_7 : ar S 3 7 = 0) (h_a_2_1 : ar S 2 1 = 3) (h_a_0_1 : ar S 0 1 = 0) (h_a_4_2 : ar S 4 2 = 0) (h_a_1_2 : ar S 1 2 = 0) (h_a_4_1 : ar S 4 1 = 0) (h_a_1_1 : ar S 1 1 = 0) (h_a_3_1 : ar S 3 1 = 0) (h_a_3_3 : ar S 3 3 = 0) (h_a_2_0 : ar S 2 0 = 3) (h_a_0_0 : ar S 0 0 = 0) (h_i_0 : fi S 0 = 0) (hr_p0 : 0 ≤ p0.toInt ∧ p0.toInt ≤ 7) : Ct l D cy T0 tB tE yX12_debt cX12_debt 4 (some .boolean) 3 65 0 0 (mw cy a S) [.ref (a 0), .int 1, .int 2, .int p0] (QI D (U := GS) (fun r u => 1 = r ∧ sl (su S 1 5 p0) 0 (((((((((((((((((((((1572912 ||| ((ar (su S 1 5 p0) 1 5) : Int32).toInt64) <<< ((1 : Int32).toInt64 &&& 63)) ||| 0) <<< ((3 : Int32).toInt64 &&& 63)) ||| 0) <<< ((1 : Int32).toInt64 &&& 63)) ||| 0) <<< ((4 : Int32).toInt64 &&& 63)) ||| 0) <<< ((2 : Int32).toInt64 &&& 63)) ||| 3) <<< ((1 : Int32).toInt64 &&& 63)) ||| 0) <<< ((3 : Int32).toInt64 &&& 63)) ||| 0) <<< ((1 : Int32).toInt64 &&& 63)) ||| 0) <<< ((3 : Int32).toInt64 &&& 63)) ||| 0) <<< ((1 : Int32).toInt64 &&& 63)) ||| 0) = u) (mw cy a)) := by
  refine Ct.ofZ RX12 "debt" [(0, .ref (a 0)), (1, .int 1), (2, .int 2), (3, .int p0)] rfl rfl rfl rfl (Nat.le_of_ble_eq_true rfl) ?_
  intro p e R s m args below meth c A b
  refine z_iload_n b dX12_debt_0 rfl rfl ?_
  refine z_calli b (z_runS (As := [.int 1]) (st := []) b (c_X12_isOne_4 S ) cf_X12_isOne wm_X12_170 ws_X12_isOne dX12_debt_1 rfl (Nat.le_of_ble_eq_true rfl) ⟨by decide, by decide, by decide, by decide⟩) (fun r1298 u1299 h1297 => ?_)
  obtain ⟨rfl, rfl⟩ := h1297
  refine z_if_eq_f (tgt := 29) b dX12_debt_4 (by decide) (by decide) ?_
  refine z_iload_n b dX12_debt_7 rfl rfl ?_
  refine z_calli b (z_runS (As := [.int 2]) (st := []) b (c_X12_isOne_5 S ) cf_X12_isOne wm_X12_170 ws_X12_isOne dX12_debt_8 rfl (Nat.le_of_ble_eq_true rfl) ⟨by decide, by decide, by decide, by decide⟩) (fun r1301 u1302 h1300 => ?_)
  obtain ⟨rfl, rfl⟩ := h1300
  refine z_if_eq_f (tgt := 29) b dX12_debt_11 (by decide) (by decide) ?_
  refine z_iload_n b dX12_debt_14 rfl rfl ?_
  refine z_iload_n b dX12_debt_15 rfl rfl ?_
  refine z_icmp_eq_f (tgt := 29) b dX12_debt_16 (by decide) (by decide) ?_
  refine z_iload_n b dX12_debt_19 rfl rfl ?_
  refine z_iconst (v := 0) b dX12_debt_20 (by decide) ?_
  refine z_bipush (v := 7) b dX12_debt_21 (by decide) ?_
  refine z_calli b (z_runS (As := [.int p0, .int 0, .int 7]) (st := []) b (c_X12_isIn_13 S p0 ⟨by omega, by omega⟩) cf_X12_isIn wm_X12_1 ws_X12_isIn dX12_debt_23 rfl (Nat.le_of_ble_eq_true rfl) ⟨by decide, by decide, by decide, by decide⟩) (fun r1304 u1305 h1303 => ?_)
  obtain ⟨rfl, rfl⟩ := h1303
  refine z_if_ne_t (tgt := 31) b dX12_debt_26 (by decide) (by decide) ?_
  refine z_aload_n b dX12_debt_31 rfl rfl ?_
  refine z_aload_n b dX12_debt_32 rfl rfl ?_
  refine z_get (q0 := 0) (k9 := 6) (v := .long (fl S 0)) b (mw_0 cy a S) rfl in_X12 (by decide) wf_X12_153 rfl dX12_debt_33 ?_
  refine z_eql h_l_0 ?_
  refine z_callv b (z_runV (q0 := 0) (As := [.long 1649317774848]) (st := []) b (c_X12_takes S h_a_4_7 h_a_1_7 h_a_4_6 h_a_1_6 h_a_3_6 h_a_3_2 h_a_2_2 h_a_0_2 h_a_4_3 h_a_1_3 h_a_4_5 h_a_1_5 h_a_3_5 h_a_3_7 h_a_2_1 h_a_0_1 h_a_4_2 h_a_1_2 h_a_4_1 h_a_1_1 h_a_3_1 h_a_3_3 h_a_2_0 h_a_0_0 h_i_0) cf_X12_takes (mw_0 cy a S) rfl wm_X12_174 wi_X12_takes ws_X12_takes dX12_debt_36 rfl (Nat.le_of_ble_eq_true rfl) ⟨by decide, by decide, by decide, by decide⟩) (fun u1308 h1306 => ?_)
  obtain rfl := h1306
  refine z_aload_n b dX12_debt_39 rfl rfl ?_
  refine z_get (q0 := 0) (k9 := 1) (v := .ref (a 2)) b (mw_0 cy a S) rfl in_X12 (by decide) wf_X12_17 rfl dX12_debt_40 ?_
  refine z_iconst (v := 3) b dX12_debt_43 (by decide) ?_
  refine z_iload_n b dX12_debt_44 rfl rfl ?_
  refine z_imul (v := 3) b dX12_debt_45 (by decide) ?_
  refine z_iload_n b dX12_debt_46 rfl rfl ?_
  refine z_iadd (v := 5) b dX12_debt_47 (by decide) ?_
  refine z_iload_n b dX12_debt_48 rfl rfl ?_
  refine y_iast (q0 := 2) (j := 5) b (mw_2 cy a S) (by decide) dX12_debt_49 (mwa_2 cy a S 5 p0) ?_
  refine z_aload_n b dX12_debt_50 rfl rfl ?_
  refine z_calli b (z_runV (q0 := 0) (As := []) (st := []) b (c_X12_told_11 (su S 1 5 p0) h_i_0 h_a_0_0 h_a_2_0 h_a_3_1 h_a_1_1 h_a_4_1 h_a_1_2 h_a_4_2 h_a_0_1 h_a_2_1 h_a_3_5 h_a_4_5 h_a_1_3 h_a_4_3 h_a_0_2 h_a_2_2 h_a_3_6 h_a_1_6 h_a_4_6 h_a_1_7 h_a_4_7) cf_X12_told (mw_0 cy a (su S 1 5 p0)) rfl wm_X12_178 wi_X12_told ws_X12_told dX12_debt_51 rfl (Nat.le_of_ble_eq_true rfl) ⟨by decide, by decide, by decide, by decide⟩) (fun r1358 u1359 h1357 => ?_)
  obtain ⟨rfl, rfl⟩ := h1357
  exact z_zret (u := (sl (su S 1 5 p0) 0 (((((((((((((((((((((1572912 ||| ((ar (su S 1 5 p0) 1 5) : Int32).toInt64) <<< ((1 : Int32).toInt64 &&& 63)) ||| 0) <<< ((3 : Int32).toInt64 &&& 63)) ||| 0) <<< ((1 : Int32).toInt64 &&& 63)) ||| 0) <<< ((4 : Int32).toInt64 &&& 63)) ||| 0) <<< ((2 : Int32).toInt64 &&& 63)) ||| 3) <<< ((1 : Int32).toInt64 &&& 63)) ||| 0) <<< ((3 : Int32).toInt64 &&& 63)) ||| 0) <<< ((1 : Int32).toInt64 &&& 63)) ||| 0) <<< ((3 : Int32).toInt64 &&& 63)) ||| 0) <<< ((1 : Int32).toInt64 &&& 63)) ||| 0))) b rfl (by decide) dX12_debt_54 ⟨rfl, rfl⟩ rfl (by decide) (by decide)

set_option maxHeartbeats 4000000 in
set_option maxRecDepth 100000 in
theorem c_X11_debt_23 {l : Launch} {D : va_G} {cy : Nat → ClassId} {T0 tB tE : Nat} {a : Nat → Nat} {rw : Nat → Option Nat} (S : GS) (p0 : Int32)  (hr_p0 : 8 ≤ p0.toInt ∧ p0.toInt ≤ 2147483647) : Ct l D cy T0 tB tE yX11_debt cX11_debt 4 (some .boolean) 2 41 0 0 (cw cy tE a rw S) [.ref (a 0), .int 1, .int 2, .int p0] (QI D (U := GS) (fun r u => 0 = r ∧ S = u) (cw cy tE a rw)) := by
  refine Ct.ofZ RX11 "debt" [(0, .ref (a 0)), (1, .int 1), (2, .int 2), (3, .int p0)] rfl rfl rfl rfl (Nat.le_of_ble_eq_true rfl) ?_
  intro p e R s m args below meth c A b
  refine z_iload_n b dX11_debt_0 rfl rfl ?_
  refine z_iload_n b dX11_debt_1 rfl rfl ?_
  refine z_calli b (z_runS (As := [.int 1, .int 2]) (st := []) b (c_X11_arePair_15 S ) cf_X11_arePair wm_X11_84 ws_X11_arePair dX11_debt_2 rfl (Nat.le_of_ble_eq_true rfl) ⟨by decide, by decide, by decide, by decide⟩) (fun r1361 u1362 h1360 => ?_)
  obtain ⟨rfl, rfl⟩ := h1360
  refine z_if_eq_f (tgt := 17) b dX11_debt_5 (by decide) (by decide) ?_
  refine z_iload_n b dX11_debt_8 rfl rfl ?_
  refine z_bipush (v := 7) b dX11_debt_9 (by decide) ?_
  refine z_calli b (z_runS (As := [.int p0, .int 7]) (st := []) b (c_X11_isWithin_9 S p0 ⟨by omega, by omega⟩) cf_X11_isWithin wm_X11_73 ws_X11_isWithin dX11_debt_11 rfl (Nat.le_of_ble_eq_true rfl) ⟨by decide, by decide, by decide, by decide⟩) (fun r1364 u1365 h1363 => ?_)
  obtain ⟨rfl, rfl⟩ := h1363
  refine z_if_ne_f (tgt := 19) b dX11_debt_14 (by decide) (by decide) ?_
  refine z_iconst (v := 0) b dX11_debt_17 (by decide) ?_
  exact z_zret (u := S) b rfl (by decide) dX11_debt_18 ⟨rfl, rfl⟩ rfl (by decide) (by decide)

set_option maxHeartbeats 4000000 in
set_option maxRecDepth 100000 in
theorem c_X12_debt_23 {l : Launch} {D : va_G} {cy : Nat → ClassId} {T0 tB tE : Nat} {a : Nat → Nat} (S : GS) (p0 : Int32)  (hr_p0 : 8 ≤ p0.toInt ∧ p0.toInt ≤ 2147483647) : Ct l D cy T0 tB tE yX12_debt cX12_debt 4 (some .boolean) 2 42 0 0 (mw cy a S) [.ref (a 0), .int 1, .int 2, .int p0] (QI D (U := GS) (fun r u => 0 = r ∧ S = u) (mw cy a)) := by
  refine Ct.ofZ RX12 "debt" [(0, .ref (a 0)), (1, .int 1), (2, .int 2), (3, .int p0)] rfl rfl rfl rfl (Nat.le_of_ble_eq_true rfl) ?_
  intro p e R s m args below meth c A b
  refine z_iload_n b dX12_debt_0 rfl rfl ?_
  refine z_calli b (z_runS (As := [.int 1]) (st := []) b (c_X12_isOne_4 S ) cf_X12_isOne wm_X12_170 ws_X12_isOne dX12_debt_1 rfl (Nat.le_of_ble_eq_true rfl) ⟨by decide, by decide, by decide, by decide⟩) (fun r1367 u1368 h1366 => ?_)
  obtain ⟨rfl, rfl⟩ := h1366
  refine z_if_eq_f (tgt := 29) b dX12_debt_4 (by decide) (by decide) ?_
  refine z_iload_n b dX12_debt_7 rfl rfl ?_
  refine z_calli b (z_runS (As := [.int 2]) (st := []) b (c_X12_isOne_5 S ) cf_X12_isOne wm_X12_170 ws_X12_isOne dX12_debt_8 rfl (Nat.le_of_ble_eq_true rfl) ⟨by decide, by decide, by decide, by decide⟩) (fun r1370 u1371 h1369 => ?_)
  obtain ⟨rfl, rfl⟩ := h1369
  refine z_if_eq_f (tgt := 29) b dX12_debt_11 (by decide) (by decide) ?_
  refine z_iload_n b dX12_debt_14 rfl rfl ?_
  refine z_iload_n b dX12_debt_15 rfl rfl ?_
  refine z_icmp_eq_f (tgt := 29) b dX12_debt_16 (by decide) (by decide) ?_
  refine z_iload_n b dX12_debt_19 rfl rfl ?_
  refine z_iconst (v := 0) b dX12_debt_20 (by decide) ?_
  refine z_bipush (v := 7) b dX12_debt_21 (by decide) ?_
  refine z_calli b (z_runS (As := [.int p0, .int 0, .int 7]) (st := []) b (c_X12_isIn_14 S p0 ⟨by omega, by omega⟩) cf_X12_isIn wm_X12_1 ws_X12_isIn dX12_debt_23 rfl (Nat.le_of_ble_eq_true rfl) ⟨by decide, by decide, by decide, by decide⟩) (fun r1373 u1374 h1372 => ?_)
  obtain ⟨rfl, rfl⟩ := h1372
  refine z_if_ne_f (tgt := 31) b dX12_debt_26 (by decide) (by decide) ?_
  refine z_iconst (v := 0) b dX12_debt_29 (by decide) ?_
  exact z_zret (u := S) b rfl (by decide) dX12_debt_30 ⟨rfl, rfl⟩ rfl (by decide) (by decide)

set_option maxHeartbeats 4000000 in
set_option maxRecDepth 100000 in
theorem c_X11_arePair_16 {l : Launch} {D : va_G} {cy : Nat → ClassId} {T0 tB tE : Nat} {a : Nat → Nat} {rw : Nat → Option Nat} (S : GS)   : Ct l D cy T0 tB tE yX11_arePair cX11_arePair 2 (some .boolean) 1 20 0 0 (cw cy tE a rw S) [.int 2, .int 0] (QI D (U := GS) (fun r u => 1 = r ∧ S = u) (cw cy tE a rw)) := by
  refine Ct.ofZ RX11 "arePair" [(0, .int 2), (1, .int 0)] rfl rfl rfl rfl (Nat.le_of_ble_eq_true rfl) ?_
  intro p e R s m args below meth c A b
  refine z_iload_n b dX11_arePair_0 rfl rfl ?_
  refine z_calli b (z_runS (As := [.int 2]) (st := []) b (c_X11_isPerson_5 S ) cf_X11_isPerson wm_X11_69 ws_X11_isPerson dX11_arePair_1 rfl (Nat.le_of_ble_eq_true rfl) ⟨by decide, by decide, by decide, by decide⟩) (fun r1376 u1377 h1375 => ?_)
  obtain ⟨rfl, rfl⟩ := h1375
  refine z_if_eq_f (tgt := 23) b dX11_arePair_4 (by decide) (by decide) ?_
  refine z_iload_n b dX11_arePair_7 rfl rfl ?_
  refine z_calli b (z_runS (As := [.int 0]) (st := []) b (c_X11_isPerson_3 S ) cf_X11_isPerson wm_X11_69 ws_X11_isPerson dX11_arePair_8 rfl (Nat.le_of_ble_eq_true rfl) ⟨by decide, by decide, by decide, by decide⟩) (fun r1379 u1380 h1378 => ?_)
  obtain ⟨rfl, rfl⟩ := h1378
  refine z_if_eq_f (tgt := 23) b dX11_arePair_11 (by decide) (by decide) ?_
  refine z_iload_n b dX11_arePair_14 rfl rfl ?_
  refine z_iload_n b dX11_arePair_15 rfl rfl ?_
  refine z_icmp_eq_f (tgt := 23) b dX11_arePair_16 (by decide) (by decide) ?_
  refine z_iconst (v := 1) b dX11_arePair_19 (by decide) ?_
  refine z_goto (tgt := 24) b dX11_arePair_20 (by decide) ?_
  exact z_zret (u := S) b rfl (by decide) dX11_arePair_24 ⟨rfl, rfl⟩ rfl (by decide) (by decide)

set_option maxHeartbeats 4000000 in
set_option maxRecDepth 100000 in
theorem c_X11_debt_24 {l : Launch} {D : va_G} {cy : Nat → ClassId} {T0 tB tE : Nat} {a : Nat → Nat} {rw : Nat → Option Nat} (S : GS) (p0 : Int32)  (hr_p0 : (-2147483648) ≤ p0.toInt ∧ p0.toInt ≤ (-1)) : Ct l D cy T0 tB tE yX11_debt cX11_debt 4 (some .boolean) 2 41 0 0 (cw cy tE a rw S) [.ref (a 0), .int 2, .int 0, .int p0] (QI D (U := GS) (fun r u => 0 = r ∧ S = u) (cw cy tE a rw)) := by
  refine Ct.ofZ RX11 "debt" [(0, .ref (a 0)), (1, .int 2), (2, .int 0), (3, .int p0)] rfl rfl rfl rfl (Nat.le_of_ble_eq_true rfl) ?_
  intro p e R s m args below meth c A b
  refine z_iload_n b dX11_debt_0 rfl rfl ?_
  refine z_iload_n b dX11_debt_1 rfl rfl ?_
  refine z_calli b (z_runS (As := [.int 2, .int 0]) (st := []) b (c_X11_arePair_16 S ) cf_X11_arePair wm_X11_84 ws_X11_arePair dX11_debt_2 rfl (Nat.le_of_ble_eq_true rfl) ⟨by decide, by decide, by decide, by decide⟩) (fun r1382 u1383 h1381 => ?_)
  obtain ⟨rfl, rfl⟩ := h1381
  refine z_if_eq_f (tgt := 17) b dX11_debt_5 (by decide) (by decide) ?_
  refine z_iload_n b dX11_debt_8 rfl rfl ?_
  refine z_bipush (v := 7) b dX11_debt_9 (by decide) ?_
  refine z_calli b (z_runS (As := [.int p0, .int 7]) (st := []) b (c_X11_isWithin_7 S p0 ⟨by omega, by omega⟩) cf_X11_isWithin wm_X11_73 ws_X11_isWithin dX11_debt_11 rfl (Nat.le_of_ble_eq_true rfl) ⟨by decide, by decide, by decide, by decide⟩) (fun r1385 u1386 h1384 => ?_)
  obtain ⟨rfl, rfl⟩ := h1384
  refine z_if_ne_f (tgt := 19) b dX11_debt_14 (by decide) (by decide) ?_
  refine z_iconst (v := 0) b dX11_debt_17 (by decide) ?_
  exact z_zret (u := S) b rfl (by decide) dX11_debt_18 ⟨rfl, rfl⟩ rfl (by decide) (by decide)

set_option maxHeartbeats 4000000 in
set_option maxRecDepth 100000 in
theorem c_X12_debt_24 {l : Launch} {D : va_G} {cy : Nat → ClassId} {T0 tB tE : Nat} {a : Nat → Nat} (S : GS) (p0 : Int32)  (hr_p0 : (-2147483648) ≤ p0.toInt ∧ p0.toInt ≤ (-1)) : Ct l D cy T0 tB tE yX12_debt cX12_debt 4 (some .boolean) 2 42 0 0 (mw cy a S) [.ref (a 0), .int 2, .int 0, .int p0] (QI D (U := GS) (fun r u => 0 = r ∧ S = u) (mw cy a)) := by
  refine Ct.ofZ RX12 "debt" [(0, .ref (a 0)), (1, .int 2), (2, .int 0), (3, .int p0)] rfl rfl rfl rfl (Nat.le_of_ble_eq_true rfl) ?_
  intro p e R s m args below meth c A b
  refine z_iload_n b dX12_debt_0 rfl rfl ?_
  refine z_calli b (z_runS (As := [.int 2]) (st := []) b (c_X12_isOne_5 S ) cf_X12_isOne wm_X12_170 ws_X12_isOne dX12_debt_1 rfl (Nat.le_of_ble_eq_true rfl) ⟨by decide, by decide, by decide, by decide⟩) (fun r1388 u1389 h1387 => ?_)
  obtain ⟨rfl, rfl⟩ := h1387
  refine z_if_eq_f (tgt := 29) b dX12_debt_4 (by decide) (by decide) ?_
  refine z_iload_n b dX12_debt_7 rfl rfl ?_
  refine z_calli b (z_runS (As := [.int 0]) (st := []) b (c_X12_isOne_3 S ) cf_X12_isOne wm_X12_170 ws_X12_isOne dX12_debt_8 rfl (Nat.le_of_ble_eq_true rfl) ⟨by decide, by decide, by decide, by decide⟩) (fun r1391 u1392 h1390 => ?_)
  obtain ⟨rfl, rfl⟩ := h1390
  refine z_if_eq_f (tgt := 29) b dX12_debt_11 (by decide) (by decide) ?_
  refine z_iload_n b dX12_debt_14 rfl rfl ?_
  refine z_iload_n b dX12_debt_15 rfl rfl ?_
  refine z_icmp_eq_f (tgt := 29) b dX12_debt_16 (by decide) (by decide) ?_
  refine z_iload_n b dX12_debt_19 rfl rfl ?_
  refine z_iconst (v := 0) b dX12_debt_20 (by decide) ?_
  refine z_bipush (v := 7) b dX12_debt_21 (by decide) ?_
  refine z_calli b (z_runS (As := [.int p0, .int 0, .int 7]) (st := []) b (c_X12_isIn_12 S p0 ⟨by omega, by omega⟩) cf_X12_isIn wm_X12_1 ws_X12_isIn dX12_debt_23 rfl (Nat.le_of_ble_eq_true rfl) ⟨by decide, by decide, by decide, by decide⟩) (fun r1394 u1395 h1393 => ?_)
  obtain ⟨rfl, rfl⟩ := h1393
  refine z_if_ne_f (tgt := 31) b dX12_debt_26 (by decide) (by decide) ?_
  refine z_iconst (v := 0) b dX12_debt_29 (by decide) ?_
  exact z_zret (u := S) b rfl (by decide) dX12_debt_30 ⟨rfl, rfl⟩ rfl (by decide) (by decide)

set_option maxHeartbeats 4000000 in
set_option maxRecDepth 100000 in
theorem c_X9_set_12 {l : Launch} {D : va_G} {cy : Nat → ClassId} {T0 tB tE : Nat} {a : Nat → Nat} {rw : Nat → Option Nat} (S : GS) (p0 : Int32)  (hr_p0 : 0 ≤ p0.toInt ∧ p0.toInt ≤ 7) : Ct l D cy T0 tB tE yX9_set cX9_set 3 none 0 0 0 0 (cw cy tE a rw S) [.ref (a 14), .int 16, .int p0] (QV D (U := GS) (fun u => su S 4 16 p0 = u) (cw cy tE a rw)) := by
  refine Ct.ofZ RX9 "set" [(0, .ref (a 14)), (1, .int 16), (2, .int p0)] rfl rfl rfl rfl (Nat.le_of_ble_eq_true rfl) ?_
  intro p e R s m args below meth c A b
  refine z_iload_n b dX9_set_0 rfl rfl ?_
  refine z_if_lt_f (tgt := 20) b dX9_set_1 (by decide) (by decide) ?_
  refine z_iload_n b dX9_set_4 rfl rfl ?_
  refine z_aload_n b dX9_set_5 rfl rfl ?_
  refine z_get (q0 := 14) (k9 := 0) (v := .ref (a 15)) b (cw_14 cy tE a rw S) rfl in_X9 (by decide) wf_X9_11 rfl dX9_set_6 ?_
  refine z_alen (q0 := 15) (t0 := 0) (v := 51) b (cw_15 cy tE a rw S) rfl rfl dX9_set_9 ?_
  refine z_icmp_ge_f (tgt := 20) b dX9_set_10 (by decide) (by decide) ?_
  refine z_aload_n b dX9_set_13 rfl rfl ?_
  refine z_get (q0 := 14) (k9 := 0) (v := .ref (a 15)) b (cw_14 cy tE a rw S) rfl in_X9 (by decide) wf_X9_11 rfl dX9_set_14 ?_
  refine z_iload_n b dX9_set_17 rfl rfl ?_
  refine z_iload_n b dX9_set_18 rfl rfl ?_
  refine y_iast (q0 := 15) (j := 16) b (cw_15 cy tE a rw S) (by decide) dX9_set_19 (cwa_15 cy tE a rw S 16 p0) ?_
  exact z_vret (u := (su S 4 16 p0)) b rfl dX9_set_20 rfl rfl (by decide) (by decide)

set_option maxHeartbeats 4000000 in
set_option maxRecDepth 100000 in
theorem c_X11_debt_25 {l : Launch} {D : va_G} {cy : Nat → ClassId} {T0 tB tE : Nat} {a : Nat → Nat} {rw : Nat → Option Nat} (S : GS) (p0 : Int32) (h_i_24 : fi S 24 = 0) (hr_p0 : 0 ≤ p0.toInt ∧ p0.toInt ≤ 7) : Ct l D cy T0 tB tE yX11_debt cX11_debt 4 (some .boolean) 2 41 0 0 (cw cy tE a rw S) [.ref (a 0), .int 2, .int 0, .int p0] (QI D (U := GS) (fun r u => 1 = r ∧ (su S 4 16 p0) = u) (cw cy tE a rw)) := by
  refine Ct.ofZ RX11 "debt" [(0, .ref (a 0)), (1, .int 2), (2, .int 0), (3, .int p0)] rfl rfl rfl rfl (Nat.le_of_ble_eq_true rfl) ?_
  intro p e R s m args below meth c A b
  refine z_iload_n b dX11_debt_0 rfl rfl ?_
  refine z_iload_n b dX11_debt_1 rfl rfl ?_
  refine z_calli b (z_runS (As := [.int 2, .int 0]) (st := []) b (c_X11_arePair_16 S ) cf_X11_arePair wm_X11_84 ws_X11_arePair dX11_debt_2 rfl (Nat.le_of_ble_eq_true rfl) ⟨by decide, by decide, by decide, by decide⟩) (fun r1397 u1398 h1396 => ?_)
  obtain ⟨rfl, rfl⟩ := h1396
  refine z_if_eq_f (tgt := 17) b dX11_debt_5 (by decide) (by decide) ?_
  refine z_iload_n b dX11_debt_8 rfl rfl ?_
  refine z_bipush (v := 7) b dX11_debt_9 (by decide) ?_
  refine z_calli b (z_runS (As := [.int p0, .int 7]) (st := []) b (c_X11_isWithin_8 S p0 ⟨by omega, by omega⟩) cf_X11_isWithin wm_X11_73 ws_X11_isWithin dX11_debt_11 rfl (Nat.le_of_ble_eq_true rfl) ⟨by decide, by decide, by decide, by decide⟩) (fun r1400 u1401 h1399 => ?_)
  obtain ⟨rfl, rfl⟩ := h1399
  refine z_if_ne_t (tgt := 19) b dX11_debt_14 (by decide) (by decide) ?_
  refine z_aload_n b dX11_debt_19 rfl rfl ?_
  refine z_get (q0 := 0) (k9 := 4) (v := .ref (a 14)) b (cw_0 cy tE a rw S) rfl in_X11 (by decide) wf_X11_34 rfl dX11_debt_20 ?_
  refine z_bipush (v := 10) b dX11_debt_23 (by decide) ?_
  refine z_iconst (v := 3) b dX11_debt_25 (by decide) ?_
  refine z_iload_n b dX11_debt_26 rfl rfl ?_
  refine z_imul (v := 6) b dX11_debt_27 (by decide) ?_
  refine z_iadd (v := 16) b dX11_debt_28 (by decide) ?_
  refine z_iload_n b dX11_debt_29 rfl rfl ?_
  refine z_iadd (v := 16) b dX11_debt_30 (by decide) ?_
  refine z_iload_n b dX11_debt_31 rfl rfl ?_
  refine z_callv b (z_runV (q0 := 14) (As := [.int 16, .int p0]) (st := []) b (c_X9_set_12 S p0 ⟨by omega, by omega⟩) cf_X9_set (cw_14 cy tE a rw S) rfl wm_X11_77 wi_X9_set ws_X9_set dX11_debt_32 rfl (Nat.le_of_ble_eq_true rfl) ⟨by decide, by decide, by decide, by decide⟩) (fun u1404 h1402 => ?_)
  obtain rfl := h1402
  refine z_aload_n b dX11_debt_35 rfl rfl ?_
  refine z_get (q0 := 0) (k9 := 6) (v := .ref (a 25)) b (cw_0 cy tE a rw (su S 4 16 p0)) rfl in_X11 (by decide) wf_X11_52 rfl dX11_debt_36 ?_
  refine z_callv b (z_runV (q0 := 25) (As := []) (st := []) b (c_X8_forget (su S 4 16 p0) h_i_24) cf_X8_forget (cw_25 cy tE a rw (su S 4 16 p0)) rfl wm_X11_81 wi_X8_forget ws_X8_forget dX11_debt_39 rfl (Nat.le_of_ble_eq_true rfl) ⟨by decide, by decide, by decide, by decide⟩) (fun u1407 h1405 => ?_)
  obtain rfl := h1405
  refine z_iconst (v := 1) b dX11_debt_42 (by decide) ?_
  exact z_zret (u := (su S 4 16 p0)) b rfl (by decide) dX11_debt_43 ⟨rfl, rfl⟩ rfl (by decide) (by decide)

set_option maxHeartbeats 4000000 in
set_option maxRecDepth 100000 in
theorem ch_X12_packs_26 {p : Program} {l : Launch} {e : Env} {R : Room} {s : State} {m : MethodId} {args : Array Value} {below : List Frame} {meth : Method} {c : Code} {D : va_G} {cy : Nat → ClassId} {T0 tB tE : Nat} {A : Nat → Prop} {Q : State → Prop} {a : Nat → Nat} (S : GS)  (h_a_0_0 : ar S 0 0 = 0) (h_a_1_1 : ar S 1 1 = 0) (h_a_1_2 : ar S 1 2 = 0) (h_a_2_0 : ar S 2 0 = 3) (h_a_3_1 : ar S 3 1 = 0) (h_a_4_1 : ar S 4 1 = 0) (h_a_4_2 : ar S 4 2 = 0) (h_i_0 : fi S 0 = 0) (b : Bz p R s m args meth c D cy T0 tB tE A 5 cX12_packs RX12 (some .long) "packs" 1 21 0 0) (k : Z p l e R s m args below meth c D A 5 Q 0 0 (mw cy a S) [(3, .int 1), (4, .int 2), (1, .long 1536), (0, .ref (a 0))] 21 [.int 1, .ref (a 1), .long 24576]) : Z p l e R s m args below meth c D A 5 Q 0 0 (mw cy a S) [(0, .ref (a 0))] 0 [] := by
  refine z_aload_n b dX12_packs_0 rfl rfl ?_
  refine z_get (q0 := 0) (k9 := 5) (v := .int (fi S 0)) b (mw_0 cy a S) rfl in_X12 (by decide) wf_X12_157 rfl dX12_packs_1 ?_
  refine z_eqi h_i_0 ?_
  refine z_i2l (v := 0) b dX12_packs_4 (by decide) ?_
  refine z_lstore_n (lv' := [(1, .long 0), (0, .ref (a 0))]) b dX12_packs_5 rfl (by decide) rfl ?_
  refine z_iconst (v := 0) b dX12_packs_6 (by decide) ?_
  refine z_istore_n (lv' := [(3, .int 0), (1, .long 0), (0, .ref (a 0))]) b dX12_packs_7 rfl (by decide) rfl ?_
  refine z_iload_n b dX12_packs_8 rfl rfl ?_
  refine z_iconst (v := 3) b dX12_packs_9 (by decide) ?_
  refine z_icmp_ge_f (tgt := 134) b dX12_packs_10 (by decide) (by decide) ?_
  refine z_lload_n b dX12_packs_13 rfl rfl ?_
  refine z_iconst (v := 4) b dX12_packs_14 (by decide) ?_
  refine z_lshl (v := 0) b dX12_packs_15 (by decide) ?_
  refine z_aload_n b dX12_packs_16 rfl rfl ?_
  refine z_get (q0 := 0) (k9 := 0) (v := .ref (a 1)) b (mw_0 cy a S) rfl in_X12 (by decide) wf_X12_13 rfl dX12_packs_17 ?_
  refine z_iload_n b dX12_packs_20 rfl rfl ?_
  refine y_iald (q0 := 1) (j := 0) (v := (ar S 0 0)) b (mw_1 cy a S) (by decide) rfl dX12_packs_21 ?_
  refine z_eqi h_a_0_0 ?_
  refine z_i2l (v := 0) b dX12_packs_22 (by decide) ?_
  refine z_lor (v := 0) b dX12_packs_23 (by decide) ?_
  refine z_lstore_n (lv' := [(1, .long 0), (3, .int 0), (0, .ref (a 0))]) b dX12_packs_24 rfl (by decide) rfl ?_
  refine z_lload_n b dX12_packs_25 rfl rfl ?_
  refine z_iconst (v := 2) b dX12_packs_26 (by decide) ?_
  refine z_lshl (v := 0) b dX12_packs_27 (by decide) ?_
  refine z_aload_n b dX12_packs_28 rfl rfl ?_
  refine z_get (q0 := 0) (k9 := 2) (v := .ref (a 3)) b (mw_0 cy a S) rfl in_X12 (by decide) wf_X12_20 rfl dX12_packs_29 ?_
  refine z_iload_n b dX12_packs_32 rfl rfl ?_
  refine y_iald (q0 := 3) (j := 0) (v := (ar S 2 0)) b (mw_3 cy a S) (by decide) rfl dX12_packs_33 ?_
  refine z_eqi h_a_2_0 ?_
  refine z_i2l (v := 3) b dX12_packs_34 (by decide) ?_
  refine z_lor (v := 3) b dX12_packs_35 (by decide) ?_
  refine z_lstore_n (lv' := [(1, .long 3), (3, .int 0), (0, .ref (a 0))]) b dX12_packs_36 rfl (by decide) rfl ?_
  refine z_lload_n b dX12_packs_37 rfl rfl ?_
  refine z_iconst (v := 1) b dX12_packs_38 (by decide) ?_
  refine z_lshl (v := 6) b dX12_packs_39 (by decide) ?_
  refine z_aload_n b dX12_packs_40 rfl rfl ?_
  refine z_get (q0 := 0) (k9 := 3) (v := .ref (a 4)) b (mw_0 cy a S) rfl in_X12 (by decide) wf_X12_23 rfl dX12_packs_41 ?_
  refine z_iconst (v := 3) b dX12_packs_44 (by decide) ?_
  refine z_iload_n b dX12_packs_45 rfl rfl ?_
  refine z_imul (v := 0) b dX12_packs_46 (by decide) ?_
  refine z_iload_n b dX12_packs_47 rfl rfl ?_
  refine z_iconst (v := 0) b dX12_packs_48 (by decide) ?_
  refine z_calli b (z_runS (As := [.int 0, .int 0]) (st := [.int 0, .ref (a 4), .long 6]) b (c_X12_other_6 S ) cf_X12_other wm_X12_160 ws_X12_other dX12_packs_49 rfl (Nat.le_of_ble_eq_true rfl) ⟨by decide, by decide, by decide, by decide⟩) (fun r1421 u1422 h1420 => ?_)
  obtain ⟨rfl, rfl⟩ := h1420
  refine z_iadd (v := 1) b dX12_packs_52 (by decide) ?_
  refine y_zald (q0 := 4) (j := 1) (v := (ar S 3 1)) b (mw_4 cy a S) (by decide) rfl dX12_packs_53 ?_
  refine z_eqi h_a_3_1 ?_
  refine z_if_eq_t (tgt := 61) b dX12_packs_54 (by decide) (by decide) ?_
  refine z_lconst (v := 0) b dX12_packs_61 (by decide) ?_
  refine z_lor (v := 6) b dX12_packs_62 (by decide) ?_
  refine z_lstore_n (lv' := [(1, .long 6), (3, .int 0), (0, .ref (a 0))]) b dX12_packs_63 rfl (by decide) rfl ?_
  refine z_iconst (v := 0) b dX12_packs_64 (by decide) ?_
  refine z_istore (lv' := [(4, .int 0), (1, .long 6), (3, .int 0), (0, .ref (a 0))]) b dX12_packs_65 (by decide) rfl ?_
  refine z_iload b dX12_packs_67 rfl ?_
  refine z_iconst (v := 2) b dX12_packs_69 (by decide) ?_
  refine z_icmp_ge_f (tgt := 128) b dX12_packs_70 (by decide) (by decide) ?_
  refine z_lload_n b dX12_packs_73 rfl rfl ?_
  refine z_iconst (v := 3) b dX12_packs_74 (by decide) ?_
  refine z_lshl (v := 48) b dX12_packs_75 (by decide) ?_
  refine z_aload_n b dX12_packs_76 rfl rfl ?_
  refine z_get (q0 := 0) (k9 := 1) (v := .ref (a 2)) b (mw_0 cy a S) rfl in_X12 (by decide) wf_X12_17 rfl dX12_packs_77 ?_
  refine z_iconst (v := 3) b dX12_packs_80 (by decide) ?_
  refine z_iload_n b dX12_packs_81 rfl rfl ?_
  refine z_imul (v := 0) b dX12_packs_82 (by decide) ?_
  refine z_iload_n b dX12_packs_83 rfl rfl ?_
  refine z_iload b dX12_packs_84 rfl ?_
  refine z_calli b (z_runS (As := [.int 0, .int 0]) (st := [.int 0, .ref (a 2), .long 48]) b (c_X12_other_6 S ) cf_X12_other wm_X12_160 ws_X12_other dX12_packs_86 rfl (Nat.le_of_ble_eq_true rfl) ⟨by decide, by decide, by decide, by decide⟩) (fun r1424 u1425 h1423 => ?_)
  obtain ⟨rfl, rfl⟩ := h1423
  refine z_iadd (v := 1) b dX12_packs_89 (by decide) ?_
  refine y_iald (q0 := 2) (j := 1) (v := (ar S 1 1)) b (mw_2 cy a S) (by decide) rfl dX12_packs_90 ?_
  refine z_eqi h_a_1_1 ?_
  refine z_i2l (v := 0) b dX12_packs_91 (by decide) ?_
  refine z_lor (v := 48) b dX12_packs_92 (by decide) ?_
  refine z_lstore_n (lv' := [(1, .long 48), (4, .int 0), (3, .int 0), (0, .ref (a 0))]) b dX12_packs_93 rfl (by decide) rfl ?_
  refine z_lload_n b dX12_packs_94 rfl rfl ?_
  refine z_iconst (v := 1) b dX12_packs_95 (by decide) ?_
  refine z_lshl (v := 96) b dX12_packs_96 (by decide) ?_
  refine z_aload_n b dX12_packs_97 rfl rfl ?_
  refine z_get (q0 := 0) (k9 := 4) (v := .ref (a 5)) b (mw_0 cy a S) rfl in_X12 (by decide) wf_X12_27 rfl dX12_packs_98 ?_
  refine z_iconst (v := 3) b dX12_packs_101 (by decide) ?_
  refine z_iload_n b dX12_packs_102 rfl rfl ?_
  refine z_imul (v := 0) b dX12_packs_103 (by decide) ?_
  refine z_iload_n b dX12_packs_104 rfl rfl ?_
  refine z_iload b dX12_packs_105 rfl ?_
  refine z_calli b (z_runS (As := [.int 0, .int 0]) (st := [.int 0, .ref (a 5), .long 96]) b (c_X12_other_6 S ) cf_X12_other wm_X12_160 ws_X12_other dX12_packs_107 rfl (Nat.le_of_ble_eq_true rfl) ⟨by decide, by decide, by decide, by decide⟩) (fun r1427 u1428 h1426 => ?_)
  obtain ⟨rfl, rfl⟩ := h1426
  refine z_iadd (v := 1) b dX12_packs_110 (by decide) ?_
  refine y_zald (q0 := 5) (j := 1) (v := (ar S 4 1)) b (mw_5 cy a S) (by decide) rfl dX12_packs_111 ?_
  refine z_eqi h_a_4_1 ?_
  refine z_if_eq_t (tgt := 119) b dX12_packs_112 (by decide) (by decide) ?_
  refine z_lconst (v := 0) b dX12_packs_119 (by decide) ?_
  refine z_lor (v := 96) b dX12_packs_120 (by decide) ?_
  refine z_lstore_n (lv' := [(1, .long 96), (4, .int 0), (3, .int 0), (0, .ref (a 0))]) b dX12_packs_121 rfl (by decide) rfl ?_
  refine z_iinc (k9 := 1) (v := 1) (lv' := [(4, .int 1), (1, .long 96), (3, .int 0), (0, .ref (a 0))]) b dX12_packs_122 rfl (by decide) (by decide) rfl ?_
  refine z_goto (tgt := 67) b dX12_packs_125 (by decide) ?_
  refine z_iload b dX12_packs_67 rfl ?_
  refine z_iconst (v := 2) b dX12_packs_69 (by decide) ?_
  refine z_icmp_ge_f (tgt := 128) b dX12_packs_70 (by decide) (by decide) ?_
  refine z_lload_n b dX12_packs_73 rfl rfl ?_
  refine z_iconst (v := 3) b dX12_packs_74 (by decide) ?_
  refine z_lshl (v := 768) b dX12_packs_75 (by decide) ?_
  refine z_aload_n b dX12_packs_76 rfl rfl ?_
  refine z_get (q0 := 0) (k9 := 1) (v := .ref (a 2)) b (mw_0 cy a S) rfl in_X12 (by decide) wf_X12_17 rfl dX12_packs_77 ?_
  refine z_iconst (v := 3) b dX12_packs_80 (by decide) ?_
  refine z_iload_n b dX12_packs_81 rfl rfl ?_
  refine z_imul (v := 0) b dX12_packs_82 (by decide) ?_
  refine z_iload_n b dX12_packs_83 rfl rfl ?_
  refine z_iload b dX12_packs_84 rfl ?_
  refine z_calli b (z_runS (As := [.int 0, .int 1]) (st := [.int 0, .ref (a 2), .long 768]) b (c_X12_other_5 S ) cf_X12_other wm_X12_160 ws_X12_other dX12_packs_86 rfl (Nat.le_of_ble_eq_true rfl) ⟨by decide, by decide, by decide, by decide⟩) (fun r1430 u1431 h1429 => ?_)
  obtain ⟨rfl, rfl⟩ := h1429
  refine z_iadd (v := 2) b dX12_packs_89 (by decide) ?_
  refine y_iald (q0 := 2) (j := 2) (v := (ar S 1 2)) b (mw_2 cy a S) (by decide) rfl dX12_packs_90 ?_
  refine z_eqi h_a_1_2 ?_
  refine z_i2l (v := 0) b dX12_packs_91 (by decide) ?_
  refine z_lor (v := 768) b dX12_packs_92 (by decide) ?_
  refine z_lstore_n (lv' := [(1, .long 768), (4, .int 1), (3, .int 0), (0, .ref (a 0))]) b dX12_packs_93 rfl (by decide) rfl ?_
  refine z_lload_n b dX12_packs_94 rfl rfl ?_
  refine z_iconst (v := 1) b dX12_packs_95 (by decide) ?_
  refine z_lshl (v := 1536) b dX12_packs_96 (by decide) ?_
  refine z_aload_n b dX12_packs_97 rfl rfl ?_
  refine z_get (q0 := 0) (k9 := 4) (v := .ref (a 5)) b (mw_0 cy a S) rfl in_X12 (by decide) wf_X12_27 rfl dX12_packs_98 ?_
  refine z_iconst (v := 3) b dX12_packs_101 (by decide) ?_
  refine z_iload_n b dX12_packs_102 rfl rfl ?_
  refine z_imul (v := 0) b dX12_packs_103 (by decide) ?_
  refine z_iload_n b dX12_packs_104 rfl rfl ?_
  refine z_iload b dX12_packs_105 rfl ?_
  refine z_calli b (z_runS (As := [.int 0, .int 1]) (st := [.int 0, .ref (a 5), .long 1536]) b (c_X12_other_5 S ) cf_X12_other wm_X12_160 ws_X12_other dX12_packs_107 rfl (Nat.le_of_ble_eq_true rfl) ⟨by decide, by decide, by decide, by decide⟩) (fun r1433 u1434 h1432 => ?_)
  obtain ⟨rfl, rfl⟩ := h1432
  refine z_iadd (v := 2) b dX12_packs_110 (by decide) ?_
  refine y_zald (q0 := 5) (j := 2) (v := (ar S 4 2)) b (mw_5 cy a S) (by decide) rfl dX12_packs_111 ?_
  refine z_eqi h_a_4_2 ?_
  refine z_if_eq_t (tgt := 119) b dX12_packs_112 (by decide) (by decide) ?_
  refine z_lconst (v := 0) b dX12_packs_119 (by decide) ?_
  refine z_lor (v := 1536) b dX12_packs_120 (by decide) ?_
  refine z_lstore_n (lv' := [(1, .long 1536), (4, .int 1), (3, .int 0), (0, .ref (a 0))]) b dX12_packs_121 rfl (by decide) rfl ?_
  refine z_iinc (k9 := 1) (v := 2) (lv' := [(4, .int 2), (1, .long 1536), (3, .int 0), (0, .ref (a 0))]) b dX12_packs_122 rfl (by decide) (by decide) rfl ?_
  refine z_goto (tgt := 67) b dX12_packs_125 (by decide) ?_
  refine z_iload b dX12_packs_67 rfl ?_
  refine z_iconst (v := 2) b dX12_packs_69 (by decide) ?_
  refine z_icmp_ge_t (tgt := 128) b dX12_packs_70 (by decide) (by decide) ?_
  refine z_iinc (k9 := 2) (v := 1) (lv' := [(3, .int 1), (4, .int 2), (1, .long 1536), (0, .ref (a 0))]) b dX12_packs_128 rfl (by decide) (by decide) rfl ?_
  refine z_goto (tgt := 8) b dX12_packs_131 (by decide) ?_
  refine z_iload_n b dX12_packs_8 rfl rfl ?_
  refine z_iconst (v := 3) b dX12_packs_9 (by decide) ?_
  refine z_icmp_ge_f (tgt := 134) b dX12_packs_10 (by decide) (by decide) ?_
  refine z_lload_n b dX12_packs_13 rfl rfl ?_
  refine z_iconst (v := 4) b dX12_packs_14 (by decide) ?_
  refine z_lshl (v := 24576) b dX12_packs_15 (by decide) ?_
  refine z_aload_n b dX12_packs_16 rfl rfl ?_
  refine z_get (q0 := 0) (k9 := 0) (v := .ref (a 1)) b (mw_0 cy a S) rfl in_X12 (by decide) wf_X12_13 rfl dX12_packs_17 ?_
  refine z_iload_n b dX12_packs_20 rfl rfl ?_
  exact k

set_option maxHeartbeats 4000000 in
set_option maxRecDepth 100000 in
theorem ch_X12_packs_27 {p : Program} {l : Launch} {e : Env} {R : Room} {s : State} {m : MethodId} {args : Array Value} {below : List Frame} {meth : Method} {c : Code} {D : va_G} {cy : Nat → ClassId} {T0 tB tE : Nat} {A : Nat → Prop} {Q : State → Prop} {a : Nat → Nat} (S : GS)  (h_a_0_1 : ar S 0 1 = 0) (h_a_0_2 : ar S 0 2 = 0) (h_a_1_3 : ar S 1 3 = 0) (h_a_1_5 : ar S 1 5 = 0) (h_a_2_1 : ar S 2 1 = 3) (h_a_2_2 : ar S 2 2 = 3) (h_a_3_5 : ar S 3 5 = 0) (h_a_4_3 : ar S 4 3 = 0) (h_a_4_5 : ar S 4 5 = 0) (b : Bz p R s m args meth c D cy T0 tB tE A 5 cX12_packs RX12 (some .long) "packs" 1 21 0 0) (k : Z p l e R s m args below meth c D A 5 Q 0 0 (mw cy a S) [(1, .long 3221323779), (3, .int 2), (4, .int 2), (0, .ref (a 0))] 37 []) : Z p l e R s m args below meth c D A 5 Q 0 0 (mw cy a S) [(3, .int 1), (4, .int 2), (1, .long 1536), (0, .ref (a 0))] 21 [.int 1, .ref (a 1), .long 24576] := by
  refine y_iald (q0 := 1) (j := 1) (v := (ar S 0 1)) b (mw_1 cy a S) (by decide) rfl dX12_packs_21 ?_
  refine z_eqi h_a_0_1 ?_
  refine z_i2l (v := 0) b dX12_packs_22 (by decide) ?_
  refine z_lor (v := 24576) b dX12_packs_23 (by decide) ?_
  refine z_lstore_n (lv' := [(1, .long 24576), (3, .int 1), (4, .int 2), (0, .ref (a 0))]) b dX12_packs_24 rfl (by decide) rfl ?_
  refine z_lload_n b dX12_packs_25 rfl rfl ?_
  refine z_iconst (v := 2) b dX12_packs_26 (by decide) ?_
  refine z_lshl (v := 98304) b dX12_packs_27 (by decide) ?_
  refine z_aload_n b dX12_packs_28 rfl rfl ?_
  refine z_get (q0 := 0) (k9 := 2) (v := .ref (a 3)) b (mw_0 cy a S) rfl in_X12 (by decide) wf_X12_20 rfl dX12_packs_29 ?_
  refine z_iload_n b dX12_packs_32 rfl rfl ?_
  refine y_iald (q0 := 3) (j := 1) (v := (ar S 2 1)) b (mw_3 cy a S) (by decide) rfl dX12_packs_33 ?_
  refine z_eqi h_a_2_1 ?_
  refine z_i2l (v := 3) b dX12_packs_34 (by decide) ?_
  refine z_lor (v := 98307) b dX12_packs_35 (by decide) ?_
  refine z_lstore_n (lv' := [(1, .long 98307), (3, .int 1), (4, .int 2), (0, .ref (a 0))]) b dX12_packs_36 rfl (by decide) rfl ?_
  refine z_lload_n b dX12_packs_37 rfl rfl ?_
  refine z_iconst (v := 1) b dX12_packs_38 (by decide) ?_
  refine z_lshl (v := 196614) b dX12_packs_39 (by decide) ?_
  refine z_aload_n b dX12_packs_40 rfl rfl ?_
  refine z_get (q0 := 0) (k9 := 3) (v := .ref (a 4)) b (mw_0 cy a S) rfl in_X12 (by decide) wf_X12_23 rfl dX12_packs_41 ?_
  refine z_iconst (v := 3) b dX12_packs_44 (by decide) ?_
  refine z_iload_n b dX12_packs_45 rfl rfl ?_
  refine z_imul (v := 3) b dX12_packs_46 (by decide) ?_
  refine z_iload_n b dX12_packs_47 rfl rfl ?_
  refine z_iconst (v := 0) b dX12_packs_48 (by decide) ?_
  refine z_calli b (z_runS (As := [.int 1, .int 0]) (st := [.int 3, .ref (a 4), .long 196614]) b (c_X12_other_4 S ) cf_X12_other wm_X12_160 ws_X12_other dX12_packs_49 rfl (Nat.le_of_ble_eq_true rfl) ⟨by decide, by decide, by decide, by decide⟩) (fun r1436 u1437 h1435 => ?_)
  obtain ⟨rfl, rfl⟩ := h1435
  refine z_iadd (v := 5) b dX12_packs_52 (by decide) ?_
  refine y_zald (q0 := 4) (j := 5) (v := (ar S 3 5)) b (mw_4 cy a S) (by decide) rfl dX12_packs_53 ?_
  refine z_eqi h_a_3_5 ?_
  refine z_if_eq_t (tgt := 61) b dX12_packs_54 (by decide) (by decide) ?_
  refine z_lconst (v := 0) b dX12_packs_61 (by decide) ?_
  refine z_lor (v := 196614) b dX12_packs_62 (by decide) ?_
  refine z_lstore_n (lv' := [(1, .long 196614), (3, .int 1), (4, .int 2), (0, .ref (a 0))]) b dX12_packs_63 rfl (by decide) rfl ?_
  refine z_iconst (v := 0) b dX12_packs_64 (by decide) ?_
  refine z_istore (lv' := [(4, .int 0), (1, .long 196614), (3, .int 1), (0, .ref (a 0))]) b dX12_packs_65 (by decide) rfl ?_
  refine z_iload b dX12_packs_67 rfl ?_
  refine z_iconst (v := 2) b dX12_packs_69 (by decide) ?_
  refine z_icmp_ge_f (tgt := 128) b dX12_packs_70 (by decide) (by decide) ?_
  refine z_lload_n b dX12_packs_73 rfl rfl ?_
  refine z_iconst (v := 3) b dX12_packs_74 (by decide) ?_
  refine z_lshl (v := 1572912) b dX12_packs_75 (by decide) ?_
  refine z_aload_n b dX12_packs_76 rfl rfl ?_
  refine z_get (q0 := 0) (k9 := 1) (v := .ref (a 2)) b (mw_0 cy a S) rfl in_X12 (by decide) wf_X12_17 rfl dX12_packs_77 ?_
  refine z_iconst (v := 3) b dX12_packs_80 (by decide) ?_
  refine z_iload_n b dX12_packs_81 rfl rfl ?_
  refine z_imul (v := 3) b dX12_packs_82 (by decide) ?_
  refine z_iload_n b dX12_packs_83 rfl rfl ?_
  refine z_iload b dX12_packs_84 rfl ?_
  refine z_calli b (z_runS (As := [.int 1, .int 0]) (st := [.int 3, .ref (a 2), .long 1572912]) b (c_X12_other_4 S ) cf_X12_other wm_X12_160 ws_X12_other dX12_packs_86 rfl (Nat.le_of_ble_eq_true rfl) ⟨by decide, by decide, by decide, by decide⟩) (fun r1439 u1440 h1438 => ?_)
  obtain ⟨rfl, rfl⟩ := h1438
  refine z_iadd (v := 5) b dX12_packs_89 (by decide) ?_
  refine y_iald (q0 := 2) (j := 5) (v := (ar S 1 5)) b (mw_2 cy a S) (by decide) rfl dX12_packs_90 ?_
  refine z_eqi h_a_1_5 ?_
  refine z_i2l (v := 0) b dX12_packs_91 (by decide) ?_
  refine z_lor (v := 1572912) b dX12_packs_92 (by decide) ?_
  refine z_lstore_n (lv' := [(1, .long 1572912), (4, .int 0), (3, .int 1), (0, .ref (a 0))]) b dX12_packs_93 rfl (by decide) rfl ?_
  refine z_lload_n b dX12_packs_94 rfl rfl ?_
  refine z_iconst (v := 1) b dX12_packs_95 (by decide) ?_
  refine z_lshl (v := 3145824) b dX12_packs_96 (by decide) ?_
  refine z_aload_n b dX12_packs_97 rfl rfl ?_
  refine z_get (q0 := 0) (k9 := 4) (v := .ref (a 5)) b (mw_0 cy a S) rfl in_X12 (by decide) wf_X12_27 rfl dX12_packs_98 ?_
  refine z_iconst (v := 3) b dX12_packs_101 (by decide) ?_
  refine z_iload_n b dX12_packs_102 rfl rfl ?_
  refine z_imul (v := 3) b dX12_packs_103 (by decide) ?_
  refine z_iload_n b dX12_packs_104 rfl rfl ?_
  refine z_iload b dX12_packs_105 rfl ?_
  refine z_calli b (z_runS (As := [.int 1, .int 0]) (st := [.int 3, .ref (a 5), .long 3145824]) b (c_X12_other_4 S ) cf_X12_other wm_X12_160 ws_X12_other dX12_packs_107 rfl (Nat.le_of_ble_eq_true rfl) ⟨by decide, by decide, by decide, by decide⟩) (fun r1442 u1443 h1441 => ?_)
  obtain ⟨rfl, rfl⟩ := h1441
  refine z_iadd (v := 5) b dX12_packs_110 (by decide) ?_
  refine y_zald (q0 := 5) (j := 5) (v := (ar S 4 5)) b (mw_5 cy a S) (by decide) rfl dX12_packs_111 ?_
  refine z_eqi h_a_4_5 ?_
  refine z_if_eq_t (tgt := 119) b dX12_packs_112 (by decide) (by decide) ?_
  refine z_lconst (v := 0) b dX12_packs_119 (by decide) ?_
  refine z_lor (v := 3145824) b dX12_packs_120 (by decide) ?_
  refine z_lstore_n (lv' := [(1, .long 3145824), (4, .int 0), (3, .int 1), (0, .ref (a 0))]) b dX12_packs_121 rfl (by decide) rfl ?_
  refine z_iinc (k9 := 1) (v := 1) (lv' := [(4, .int 1), (1, .long 3145824), (3, .int 1), (0, .ref (a 0))]) b dX12_packs_122 rfl (by decide) (by decide) rfl ?_
  refine z_goto (tgt := 67) b dX12_packs_125 (by decide) ?_
  refine z_iload b dX12_packs_67 rfl ?_
  refine z_iconst (v := 2) b dX12_packs_69 (by decide) ?_
  refine z_icmp_ge_f (tgt := 128) b dX12_packs_70 (by decide) (by decide) ?_
  refine z_lload_n b dX12_packs_73 rfl rfl ?_
  refine z_iconst (v := 3) b dX12_packs_74 (by decide) ?_
  refine z_lshl (v := 25166592) b dX12_packs_75 (by decide) ?_
  refine z_aload_n b dX12_packs_76 rfl rfl ?_
  refine z_get (q0 := 0) (k9 := 1) (v := .ref (a 2)) b (mw_0 cy a S) rfl in_X12 (by decide) wf_X12_17 rfl dX12_packs_77 ?_
  refine z_iconst (v := 3) b dX12_packs_80 (by decide) ?_
  refine z_iload_n b dX12_packs_81 rfl rfl ?_
  refine z_imul (v := 3) b dX12_packs_82 (by decide) ?_
  refine z_iload_n b dX12_packs_83 rfl rfl ?_
  refine z_iload b dX12_packs_84 rfl ?_
  refine z_calli b (z_runS (As := [.int 1, .int 1]) (st := [.int 3, .ref (a 2), .long 25166592]) b (c_X12_other_3 S ) cf_X12_other wm_X12_160 ws_X12_other dX12_packs_86 rfl (Nat.le_of_ble_eq_true rfl) ⟨by decide, by decide, by decide, by decide⟩) (fun r1445 u1446 h1444 => ?_)
  obtain ⟨rfl, rfl⟩ := h1444
  refine z_iadd (v := 3) b dX12_packs_89 (by decide) ?_
  refine y_iald (q0 := 2) (j := 3) (v := (ar S 1 3)) b (mw_2 cy a S) (by decide) rfl dX12_packs_90 ?_
  refine z_eqi h_a_1_3 ?_
  refine z_i2l (v := 0) b dX12_packs_91 (by decide) ?_
  refine z_lor (v := 25166592) b dX12_packs_92 (by decide) ?_
  refine z_lstore_n (lv' := [(1, .long 25166592), (4, .int 1), (3, .int 1), (0, .ref (a 0))]) b dX12_packs_93 rfl (by decide) rfl ?_
  refine z_lload_n b dX12_packs_94 rfl rfl ?_
  refine z_iconst (v := 1) b dX12_packs_95 (by decide) ?_
  refine z_lshl (v := 50333184) b dX12_packs_96 (by decide) ?_
  refine z_aload_n b dX12_packs_97 rfl rfl ?_
  refine z_get (q0 := 0) (k9 := 4) (v := .ref (a 5)) b (mw_0 cy a S) rfl in_X12 (by decide) wf_X12_27 rfl dX12_packs_98 ?_
  refine z_iconst (v := 3) b dX12_packs_101 (by decide) ?_
  refine z_iload_n b dX12_packs_102 rfl rfl ?_
  refine z_imul (v := 3) b dX12_packs_103 (by decide) ?_
  refine z_iload_n b dX12_packs_104 rfl rfl ?_
  refine z_iload b dX12_packs_105 rfl ?_
  refine z_calli b (z_runS (As := [.int 1, .int 1]) (st := [.int 3, .ref (a 5), .long 50333184]) b (c_X12_other_3 S ) cf_X12_other wm_X12_160 ws_X12_other dX12_packs_107 rfl (Nat.le_of_ble_eq_true rfl) ⟨by decide, by decide, by decide, by decide⟩) (fun r1448 u1449 h1447 => ?_)
  obtain ⟨rfl, rfl⟩ := h1447
  refine z_iadd (v := 3) b dX12_packs_110 (by decide) ?_
  refine y_zald (q0 := 5) (j := 3) (v := (ar S 4 3)) b (mw_5 cy a S) (by decide) rfl dX12_packs_111 ?_
  refine z_eqi h_a_4_3 ?_
  refine z_if_eq_t (tgt := 119) b dX12_packs_112 (by decide) (by decide) ?_
  refine z_lconst (v := 0) b dX12_packs_119 (by decide) ?_
  refine z_lor (v := 50333184) b dX12_packs_120 (by decide) ?_
  refine z_lstore_n (lv' := [(1, .long 50333184), (4, .int 1), (3, .int 1), (0, .ref (a 0))]) b dX12_packs_121 rfl (by decide) rfl ?_
  refine z_iinc (k9 := 1) (v := 2) (lv' := [(4, .int 2), (1, .long 50333184), (3, .int 1), (0, .ref (a 0))]) b dX12_packs_122 rfl (by decide) (by decide) rfl ?_
  refine z_goto (tgt := 67) b dX12_packs_125 (by decide) ?_
  refine z_iload b dX12_packs_67 rfl ?_
  refine z_iconst (v := 2) b dX12_packs_69 (by decide) ?_
  refine z_icmp_ge_t (tgt := 128) b dX12_packs_70 (by decide) (by decide) ?_
  refine z_iinc (k9 := 2) (v := 2) (lv' := [(3, .int 2), (4, .int 2), (1, .long 50333184), (0, .ref (a 0))]) b dX12_packs_128 rfl (by decide) (by decide) rfl ?_
  refine z_goto (tgt := 8) b dX12_packs_131 (by decide) ?_
  refine z_iload_n b dX12_packs_8 rfl rfl ?_
  refine z_iconst (v := 3) b dX12_packs_9 (by decide) ?_
  refine z_icmp_ge_f (tgt := 134) b dX12_packs_10 (by decide) (by decide) ?_
  refine z_lload_n b dX12_packs_13 rfl rfl ?_
  refine z_iconst (v := 4) b dX12_packs_14 (by decide) ?_
  refine z_lshl (v := 805330944) b dX12_packs_15 (by decide) ?_
  refine z_aload_n b dX12_packs_16 rfl rfl ?_
  refine z_get (q0 := 0) (k9 := 0) (v := .ref (a 1)) b (mw_0 cy a S) rfl in_X12 (by decide) wf_X12_13 rfl dX12_packs_17 ?_
  refine z_iload_n b dX12_packs_20 rfl rfl ?_
  refine y_iald (q0 := 1) (j := 2) (v := (ar S 0 2)) b (mw_1 cy a S) (by decide) rfl dX12_packs_21 ?_
  refine z_eqi h_a_0_2 ?_
  refine z_i2l (v := 0) b dX12_packs_22 (by decide) ?_
  refine z_lor (v := 805330944) b dX12_packs_23 (by decide) ?_
  refine z_lstore_n (lv' := [(1, .long 805330944), (3, .int 2), (4, .int 2), (0, .ref (a 0))]) b dX12_packs_24 rfl (by decide) rfl ?_
  refine z_lload_n b dX12_packs_25 rfl rfl ?_
  refine z_iconst (v := 2) b dX12_packs_26 (by decide) ?_
  refine z_lshl (v := 3221323776) b dX12_packs_27 (by decide) ?_
  refine z_aload_n b dX12_packs_28 rfl rfl ?_
  refine z_get (q0 := 0) (k9 := 2) (v := .ref (a 3)) b (mw_0 cy a S) rfl in_X12 (by decide) wf_X12_20 rfl dX12_packs_29 ?_
  refine z_iload_n b dX12_packs_32 rfl rfl ?_
  refine y_iald (q0 := 3) (j := 2) (v := (ar S 2 2)) b (mw_3 cy a S) (by decide) rfl dX12_packs_33 ?_
  refine z_eqi h_a_2_2 ?_
  refine z_i2l (v := 3) b dX12_packs_34 (by decide) ?_
  refine z_lor (v := 3221323779) b dX12_packs_35 (by decide) ?_
  refine z_lstore_n (lv' := [(1, .long 3221323779), (3, .int 2), (4, .int 2), (0, .ref (a 0))]) b dX12_packs_36 rfl (by decide) rfl ?_
  exact k

set_option maxHeartbeats 4000000 in
set_option maxRecDepth 100000 in
theorem c_X12_packs_12 {l : Launch} {D : va_G} {cy : Nat → ClassId} {T0 tB tE : Nat} {a : Nat → Nat} (S : GS)  (h_i_0 : fi S 0 = 0) (h_a_0_0 : ar S 0 0 = 0) (h_a_2_0 : ar S 2 0 = 3) (h_a_3_1 : ar S 3 1 = 0) (h_a_1_1 : ar S 1 1 = 0) (h_a_4_1 : ar S 4 1 = 0) (h_a_1_2 : ar S 1 2 = 0) (h_a_4_2 : ar S 4 2 = 0) (h_a_0_1 : ar S 0 1 = 0) (h_a_2_1 : ar S 2 1 = 3) (h_a_3_5 : ar S 3 5 = 0) (h_a_1_5 : ar S 1 5 = 0) (h_a_4_5 : ar S 4 5 = 0) (h_a_1_3 : ar S 1 3 = 0) (h_a_4_3 : ar S 4 3 = 0) (h_a_0_2 : ar S 0 2 = 0) (h_a_2_2 : ar S 2 2 = 3) (h_a_3_6 : ar S 3 6 = 0) (h_a_4_6 : ar S 4 6 = 0) (h_a_1_7 : ar S 1 7 = 0) (h_a_4_7 : ar S 4 7 = 0) : Ct l D cy T0 tB tE yX12_packs cX12_packs 5 (some .long) 1 21 0 0 (mw cy a S) [.ref (a 0)] (QL D (U := GS) (fun r u => (((((((51541180464 ||| ((ar S 1 6) : Int32).toInt64) <<< ((1 : Int32).toInt64 &&& 63)) ||| 0) <<< ((3 : Int32).toInt64 &&& 63)) ||| 0) <<< ((1 : Int32).toInt64 &&& 63)) ||| 0) = r ∧ S = u) (mw cy a)) := by
  refine Ct.ofZ RX12 "packs" [(0, .ref (a 0))] rfl rfl rfl rfl (Nat.le_of_ble_eq_true rfl) ?_
  intro p e R s m args below meth c A b
  refine ch_X12_packs_26 S  h_a_0_0 h_a_1_1 h_a_1_2 h_a_2_0 h_a_3_1 h_a_4_1 h_a_4_2 h_i_0  b ?_
  refine ch_X12_packs_27 S  h_a_0_1 h_a_0_2 h_a_1_3 h_a_1_5 h_a_2_1 h_a_2_2 h_a_3_5 h_a_4_3 h_a_4_5  b ?_
  refine z_lload_n b dX12_packs_37 rfl rfl ?_
  refine z_iconst (v := 1) b dX12_packs_38 (by decide) ?_
  refine z_lshl (v := 6442647558) b dX12_packs_39 (by decide) ?_
  refine z_aload_n b dX12_packs_40 rfl rfl ?_
  refine z_get (q0 := 0) (k9 := 3) (v := .ref (a 4)) b (mw_0 cy a S) rfl in_X12 (by decide) wf_X12_23 rfl dX12_packs_41 ?_
  refine z_iconst (v := 3) b dX12_packs_44 (by decide) ?_
  refine z_iload_n b dX12_packs_45 rfl rfl ?_
  refine z_imul (v := 6) b dX12_packs_46 (by decide) ?_
  refine z_iload_n b dX12_packs_47 rfl rfl ?_
  refine z_iconst (v := 0) b dX12_packs_48 (by decide) ?_
  refine z_calli b (z_runS (As := [.int 2, .int 0]) (st := [.int 6, .ref (a 4), .long 6442647558]) b (c_X12_other_2 S ) cf_X12_other wm_X12_160 ws_X12_other dX12_packs_49 rfl (Nat.le_of_ble_eq_true rfl) ⟨by decide, by decide, by decide, by decide⟩) (fun r1451 u1452 h1450 => ?_)
  obtain ⟨rfl, rfl⟩ := h1450
  refine z_iadd (v := 6) b dX12_packs_52 (by decide) ?_
  refine y_zald (q0 := 4) (j := 6) (v := (ar S 3 6)) b (mw_4 cy a S) (by decide) rfl dX12_packs_53 ?_
  refine z_eqi h_a_3_6 ?_
  refine z_if_eq_t (tgt := 61) b dX12_packs_54 (by decide) (by decide) ?_
  refine z_lconst (v := 0) b dX12_packs_61 (by decide) ?_
  refine z_lor (v := 6442647558) b dX12_packs_62 (by decide) ?_
  refine z_lstore_n (lv' := [(1, .long 6442647558), (3, .int 2), (4, .int 2), (0, .ref (a 0))]) b dX12_packs_63 rfl (by decide) rfl ?_
  refine z_iconst (v := 0) b dX12_packs_64 (by decide) ?_
  refine z_istore (lv' := [(4, .int 0), (1, .long 6442647558), (3, .int 2), (0, .ref (a 0))]) b dX12_packs_65 (by decide) rfl ?_
  refine z_iload b dX12_packs_67 rfl ?_
  refine z_iconst (v := 2) b dX12_packs_69 (by decide) ?_
  refine z_icmp_ge_f (tgt := 128) b dX12_packs_70 (by decide) (by decide) ?_
  refine z_lload_n b dX12_packs_73 rfl rfl ?_
  refine z_iconst (v := 3) b dX12_packs_74 (by decide) ?_
  refine z_lshl (v := 51541180464) b dX12_packs_75 (by decide) ?_
  refine z_aload_n b dX12_packs_76 rfl rfl ?_
  refine z_get (q0 := 0) (k9 := 1) (v := .ref (a 2)) b (mw_0 cy a S) rfl in_X12 (by decide) wf_X12_17 rfl dX12_packs_77 ?_
  refine z_iconst (v := 3) b dX12_packs_80 (by decide) ?_
  refine z_iload_n b dX12_packs_81 rfl rfl ?_
  refine z_imul (v := 6) b dX12_packs_82 (by decide) ?_
  refine z_iload_n b dX12_packs_83 rfl rfl ?_
  refine z_iload b dX12_packs_84 rfl ?_
  refine z_calli b (z_runS (As := [.int 2, .int 0]) (st := [.int 6, .ref (a 2), .long 51541180464]) b (c_X12_other_2 S ) cf_X12_other wm_X12_160 ws_X12_other dX12_packs_86 rfl (Nat.le_of_ble_eq_true rfl) ⟨by decide, by decide, by decide, by decide⟩) (fun r1454 u1455 h1453 => ?_)
  obtain ⟨rfl, rfl⟩ := h1453
  refine z_iadd (v := 6) b dX12_packs_89 (by decide) ?_
  refine y_iald (q0 := 2) (j := 6) (v := (ar S 1 6)) b (mw_2 cy a S) (by decide) rfl dX12_packs_90 ?_
  refine z_i2l b dX12_packs_91 rfl ?_
  refine z_lor b dX12_packs_92 rfl ?_
  refine z_lstore_n (lv' := [(1, .long (51541180464 ||| ((ar S 1 6) : Int32).toInt64)), (4, .int 0), (3, .int 2), (0, .ref (a 0))]) b dX12_packs_93 rfl (by decide) rfl ?_
  refine z_lload_n b dX12_packs_94 rfl rfl ?_
  refine z_iconst (v := 1) b dX12_packs_95 (by decide) ?_
  refine z_lshl b dX12_packs_96 rfl ?_
  refine z_aload_n b dX12_packs_97 rfl rfl ?_
  refine z_get (q0 := 0) (k9 := 4) (v := .ref (a 5)) b (mw_0 cy a S) rfl in_X12 (by decide) wf_X12_27 rfl dX12_packs_98 ?_
  refine z_iconst (v := 3) b dX12_packs_101 (by decide) ?_
  refine z_iload_n b dX12_packs_102 rfl rfl ?_
  refine z_imul (v := 6) b dX12_packs_103 (by decide) ?_
  refine z_iload_n b dX12_packs_104 rfl rfl ?_
  refine z_iload b dX12_packs_105 rfl ?_
  refine z_calli b (z_runS (As := [.int 2, .int 0]) (st := [.int 6, .ref (a 5), .long ((51541180464 ||| ((ar S 1 6) : Int32).toInt64) <<< ((1 : Int32).toInt64 &&& 63))]) b (c_X12_other_2 S ) cf_X12_other wm_X12_160 ws_X12_other dX12_packs_107 rfl (Nat.le_of_ble_eq_true rfl) ⟨by decide, by decide, by decide, by decide⟩) (fun r1457 u1458 h1456 => ?_)
  obtain ⟨rfl, rfl⟩ := h1456
  refine z_iadd (v := 6) b dX12_packs_110 (by decide) ?_
  refine y_zald (q0 := 5) (j := 6) (v := (ar S 4 6)) b (mw_5 cy a S) (by decide) rfl dX12_packs_111 ?_
  refine z_eqi h_a_4_6 ?_
  refine z_if_eq_t (tgt := 119) b dX12_packs_112 (by decide) (by decide) ?_
  refine z_lconst (v := 0) b dX12_packs_119 (by decide) ?_
  refine z_lor b dX12_packs_120 rfl ?_
  refine z_lstore_n (lv' := [(1, .long (((51541180464 ||| ((ar S 1 6) : Int32).toInt64) <<< ((1 : Int32).toInt64 &&& 63)) ||| 0)), (4, .int 0), (3, .int 2), (0, .ref (a 0))]) b dX12_packs_121 rfl (by decide) rfl ?_
  refine z_iinc (k9 := 1) (v := 1) (lv' := [(4, .int 1), (1, .long (((51541180464 ||| ((ar S 1 6) : Int32).toInt64) <<< ((1 : Int32).toInt64 &&& 63)) ||| 0)), (3, .int 2), (0, .ref (a 0))]) b dX12_packs_122 rfl (by decide) (by decide) rfl ?_
  refine z_goto (tgt := 67) b dX12_packs_125 (by decide) ?_
  refine z_iload b dX12_packs_67 rfl ?_
  refine z_iconst (v := 2) b dX12_packs_69 (by decide) ?_
  refine z_icmp_ge_f (tgt := 128) b dX12_packs_70 (by decide) (by decide) ?_
  refine z_lload_n b dX12_packs_73 rfl rfl ?_
  refine z_iconst (v := 3) b dX12_packs_74 (by decide) ?_
  refine z_lshl b dX12_packs_75 rfl ?_
  refine z_aload_n b dX12_packs_76 rfl rfl ?_
  refine z_get (q0 := 0) (k9 := 1) (v := .ref (a 2)) b (mw_0 cy a S) rfl in_X12 (by decide) wf_X12_17 rfl dX12_packs_77 ?_
  refine z_iconst (v := 3) b dX12_packs_80 (by decide) ?_
  refine z_iload_n b dX12_packs_81 rfl rfl ?_
  refine z_imul (v := 6) b dX12_packs_82 (by decide) ?_
  refine z_iload_n b dX12_packs_83 rfl rfl ?_
  refine z_iload b dX12_packs_84 rfl ?_
  refine z_calli b (z_runS (As := [.int 2, .int 1]) (st := [.int 6, .ref (a 2), .long ((((51541180464 ||| ((ar S 1 6) : Int32).toInt64) <<< ((1 : Int32).toInt64 &&& 63)) ||| 0) <<< ((3 : Int32).toInt64 &&& 63))]) b (c_X12_other S ) cf_X12_other wm_X12_160 ws_X12_other dX12_packs_86 rfl (Nat.le_of_ble_eq_true rfl) ⟨by decide, by decide, by decide, by decide⟩) (fun r1460 u1461 h1459 => ?_)
  obtain ⟨rfl, rfl⟩ := h1459
  refine z_iadd (v := 7) b dX12_packs_89 (by decide) ?_
  refine y_iald (q0 := 2) (j := 7) (v := (ar S 1 7)) b (mw_2 cy a S) (by decide) rfl dX12_packs_90 ?_
  refine z_eqi h_a_1_7 ?_
  refine z_i2l (v := 0) b dX12_packs_91 (by decide) ?_
  refine z_lor b dX12_packs_92 rfl ?_
  refine z_lstore_n (lv' := [(1, .long (((((51541180464 ||| ((ar S 1 6) : Int32).toInt64) <<< ((1 : Int32).toInt64 &&& 63)) ||| 0) <<< ((3 : Int32).toInt64 &&& 63)) ||| 0)), (4, .int 1), (3, .int 2), (0, .ref (a 0))]) b dX12_packs_93 rfl (by decide) rfl ?_
  refine z_lload_n b dX12_packs_94 rfl rfl ?_
  refine z_iconst (v := 1) b dX12_packs_95 (by decide) ?_
  refine z_lshl b dX12_packs_96 rfl ?_
  refine z_aload_n b dX12_packs_97 rfl rfl ?_
  refine z_get (q0 := 0) (k9 := 4) (v := .ref (a 5)) b (mw_0 cy a S) rfl in_X12 (by decide) wf_X12_27 rfl dX12_packs_98 ?_
  refine z_iconst (v := 3) b dX12_packs_101 (by decide) ?_
  refine z_iload_n b dX12_packs_102 rfl rfl ?_
  refine z_imul (v := 6) b dX12_packs_103 (by decide) ?_
  refine z_iload_n b dX12_packs_104 rfl rfl ?_
  refine z_iload b dX12_packs_105 rfl ?_
  refine z_calli b (z_runS (As := [.int 2, .int 1]) (st := [.int 6, .ref (a 5), .long ((((((51541180464 ||| ((ar S 1 6) : Int32).toInt64) <<< ((1 : Int32).toInt64 &&& 63)) ||| 0) <<< ((3 : Int32).toInt64 &&& 63)) ||| 0) <<< ((1 : Int32).toInt64 &&& 63))]) b (c_X12_other S ) cf_X12_other wm_X12_160 ws_X12_other dX12_packs_107 rfl (Nat.le_of_ble_eq_true rfl) ⟨by decide, by decide, by decide, by decide⟩) (fun r1463 u1464 h1462 => ?_)
  obtain ⟨rfl, rfl⟩ := h1462
  refine z_iadd (v := 7) b dX12_packs_110 (by decide) ?_
  refine y_zald (q0 := 5) (j := 7) (v := (ar S 4 7)) b (mw_5 cy a S) (by decide) rfl dX12_packs_111 ?_
  refine z_eqi h_a_4_7 ?_
  refine z_if_eq_t (tgt := 119) b dX12_packs_112 (by decide) (by decide) ?_
  refine z_lconst (v := 0) b dX12_packs_119 (by decide) ?_
  refine z_lor b dX12_packs_120 rfl ?_
  refine z_lstore_n (lv' := [(1, .long (((((((51541180464 ||| ((ar S 1 6) : Int32).toInt64) <<< ((1 : Int32).toInt64 &&& 63)) ||| 0) <<< ((3 : Int32).toInt64 &&& 63)) ||| 0) <<< ((1 : Int32).toInt64 &&& 63)) ||| 0)), (4, .int 1), (3, .int 2), (0, .ref (a 0))]) b dX12_packs_121 rfl (by decide) rfl ?_
  refine z_iinc (k9 := 1) (v := 2) (lv' := [(4, .int 2), (1, .long (((((((51541180464 ||| ((ar S 1 6) : Int32).toInt64) <<< ((1 : Int32).toInt64 &&& 63)) ||| 0) <<< ((3 : Int32).toInt64 &&& 63)) ||| 0) <<< ((1 : Int32).toInt64 &&& 63)) ||| 0)), (3, .int 2), (0, .ref (a 0))]) b dX12_packs_122 rfl (by decide) (by decide) rfl ?_
  refine z_goto (tgt := 67) b dX12_packs_125 (by decide) ?_
  refine z_iload b dX12_packs_67 rfl ?_
  refine z_iconst (v := 2) b dX12_packs_69 (by decide) ?_
  refine z_icmp_ge_t (tgt := 128) b dX12_packs_70 (by decide) (by decide) ?_
  refine z_iinc (k9 := 2) (v := 3) (lv' := [(3, .int 3), (4, .int 2), (1, .long (((((((51541180464 ||| ((ar S 1 6) : Int32).toInt64) <<< ((1 : Int32).toInt64 &&& 63)) ||| 0) <<< ((3 : Int32).toInt64 &&& 63)) ||| 0) <<< ((1 : Int32).toInt64 &&& 63)) ||| 0)), (0, .ref (a 0))]) b dX12_packs_128 rfl (by decide) (by decide) rfl ?_
  refine z_goto (tgt := 8) b dX12_packs_131 (by decide) ?_
  refine z_iload_n b dX12_packs_8 rfl rfl ?_
  refine z_iconst (v := 3) b dX12_packs_9 (by decide) ?_
  refine z_icmp_ge_t (tgt := 134) b dX12_packs_10 (by decide) (by decide) ?_
  refine z_lload_n b dX12_packs_134 rfl rfl ?_
  exact z_lret (u := S) b rfl dX12_packs_135 ⟨rfl, rfl⟩ rfl (by decide) (by decide)

set_option maxHeartbeats 4000000 in
set_option maxRecDepth 100000 in
theorem c_X12_told_12 {l : Launch} {D : va_G} {cy : Nat → ClassId} {T0 tB tE : Nat} {a : Nat → Nat} (S : GS)  (h_i_0 : fi S 0 = 0) (h_a_0_0 : ar S 0 0 = 0) (h_a_2_0 : ar S 2 0 = 3) (h_a_3_1 : ar S 3 1 = 0) (h_a_1_1 : ar S 1 1 = 0) (h_a_4_1 : ar S 4 1 = 0) (h_a_1_2 : ar S 1 2 = 0) (h_a_4_2 : ar S 4 2 = 0) (h_a_0_1 : ar S 0 1 = 0) (h_a_2_1 : ar S 2 1 = 3) (h_a_3_5 : ar S 3 5 = 0) (h_a_1_5 : ar S 1 5 = 0) (h_a_4_5 : ar S 4 5 = 0) (h_a_1_3 : ar S 1 3 = 0) (h_a_4_3 : ar S 4 3 = 0) (h_a_0_2 : ar S 0 2 = 0) (h_a_2_2 : ar S 2 2 = 3) (h_a_3_6 : ar S 3 6 = 0) (h_a_4_6 : ar S 4 6 = 0) (h_a_1_7 : ar S 1 7 = 0) (h_a_4_7 : ar S 4 7 = 0) : Ct l D cy T0 tB tE yX12_told cX12_told 1 (some .boolean) 2 45 0 0 (mw cy a S) [.ref (a 0)] (QI D (U := GS) (fun r u => 1 = r ∧ sl S 0 (((((((51541180464 ||| ((ar S 1 6) : Int32).toInt64) <<< ((1 : Int32).toInt64 &&& 63)) ||| 0) <<< ((3 : Int32).toInt64 &&& 63)) ||| 0) <<< ((1 : Int32).toInt64 &&& 63)) ||| 0) = u) (mw cy a)) := by
  refine Ct.ofZ RX12 "told" [(0, .ref (a 0))] rfl rfl rfl rfl (Nat.le_of_ble_eq_true rfl) ?_
  intro p e R s m args below meth c A b
  refine z_aload_n b dX12_told_0 rfl rfl ?_
  refine z_aload_n b dX12_told_1 rfl rfl ?_
  refine z_calll b (z_runV (q0 := 0) (As := []) (st := [.ref (a 0)]) b (c_X12_packs_12 S h_i_0 h_a_0_0 h_a_2_0 h_a_3_1 h_a_1_1 h_a_4_1 h_a_1_2 h_a_4_2 h_a_0_1 h_a_2_1 h_a_3_5 h_a_1_5 h_a_4_5 h_a_1_3 h_a_4_3 h_a_0_2 h_a_2_2 h_a_3_6 h_a_4_6 h_a_1_7 h_a_4_7) cf_X12_packs (mw_0 cy a S) rfl wm_X12_149 wi_X12_packs ws_X12_packs dX12_told_2 rfl (Nat.le_of_ble_eq_true rfl) ⟨by decide, by decide, by decide, by decide⟩) (fun r1466 u1467 h1465 => ?_)
  obtain ⟨rfl, rfl⟩ := h1465
  refine z_put (q0 := 0) (k9 := 6) tyX12 b (mw_0 cy a S) rfl in_X12 tyX12_ok nmX12 (by decide) wf_X12_153 rfl rfl rfl rfl (Nat.le_of_ble_eq_true rfl) dX12_told_5 (mwp_0_6 cy a S (((((((51541180464 ||| ((ar S 1 6) : Int32).toInt64) <<< ((1 : Int32).toInt64 &&& 63)) ||| 0) <<< ((3 : Int32).toInt64 &&& 63)) ||| 0) <<< ((1 : Int32).toInt64 &&& 63)) ||| 0)) ?_
  refine z_iconst (v := 1) b dX12_told_8 (by decide) ?_
  exact z_zret (u := (sl S 0 (((((((51541180464 ||| ((ar S 1 6) : Int32).toInt64) <<< ((1 : Int32).toInt64 &&& 63)) ||| 0) <<< ((3 : Int32).toInt64 &&& 63)) ||| 0) <<< ((1 : Int32).toInt64 &&& 63)) ||| 0))) b rfl (by decide) dX12_told_9 ⟨rfl, rfl⟩ rfl (by decide) (by decide)

set_option maxHeartbeats 4000000 in
set_option maxRecDepth 100000 in
theorem c_X12_debt_25 {l : Launch} {D : va_G} {cy : Nat → ClassId} {T0 tB tE : Nat} {a : Nat → Nat} (S : GS) (p0 : Int32) (h_l_0 : fl S 0 = 1649317774848) (h_a_4_7 : ar S 4 7 = 0) (h_a_1_7 : ar S 1 7 = 0) (h_a_4_6 : ar S 4 6 = 0) (h_a_1_6 : ar S 1 6 = 0) (h_a_3_6 : ar S 3 6 = 0) (h_a_3_2 : ar S 3 2 = 0) (h_a_2_2 : ar S 2 2 = 3) (h_a_0_2 : ar S 0 2 = 0) (h_a_4_3 : ar S 4 3 = 0) (h_a_1_3 : ar S 1 3 = 0) (h_a_4_5 : ar S 4 5 = 0) (h_a_1_5 : ar S 1 5 = 0) (h_a_3_5 : ar S 3 5 = 0) (h_a_3_7 : ar S 3 7 = 0) (h_a_2_1 : ar S 2 1 = 3) (h_a_0_1 : ar S 0 1 = 0) (h_a_4_2 : ar S 4 2 = 0) (h_a_1_2 : ar S 1 2 = 0) (h_a_4_1 : ar S 4 1 = 0) (h_a_1_1 : ar S 1 1 = 0) (h_a_3_1 : ar S 3 1 = 0) (h_a_3_3 : ar S 3 3 = 0) (h_a_2_0 : ar S 2 0 = 3) (h_a_0_0 : ar S 0 0 = 0) (h_i_0 : fi S 0 = 0) (hr_p0 : 0 ≤ p0.toInt ∧ p0.toInt ≤ 7) : Ct l D cy T0 tB tE yX12_debt cX12_debt 4 (some .boolean) 3 65 0 0 (mw cy a S) [.ref (a 0), .int 2, .int 0, .int p0] (QI D (U := GS) (fun r u => 1 = r ∧ sl (su S 1 6 p0) 0 (((((((51541180464 ||| ((ar (su S 1 6 p0) 1 6) : Int32).toInt64) <<< ((1 : Int32).toInt64 &&& 63)) ||| 0) <<< ((3 : Int32).toInt64 &&& 63)) ||| 0) <<< ((1 : Int32).toInt64 &&& 63)) ||| 0) = u) (mw cy a)) := by
  refine Ct.ofZ RX12 "debt" [(0, .ref (a 0)), (1, .int 2), (2, .int 0), (3, .int p0)] rfl rfl rfl rfl (Nat.le_of_ble_eq_true rfl) ?_
  intro p e R s m args below meth c A b
  refine z_iload_n b dX12_debt_0 rfl rfl ?_
  refine z_calli b (z_runS (As := [.int 2]) (st := []) b (c_X12_isOne_5 S ) cf_X12_isOne wm_X12_170 ws_X12_isOne dX12_debt_1 rfl (Nat.le_of_ble_eq_true rfl) ⟨by decide, by decide, by decide, by decide⟩) (fun r1409 u1410 h1408 => ?_)
  obtain ⟨rfl, rfl⟩ := h1408
  refine z_if_eq_f (tgt := 29) b dX12_debt_4 (by decide) (by decide) ?_
  refine z_iload_n b dX12_debt_7 rfl rfl ?_
  refine z_calli b (z_runS (As := [.int 0]) (st := []) b (c_X12_isOne_3 S ) cf_X12_isOne wm_X12_170 ws_X12_isOne dX12_debt_8 rfl (Nat.le_of_ble_eq_true rfl) ⟨by decide, by decide, by decide, by decide⟩) (fun r1412 u1413 h1411 => ?_)
  obtain ⟨rfl, rfl⟩ := h1411
  refine z_if_eq_f (tgt := 29) b dX12_debt_11 (by decide) (by decide) ?_
  refine z_iload_n b dX12_debt_14 rfl rfl ?_
  refine z_iload_n b dX12_debt_15 rfl rfl ?_
  refine z_icmp_eq_f (tgt := 29) b dX12_debt_16 (by decide) (by decide) ?_
  refine z_iload_n b dX12_debt_19 rfl rfl ?_
  refine z_iconst (v := 0) b dX12_debt_20 (by decide) ?_
  refine z_bipush (v := 7) b dX12_debt_21 (by decide) ?_
  refine z_calli b (z_runS (As := [.int p0, .int 0, .int 7]) (st := []) b (c_X12_isIn_13 S p0 ⟨by omega, by omega⟩) cf_X12_isIn wm_X12_1 ws_X12_isIn dX12_debt_23 rfl (Nat.le_of_ble_eq_true rfl) ⟨by decide, by decide, by decide, by decide⟩) (fun r1415 u1416 h1414 => ?_)
  obtain ⟨rfl, rfl⟩ := h1414
  refine z_if_ne_t (tgt := 31) b dX12_debt_26 (by decide) (by decide) ?_
  refine z_aload_n b dX12_debt_31 rfl rfl ?_
  refine z_aload_n b dX12_debt_32 rfl rfl ?_
  refine z_get (q0 := 0) (k9 := 6) (v := .long (fl S 0)) b (mw_0 cy a S) rfl in_X12 (by decide) wf_X12_153 rfl dX12_debt_33 ?_
  refine z_eql h_l_0 ?_
  refine z_callv b (z_runV (q0 := 0) (As := [.long 1649317774848]) (st := []) b (c_X12_takes S h_a_4_7 h_a_1_7 h_a_4_6 h_a_1_6 h_a_3_6 h_a_3_2 h_a_2_2 h_a_0_2 h_a_4_3 h_a_1_3 h_a_4_5 h_a_1_5 h_a_3_5 h_a_3_7 h_a_2_1 h_a_0_1 h_a_4_2 h_a_1_2 h_a_4_1 h_a_1_1 h_a_3_1 h_a_3_3 h_a_2_0 h_a_0_0 h_i_0) cf_X12_takes (mw_0 cy a S) rfl wm_X12_174 wi_X12_takes ws_X12_takes dX12_debt_36 rfl (Nat.le_of_ble_eq_true rfl) ⟨by decide, by decide, by decide, by decide⟩) (fun u1419 h1417 => ?_)
  obtain rfl := h1417
  refine z_aload_n b dX12_debt_39 rfl rfl ?_
  refine z_get (q0 := 0) (k9 := 1) (v := .ref (a 2)) b (mw_0 cy a S) rfl in_X12 (by decide) wf_X12_17 rfl dX12_debt_40 ?_
  refine z_iconst (v := 3) b dX12_debt_43 (by decide) ?_
  refine z_iload_n b dX12_debt_44 rfl rfl ?_
  refine z_imul (v := 6) b dX12_debt_45 (by decide) ?_
  refine z_iload_n b dX12_debt_46 rfl rfl ?_
  refine z_iadd (v := 6) b dX12_debt_47 (by decide) ?_
  refine z_iload_n b dX12_debt_48 rfl rfl ?_
  refine y_iast (q0 := 2) (j := 6) b (mw_2 cy a S) (by decide) dX12_debt_49 (mwa_2 cy a S 6 p0) ?_
  refine z_aload_n b dX12_debt_50 rfl rfl ?_
  refine z_calli b (z_runV (q0 := 0) (As := []) (st := []) b (c_X12_told_12 (su S 1 6 p0) h_i_0 h_a_0_0 h_a_2_0 h_a_3_1 h_a_1_1 h_a_4_1 h_a_1_2 h_a_4_2 h_a_0_1 h_a_2_1 h_a_3_5 h_a_1_5 h_a_4_5 h_a_1_3 h_a_4_3 h_a_0_2 h_a_2_2 h_a_3_6 h_a_4_6 h_a_1_7 h_a_4_7) cf_X12_told (mw_0 cy a (su S 1 6 p0)) rfl wm_X12_178 wi_X12_told ws_X12_told dX12_debt_51 rfl (Nat.le_of_ble_eq_true rfl) ⟨by decide, by decide, by decide, by decide⟩) (fun r1469 u1470 h1468 => ?_)
  obtain ⟨rfl, rfl⟩ := h1468
  exact z_zret (u := (sl (su S 1 6 p0) 0 (((((((51541180464 ||| ((ar (su S 1 6 p0) 1 6) : Int32).toInt64) <<< ((1 : Int32).toInt64 &&& 63)) ||| 0) <<< ((3 : Int32).toInt64 &&& 63)) ||| 0) <<< ((1 : Int32).toInt64 &&& 63)) ||| 0))) b rfl (by decide) dX12_debt_54 ⟨rfl, rfl⟩ rfl (by decide) (by decide)

set_option maxHeartbeats 4000000 in
set_option maxRecDepth 100000 in
theorem c_X11_debt_26 {l : Launch} {D : va_G} {cy : Nat → ClassId} {T0 tB tE : Nat} {a : Nat → Nat} {rw : Nat → Option Nat} (S : GS) (p0 : Int32)  (hr_p0 : 8 ≤ p0.toInt ∧ p0.toInt ≤ 2147483647) : Ct l D cy T0 tB tE yX11_debt cX11_debt 4 (some .boolean) 2 41 0 0 (cw cy tE a rw S) [.ref (a 0), .int 2, .int 0, .int p0] (QI D (U := GS) (fun r u => 0 = r ∧ S = u) (cw cy tE a rw)) := by
  refine Ct.ofZ RX11 "debt" [(0, .ref (a 0)), (1, .int 2), (2, .int 0), (3, .int p0)] rfl rfl rfl rfl (Nat.le_of_ble_eq_true rfl) ?_
  intro p e R s m args below meth c A b
  refine z_iload_n b dX11_debt_0 rfl rfl ?_
  refine z_iload_n b dX11_debt_1 rfl rfl ?_
  refine z_calli b (z_runS (As := [.int 2, .int 0]) (st := []) b (c_X11_arePair_16 S ) cf_X11_arePair wm_X11_84 ws_X11_arePair dX11_debt_2 rfl (Nat.le_of_ble_eq_true rfl) ⟨by decide, by decide, by decide, by decide⟩) (fun r1472 u1473 h1471 => ?_)
  obtain ⟨rfl, rfl⟩ := h1471
  refine z_if_eq_f (tgt := 17) b dX11_debt_5 (by decide) (by decide) ?_
  refine z_iload_n b dX11_debt_8 rfl rfl ?_
  refine z_bipush (v := 7) b dX11_debt_9 (by decide) ?_
  refine z_calli b (z_runS (As := [.int p0, .int 7]) (st := []) b (c_X11_isWithin_9 S p0 ⟨by omega, by omega⟩) cf_X11_isWithin wm_X11_73 ws_X11_isWithin dX11_debt_11 rfl (Nat.le_of_ble_eq_true rfl) ⟨by decide, by decide, by decide, by decide⟩) (fun r1475 u1476 h1474 => ?_)
  obtain ⟨rfl, rfl⟩ := h1474
  refine z_if_ne_f (tgt := 19) b dX11_debt_14 (by decide) (by decide) ?_
  refine z_iconst (v := 0) b dX11_debt_17 (by decide) ?_
  exact z_zret (u := S) b rfl (by decide) dX11_debt_18 ⟨rfl, rfl⟩ rfl (by decide) (by decide)

set_option maxHeartbeats 4000000 in
set_option maxRecDepth 100000 in
theorem c_X12_debt_26 {l : Launch} {D : va_G} {cy : Nat → ClassId} {T0 tB tE : Nat} {a : Nat → Nat} (S : GS) (p0 : Int32)  (hr_p0 : 8 ≤ p0.toInt ∧ p0.toInt ≤ 2147483647) : Ct l D cy T0 tB tE yX12_debt cX12_debt 4 (some .boolean) 2 42 0 0 (mw cy a S) [.ref (a 0), .int 2, .int 0, .int p0] (QI D (U := GS) (fun r u => 0 = r ∧ S = u) (mw cy a)) := by
  refine Ct.ofZ RX12 "debt" [(0, .ref (a 0)), (1, .int 2), (2, .int 0), (3, .int p0)] rfl rfl rfl rfl (Nat.le_of_ble_eq_true rfl) ?_
  intro p e R s m args below meth c A b
  refine z_iload_n b dX12_debt_0 rfl rfl ?_
  refine z_calli b (z_runS (As := [.int 2]) (st := []) b (c_X12_isOne_5 S ) cf_X12_isOne wm_X12_170 ws_X12_isOne dX12_debt_1 rfl (Nat.le_of_ble_eq_true rfl) ⟨by decide, by decide, by decide, by decide⟩) (fun r1478 u1479 h1477 => ?_)
  obtain ⟨rfl, rfl⟩ := h1477
  refine z_if_eq_f (tgt := 29) b dX12_debt_4 (by decide) (by decide) ?_
  refine z_iload_n b dX12_debt_7 rfl rfl ?_
  refine z_calli b (z_runS (As := [.int 0]) (st := []) b (c_X12_isOne_3 S ) cf_X12_isOne wm_X12_170 ws_X12_isOne dX12_debt_8 rfl (Nat.le_of_ble_eq_true rfl) ⟨by decide, by decide, by decide, by decide⟩) (fun r1481 u1482 h1480 => ?_)
  obtain ⟨rfl, rfl⟩ := h1480
  refine z_if_eq_f (tgt := 29) b dX12_debt_11 (by decide) (by decide) ?_
  refine z_iload_n b dX12_debt_14 rfl rfl ?_
  refine z_iload_n b dX12_debt_15 rfl rfl ?_
  refine z_icmp_eq_f (tgt := 29) b dX12_debt_16 (by decide) (by decide) ?_
  refine z_iload_n b dX12_debt_19 rfl rfl ?_
  refine z_iconst (v := 0) b dX12_debt_20 (by decide) ?_
  refine z_bipush (v := 7) b dX12_debt_21 (by decide) ?_
  refine z_calli b (z_runS (As := [.int p0, .int 0, .int 7]) (st := []) b (c_X12_isIn_14 S p0 ⟨by omega, by omega⟩) cf_X12_isIn wm_X12_1 ws_X12_isIn dX12_debt_23 rfl (Nat.le_of_ble_eq_true rfl) ⟨by decide, by decide, by decide, by decide⟩) (fun r1484 u1485 h1483 => ?_)
  obtain ⟨rfl, rfl⟩ := h1483
  refine z_if_ne_f (tgt := 31) b dX12_debt_26 (by decide) (by decide) ?_
  refine z_iconst (v := 0) b dX12_debt_29 (by decide) ?_
  exact z_zret (u := S) b rfl (by decide) dX12_debt_30 ⟨rfl, rfl⟩ rfl (by decide) (by decide)

set_option maxHeartbeats 4000000 in
set_option maxRecDepth 100000 in
theorem c_X11_arePair_17 {l : Launch} {D : va_G} {cy : Nat → ClassId} {T0 tB tE : Nat} {a : Nat → Nat} {rw : Nat → Option Nat} (S : GS)   : Ct l D cy T0 tB tE yX11_arePair cX11_arePair 2 (some .boolean) 1 20 0 0 (cw cy tE a rw S) [.int 2, .int 1] (QI D (U := GS) (fun r u => 1 = r ∧ S = u) (cw cy tE a rw)) := by
  refine Ct.ofZ RX11 "arePair" [(0, .int 2), (1, .int 1)] rfl rfl rfl rfl (Nat.le_of_ble_eq_true rfl) ?_
  intro p e R s m args below meth c A b
  refine z_iload_n b dX11_arePair_0 rfl rfl ?_
  refine z_calli b (z_runS (As := [.int 2]) (st := []) b (c_X11_isPerson_5 S ) cf_X11_isPerson wm_X11_69 ws_X11_isPerson dX11_arePair_1 rfl (Nat.le_of_ble_eq_true rfl) ⟨by decide, by decide, by decide, by decide⟩) (fun r1487 u1488 h1486 => ?_)
  obtain ⟨rfl, rfl⟩ := h1486
  refine z_if_eq_f (tgt := 23) b dX11_arePair_4 (by decide) (by decide) ?_
  refine z_iload_n b dX11_arePair_7 rfl rfl ?_
  refine z_calli b (z_runS (As := [.int 1]) (st := []) b (c_X11_isPerson_4 S ) cf_X11_isPerson wm_X11_69 ws_X11_isPerson dX11_arePair_8 rfl (Nat.le_of_ble_eq_true rfl) ⟨by decide, by decide, by decide, by decide⟩) (fun r1490 u1491 h1489 => ?_)
  obtain ⟨rfl, rfl⟩ := h1489
  refine z_if_eq_f (tgt := 23) b dX11_arePair_11 (by decide) (by decide) ?_
  refine z_iload_n b dX11_arePair_14 rfl rfl ?_
  refine z_iload_n b dX11_arePair_15 rfl rfl ?_
  refine z_icmp_eq_f (tgt := 23) b dX11_arePair_16 (by decide) (by decide) ?_
  refine z_iconst (v := 1) b dX11_arePair_19 (by decide) ?_
  refine z_goto (tgt := 24) b dX11_arePair_20 (by decide) ?_
  exact z_zret (u := S) b rfl (by decide) dX11_arePair_24 ⟨rfl, rfl⟩ rfl (by decide) (by decide)

set_option maxHeartbeats 4000000 in
set_option maxRecDepth 100000 in
theorem c_X11_debt_27 {l : Launch} {D : va_G} {cy : Nat → ClassId} {T0 tB tE : Nat} {a : Nat → Nat} {rw : Nat → Option Nat} (S : GS) (p0 : Int32)  (hr_p0 : (-2147483648) ≤ p0.toInt ∧ p0.toInt ≤ (-1)) : Ct l D cy T0 tB tE yX11_debt cX11_debt 4 (some .boolean) 2 41 0 0 (cw cy tE a rw S) [.ref (a 0), .int 2, .int 1, .int p0] (QI D (U := GS) (fun r u => 0 = r ∧ S = u) (cw cy tE a rw)) := by
  refine Ct.ofZ RX11 "debt" [(0, .ref (a 0)), (1, .int 2), (2, .int 1), (3, .int p0)] rfl rfl rfl rfl (Nat.le_of_ble_eq_true rfl) ?_
  intro p e R s m args below meth c A b
  refine z_iload_n b dX11_debt_0 rfl rfl ?_
  refine z_iload_n b dX11_debt_1 rfl rfl ?_
  refine z_calli b (z_runS (As := [.int 2, .int 1]) (st := []) b (c_X11_arePair_17 S ) cf_X11_arePair wm_X11_84 ws_X11_arePair dX11_debt_2 rfl (Nat.le_of_ble_eq_true rfl) ⟨by decide, by decide, by decide, by decide⟩) (fun r1493 u1494 h1492 => ?_)
  obtain ⟨rfl, rfl⟩ := h1492
  refine z_if_eq_f (tgt := 17) b dX11_debt_5 (by decide) (by decide) ?_
  refine z_iload_n b dX11_debt_8 rfl rfl ?_
  refine z_bipush (v := 7) b dX11_debt_9 (by decide) ?_
  refine z_calli b (z_runS (As := [.int p0, .int 7]) (st := []) b (c_X11_isWithin_7 S p0 ⟨by omega, by omega⟩) cf_X11_isWithin wm_X11_73 ws_X11_isWithin dX11_debt_11 rfl (Nat.le_of_ble_eq_true rfl) ⟨by decide, by decide, by decide, by decide⟩) (fun r1496 u1497 h1495 => ?_)
  obtain ⟨rfl, rfl⟩ := h1495
  refine z_if_ne_f (tgt := 19) b dX11_debt_14 (by decide) (by decide) ?_
  refine z_iconst (v := 0) b dX11_debt_17 (by decide) ?_
  exact z_zret (u := S) b rfl (by decide) dX11_debt_18 ⟨rfl, rfl⟩ rfl (by decide) (by decide)

set_option maxHeartbeats 4000000 in
set_option maxRecDepth 100000 in
theorem c_X12_debt_27 {l : Launch} {D : va_G} {cy : Nat → ClassId} {T0 tB tE : Nat} {a : Nat → Nat} (S : GS) (p0 : Int32)  (hr_p0 : (-2147483648) ≤ p0.toInt ∧ p0.toInt ≤ (-1)) : Ct l D cy T0 tB tE yX12_debt cX12_debt 4 (some .boolean) 2 42 0 0 (mw cy a S) [.ref (a 0), .int 2, .int 1, .int p0] (QI D (U := GS) (fun r u => 0 = r ∧ S = u) (mw cy a)) := by
  refine Ct.ofZ RX12 "debt" [(0, .ref (a 0)), (1, .int 2), (2, .int 1), (3, .int p0)] rfl rfl rfl rfl (Nat.le_of_ble_eq_true rfl) ?_
  intro p e R s m args below meth c A b
  refine z_iload_n b dX12_debt_0 rfl rfl ?_
  refine z_calli b (z_runS (As := [.int 2]) (st := []) b (c_X12_isOne_5 S ) cf_X12_isOne wm_X12_170 ws_X12_isOne dX12_debt_1 rfl (Nat.le_of_ble_eq_true rfl) ⟨by decide, by decide, by decide, by decide⟩) (fun r1499 u1500 h1498 => ?_)
  obtain ⟨rfl, rfl⟩ := h1498
  refine z_if_eq_f (tgt := 29) b dX12_debt_4 (by decide) (by decide) ?_
  refine z_iload_n b dX12_debt_7 rfl rfl ?_
  refine z_calli b (z_runS (As := [.int 1]) (st := []) b (c_X12_isOne_4 S ) cf_X12_isOne wm_X12_170 ws_X12_isOne dX12_debt_8 rfl (Nat.le_of_ble_eq_true rfl) ⟨by decide, by decide, by decide, by decide⟩) (fun r1502 u1503 h1501 => ?_)
  obtain ⟨rfl, rfl⟩ := h1501
  refine z_if_eq_f (tgt := 29) b dX12_debt_11 (by decide) (by decide) ?_
  refine z_iload_n b dX12_debt_14 rfl rfl ?_
  refine z_iload_n b dX12_debt_15 rfl rfl ?_
  refine z_icmp_eq_f (tgt := 29) b dX12_debt_16 (by decide) (by decide) ?_
  refine z_iload_n b dX12_debt_19 rfl rfl ?_
  refine z_iconst (v := 0) b dX12_debt_20 (by decide) ?_
  refine z_bipush (v := 7) b dX12_debt_21 (by decide) ?_
  refine z_calli b (z_runS (As := [.int p0, .int 0, .int 7]) (st := []) b (c_X12_isIn_12 S p0 ⟨by omega, by omega⟩) cf_X12_isIn wm_X12_1 ws_X12_isIn dX12_debt_23 rfl (Nat.le_of_ble_eq_true rfl) ⟨by decide, by decide, by decide, by decide⟩) (fun r1505 u1506 h1504 => ?_)
  obtain ⟨rfl, rfl⟩ := h1504
  refine z_if_ne_f (tgt := 31) b dX12_debt_26 (by decide) (by decide) ?_
  refine z_iconst (v := 0) b dX12_debt_29 (by decide) ?_
  exact z_zret (u := S) b rfl (by decide) dX12_debt_30 ⟨rfl, rfl⟩ rfl (by decide) (by decide)

set_option maxHeartbeats 4000000 in
set_option maxRecDepth 100000 in
theorem c_X9_set_13 {l : Launch} {D : va_G} {cy : Nat → ClassId} {T0 tB tE : Nat} {a : Nat → Nat} {rw : Nat → Option Nat} (S : GS) (p0 : Int32)  (hr_p0 : 0 ≤ p0.toInt ∧ p0.toInt ≤ 7) : Ct l D cy T0 tB tE yX9_set cX9_set 3 none 0 0 0 0 (cw cy tE a rw S) [.ref (a 14), .int 17, .int p0] (QV D (U := GS) (fun u => su S 4 17 p0 = u) (cw cy tE a rw)) := by
  refine Ct.ofZ RX9 "set" [(0, .ref (a 14)), (1, .int 17), (2, .int p0)] rfl rfl rfl rfl (Nat.le_of_ble_eq_true rfl) ?_
  intro p e R s m args below meth c A b
  refine z_iload_n b dX9_set_0 rfl rfl ?_
  refine z_if_lt_f (tgt := 20) b dX9_set_1 (by decide) (by decide) ?_
  refine z_iload_n b dX9_set_4 rfl rfl ?_
  refine z_aload_n b dX9_set_5 rfl rfl ?_
  refine z_get (q0 := 14) (k9 := 0) (v := .ref (a 15)) b (cw_14 cy tE a rw S) rfl in_X9 (by decide) wf_X9_11 rfl dX9_set_6 ?_
  refine z_alen (q0 := 15) (t0 := 0) (v := 51) b (cw_15 cy tE a rw S) rfl rfl dX9_set_9 ?_
  refine z_icmp_ge_f (tgt := 20) b dX9_set_10 (by decide) (by decide) ?_
  refine z_aload_n b dX9_set_13 rfl rfl ?_
  refine z_get (q0 := 14) (k9 := 0) (v := .ref (a 15)) b (cw_14 cy tE a rw S) rfl in_X9 (by decide) wf_X9_11 rfl dX9_set_14 ?_
  refine z_iload_n b dX9_set_17 rfl rfl ?_
  refine z_iload_n b dX9_set_18 rfl rfl ?_
  refine y_iast (q0 := 15) (j := 17) b (cw_15 cy tE a rw S) (by decide) dX9_set_19 (cwa_15 cy tE a rw S 17 p0) ?_
  exact z_vret (u := (su S 4 17 p0)) b rfl dX9_set_20 rfl rfl (by decide) (by decide)

set_option maxHeartbeats 4000000 in
set_option maxRecDepth 100000 in
theorem c_X11_debt_28 {l : Launch} {D : va_G} {cy : Nat → ClassId} {T0 tB tE : Nat} {a : Nat → Nat} {rw : Nat → Option Nat} (S : GS) (p0 : Int32) (h_i_24 : fi S 24 = 0) (hr_p0 : 0 ≤ p0.toInt ∧ p0.toInt ≤ 7) : Ct l D cy T0 tB tE yX11_debt cX11_debt 4 (some .boolean) 2 41 0 0 (cw cy tE a rw S) [.ref (a 0), .int 2, .int 1, .int p0] (QI D (U := GS) (fun r u => 1 = r ∧ (su S 4 17 p0) = u) (cw cy tE a rw)) := by
  refine Ct.ofZ RX11 "debt" [(0, .ref (a 0)), (1, .int 2), (2, .int 1), (3, .int p0)] rfl rfl rfl rfl (Nat.le_of_ble_eq_true rfl) ?_
  intro p e R s m args below meth c A b
  refine z_iload_n b dX11_debt_0 rfl rfl ?_
  refine z_iload_n b dX11_debt_1 rfl rfl ?_
  refine z_calli b (z_runS (As := [.int 2, .int 1]) (st := []) b (c_X11_arePair_17 S ) cf_X11_arePair wm_X11_84 ws_X11_arePair dX11_debt_2 rfl (Nat.le_of_ble_eq_true rfl) ⟨by decide, by decide, by decide, by decide⟩) (fun r1508 u1509 h1507 => ?_)
  obtain ⟨rfl, rfl⟩ := h1507
  refine z_if_eq_f (tgt := 17) b dX11_debt_5 (by decide) (by decide) ?_
  refine z_iload_n b dX11_debt_8 rfl rfl ?_
  refine z_bipush (v := 7) b dX11_debt_9 (by decide) ?_
  refine z_calli b (z_runS (As := [.int p0, .int 7]) (st := []) b (c_X11_isWithin_8 S p0 ⟨by omega, by omega⟩) cf_X11_isWithin wm_X11_73 ws_X11_isWithin dX11_debt_11 rfl (Nat.le_of_ble_eq_true rfl) ⟨by decide, by decide, by decide, by decide⟩) (fun r1511 u1512 h1510 => ?_)
  obtain ⟨rfl, rfl⟩ := h1510
  refine z_if_ne_t (tgt := 19) b dX11_debt_14 (by decide) (by decide) ?_
  refine z_aload_n b dX11_debt_19 rfl rfl ?_
  refine z_get (q0 := 0) (k9 := 4) (v := .ref (a 14)) b (cw_0 cy tE a rw S) rfl in_X11 (by decide) wf_X11_34 rfl dX11_debt_20 ?_
  refine z_bipush (v := 10) b dX11_debt_23 (by decide) ?_
  refine z_iconst (v := 3) b dX11_debt_25 (by decide) ?_
  refine z_iload_n b dX11_debt_26 rfl rfl ?_
  refine z_imul (v := 6) b dX11_debt_27 (by decide) ?_
  refine z_iadd (v := 16) b dX11_debt_28 (by decide) ?_
  refine z_iload_n b dX11_debt_29 rfl rfl ?_
  refine z_iadd (v := 17) b dX11_debt_30 (by decide) ?_
  refine z_iload_n b dX11_debt_31 rfl rfl ?_
  refine z_callv b (z_runV (q0 := 14) (As := [.int 17, .int p0]) (st := []) b (c_X9_set_13 S p0 ⟨by omega, by omega⟩) cf_X9_set (cw_14 cy tE a rw S) rfl wm_X11_77 wi_X9_set ws_X9_set dX11_debt_32 rfl (Nat.le_of_ble_eq_true rfl) ⟨by decide, by decide, by decide, by decide⟩) (fun u1515 h1513 => ?_)
  obtain rfl := h1513
  refine z_aload_n b dX11_debt_35 rfl rfl ?_
  refine z_get (q0 := 0) (k9 := 6) (v := .ref (a 25)) b (cw_0 cy tE a rw (su S 4 17 p0)) rfl in_X11 (by decide) wf_X11_52 rfl dX11_debt_36 ?_
  refine z_callv b (z_runV (q0 := 25) (As := []) (st := []) b (c_X8_forget (su S 4 17 p0) h_i_24) cf_X8_forget (cw_25 cy tE a rw (su S 4 17 p0)) rfl wm_X11_81 wi_X8_forget ws_X8_forget dX11_debt_39 rfl (Nat.le_of_ble_eq_true rfl) ⟨by decide, by decide, by decide, by decide⟩) (fun u1518 h1516 => ?_)
  obtain rfl := h1516
  refine z_iconst (v := 1) b dX11_debt_42 (by decide) ?_
  exact z_zret (u := (su S 4 17 p0)) b rfl (by decide) dX11_debt_43 ⟨rfl, rfl⟩ rfl (by decide) (by decide)

set_option maxHeartbeats 4000000 in
set_option maxRecDepth 100000 in
theorem ch_X12_packs_28 {p : Program} {l : Launch} {e : Env} {R : Room} {s : State} {m : MethodId} {args : Array Value} {below : List Frame} {meth : Method} {c : Code} {D : va_G} {cy : Nat → ClassId} {T0 tB tE : Nat} {A : Nat → Prop} {Q : State → Prop} {a : Nat → Nat} (S : GS)  (h_a_0_0 : ar S 0 0 = 0) (h_a_1_1 : ar S 1 1 = 0) (h_a_1_2 : ar S 1 2 = 0) (h_a_2_0 : ar S 2 0 = 3) (h_a_3_1 : ar S 3 1 = 0) (h_a_4_1 : ar S 4 1 = 0) (h_a_4_2 : ar S 4 2 = 0) (h_i_0 : fi S 0 = 0) (b : Bz p R s m args meth c D cy T0 tB tE A 5 cX12_packs RX12 (some .long) "packs" 1 21 0 0) (k : Z p l e R s m args below meth c D A 5 Q 0 0 (mw cy a S) [(3, .int 1), (4, .int 2), (1, .long 1536), (0, .ref (a 0))] 21 [.int 1, .ref (a 1), .long 24576]) : Z p l e R s m args below meth c D A 5 Q 0 0 (mw cy a S) [(0, .ref (a 0))] 0 [] := by
  refine z_aload_n b dX12_packs_0 rfl rfl ?_
  refine z_get (q0 := 0) (k9 := 5) (v := .int (fi S 0)) b (mw_0 cy a S) rfl in_X12 (by decide) wf_X12_157 rfl dX12_packs_1 ?_
  refine z_eqi h_i_0 ?_
  refine z_i2l (v := 0) b dX12_packs_4 (by decide) ?_
  refine z_lstore_n (lv' := [(1, .long 0), (0, .ref (a 0))]) b dX12_packs_5 rfl (by decide) rfl ?_
  refine z_iconst (v := 0) b dX12_packs_6 (by decide) ?_
  refine z_istore_n (lv' := [(3, .int 0), (1, .long 0), (0, .ref (a 0))]) b dX12_packs_7 rfl (by decide) rfl ?_
  refine z_iload_n b dX12_packs_8 rfl rfl ?_
  refine z_iconst (v := 3) b dX12_packs_9 (by decide) ?_
  refine z_icmp_ge_f (tgt := 134) b dX12_packs_10 (by decide) (by decide) ?_
  refine z_lload_n b dX12_packs_13 rfl rfl ?_
  refine z_iconst (v := 4) b dX12_packs_14 (by decide) ?_
  refine z_lshl (v := 0) b dX12_packs_15 (by decide) ?_
  refine z_aload_n b dX12_packs_16 rfl rfl ?_
  refine z_get (q0 := 0) (k9 := 0) (v := .ref (a 1)) b (mw_0 cy a S) rfl in_X12 (by decide) wf_X12_13 rfl dX12_packs_17 ?_
  refine z_iload_n b dX12_packs_20 rfl rfl ?_
  refine y_iald (q0 := 1) (j := 0) (v := (ar S 0 0)) b (mw_1 cy a S) (by decide) rfl dX12_packs_21 ?_
  refine z_eqi h_a_0_0 ?_
  refine z_i2l (v := 0) b dX12_packs_22 (by decide) ?_
  refine z_lor (v := 0) b dX12_packs_23 (by decide) ?_
  refine z_lstore_n (lv' := [(1, .long 0), (3, .int 0), (0, .ref (a 0))]) b dX12_packs_24 rfl (by decide) rfl ?_
  refine z_lload_n b dX12_packs_25 rfl rfl ?_
  refine z_iconst (v := 2) b dX12_packs_26 (by decide) ?_
  refine z_lshl (v := 0) b dX12_packs_27 (by decide) ?_
  refine z_aload_n b dX12_packs_28 rfl rfl ?_
  refine z_get (q0 := 0) (k9 := 2) (v := .ref (a 3)) b (mw_0 cy a S) rfl in_X12 (by decide) wf_X12_20 rfl dX12_packs_29 ?_
  refine z_iload_n b dX12_packs_32 rfl rfl ?_
  refine y_iald (q0 := 3) (j := 0) (v := (ar S 2 0)) b (mw_3 cy a S) (by decide) rfl dX12_packs_33 ?_
  refine z_eqi h_a_2_0 ?_
  refine z_i2l (v := 3) b dX12_packs_34 (by decide) ?_
  refine z_lor (v := 3) b dX12_packs_35 (by decide) ?_
  refine z_lstore_n (lv' := [(1, .long 3), (3, .int 0), (0, .ref (a 0))]) b dX12_packs_36 rfl (by decide) rfl ?_
  refine z_lload_n b dX12_packs_37 rfl rfl ?_
  refine z_iconst (v := 1) b dX12_packs_38 (by decide) ?_
  refine z_lshl (v := 6) b dX12_packs_39 (by decide) ?_
  refine z_aload_n b dX12_packs_40 rfl rfl ?_
  refine z_get (q0 := 0) (k9 := 3) (v := .ref (a 4)) b (mw_0 cy a S) rfl in_X12 (by decide) wf_X12_23 rfl dX12_packs_41 ?_
  refine z_iconst (v := 3) b dX12_packs_44 (by decide) ?_
  refine z_iload_n b dX12_packs_45 rfl rfl ?_
  refine z_imul (v := 0) b dX12_packs_46 (by decide) ?_
  refine z_iload_n b dX12_packs_47 rfl rfl ?_
  refine z_iconst (v := 0) b dX12_packs_48 (by decide) ?_
  refine z_calli b (z_runS (As := [.int 0, .int 0]) (st := [.int 0, .ref (a 4), .long 6]) b (c_X12_other_6 S ) cf_X12_other wm_X12_160 ws_X12_other dX12_packs_49 rfl (Nat.le_of_ble_eq_true rfl) ⟨by decide, by decide, by decide, by decide⟩) (fun r1532 u1533 h1531 => ?_)
  obtain ⟨rfl, rfl⟩ := h1531
  refine z_iadd (v := 1) b dX12_packs_52 (by decide) ?_
  refine y_zald (q0 := 4) (j := 1) (v := (ar S 3 1)) b (mw_4 cy a S) (by decide) rfl dX12_packs_53 ?_
  refine z_eqi h_a_3_1 ?_
  refine z_if_eq_t (tgt := 61) b dX12_packs_54 (by decide) (by decide) ?_
  refine z_lconst (v := 0) b dX12_packs_61 (by decide) ?_
  refine z_lor (v := 6) b dX12_packs_62 (by decide) ?_
  refine z_lstore_n (lv' := [(1, .long 6), (3, .int 0), (0, .ref (a 0))]) b dX12_packs_63 rfl (by decide) rfl ?_
  refine z_iconst (v := 0) b dX12_packs_64 (by decide) ?_
  refine z_istore (lv' := [(4, .int 0), (1, .long 6), (3, .int 0), (0, .ref (a 0))]) b dX12_packs_65 (by decide) rfl ?_
  refine z_iload b dX12_packs_67 rfl ?_
  refine z_iconst (v := 2) b dX12_packs_69 (by decide) ?_
  refine z_icmp_ge_f (tgt := 128) b dX12_packs_70 (by decide) (by decide) ?_
  refine z_lload_n b dX12_packs_73 rfl rfl ?_
  refine z_iconst (v := 3) b dX12_packs_74 (by decide) ?_
  refine z_lshl (v := 48) b dX12_packs_75 (by decide) ?_
  refine z_aload_n b dX12_packs_76 rfl rfl ?_
  refine z_get (q0 := 0) (k9 := 1) (v := .ref (a 2)) b (mw_0 cy a S) rfl in_X12 (by decide) wf_X12_17 rfl dX12_packs_77 ?_
  refine z_iconst (v := 3) b dX12_packs_80 (by decide) ?_
  refine z_iload_n b dX12_packs_81 rfl rfl ?_
  refine z_imul (v := 0) b dX12_packs_82 (by decide) ?_
  refine z_iload_n b dX12_packs_83 rfl rfl ?_
  refine z_iload b dX12_packs_84 rfl ?_
  refine z_calli b (z_runS (As := [.int 0, .int 0]) (st := [.int 0, .ref (a 2), .long 48]) b (c_X12_other_6 S ) cf_X12_other wm_X12_160 ws_X12_other dX12_packs_86 rfl (Nat.le_of_ble_eq_true rfl) ⟨by decide, by decide, by decide, by decide⟩) (fun r1535 u1536 h1534 => ?_)
  obtain ⟨rfl, rfl⟩ := h1534
  refine z_iadd (v := 1) b dX12_packs_89 (by decide) ?_
  refine y_iald (q0 := 2) (j := 1) (v := (ar S 1 1)) b (mw_2 cy a S) (by decide) rfl dX12_packs_90 ?_
  refine z_eqi h_a_1_1 ?_
  refine z_i2l (v := 0) b dX12_packs_91 (by decide) ?_
  refine z_lor (v := 48) b dX12_packs_92 (by decide) ?_
  refine z_lstore_n (lv' := [(1, .long 48), (4, .int 0), (3, .int 0), (0, .ref (a 0))]) b dX12_packs_93 rfl (by decide) rfl ?_
  refine z_lload_n b dX12_packs_94 rfl rfl ?_
  refine z_iconst (v := 1) b dX12_packs_95 (by decide) ?_
  refine z_lshl (v := 96) b dX12_packs_96 (by decide) ?_
  refine z_aload_n b dX12_packs_97 rfl rfl ?_
  refine z_get (q0 := 0) (k9 := 4) (v := .ref (a 5)) b (mw_0 cy a S) rfl in_X12 (by decide) wf_X12_27 rfl dX12_packs_98 ?_
  refine z_iconst (v := 3) b dX12_packs_101 (by decide) ?_
  refine z_iload_n b dX12_packs_102 rfl rfl ?_
  refine z_imul (v := 0) b dX12_packs_103 (by decide) ?_
  refine z_iload_n b dX12_packs_104 rfl rfl ?_
  refine z_iload b dX12_packs_105 rfl ?_
  refine z_calli b (z_runS (As := [.int 0, .int 0]) (st := [.int 0, .ref (a 5), .long 96]) b (c_X12_other_6 S ) cf_X12_other wm_X12_160 ws_X12_other dX12_packs_107 rfl (Nat.le_of_ble_eq_true rfl) ⟨by decide, by decide, by decide, by decide⟩) (fun r1538 u1539 h1537 => ?_)
  obtain ⟨rfl, rfl⟩ := h1537
  refine z_iadd (v := 1) b dX12_packs_110 (by decide) ?_
  refine y_zald (q0 := 5) (j := 1) (v := (ar S 4 1)) b (mw_5 cy a S) (by decide) rfl dX12_packs_111 ?_
  refine z_eqi h_a_4_1 ?_
  refine z_if_eq_t (tgt := 119) b dX12_packs_112 (by decide) (by decide) ?_
  refine z_lconst (v := 0) b dX12_packs_119 (by decide) ?_
  refine z_lor (v := 96) b dX12_packs_120 (by decide) ?_
  refine z_lstore_n (lv' := [(1, .long 96), (4, .int 0), (3, .int 0), (0, .ref (a 0))]) b dX12_packs_121 rfl (by decide) rfl ?_
  refine z_iinc (k9 := 1) (v := 1) (lv' := [(4, .int 1), (1, .long 96), (3, .int 0), (0, .ref (a 0))]) b dX12_packs_122 rfl (by decide) (by decide) rfl ?_
  refine z_goto (tgt := 67) b dX12_packs_125 (by decide) ?_
  refine z_iload b dX12_packs_67 rfl ?_
  refine z_iconst (v := 2) b dX12_packs_69 (by decide) ?_
  refine z_icmp_ge_f (tgt := 128) b dX12_packs_70 (by decide) (by decide) ?_
  refine z_lload_n b dX12_packs_73 rfl rfl ?_
  refine z_iconst (v := 3) b dX12_packs_74 (by decide) ?_
  refine z_lshl (v := 768) b dX12_packs_75 (by decide) ?_
  refine z_aload_n b dX12_packs_76 rfl rfl ?_
  refine z_get (q0 := 0) (k9 := 1) (v := .ref (a 2)) b (mw_0 cy a S) rfl in_X12 (by decide) wf_X12_17 rfl dX12_packs_77 ?_
  refine z_iconst (v := 3) b dX12_packs_80 (by decide) ?_
  refine z_iload_n b dX12_packs_81 rfl rfl ?_
  refine z_imul (v := 0) b dX12_packs_82 (by decide) ?_
  refine z_iload_n b dX12_packs_83 rfl rfl ?_
  refine z_iload b dX12_packs_84 rfl ?_
  refine z_calli b (z_runS (As := [.int 0, .int 1]) (st := [.int 0, .ref (a 2), .long 768]) b (c_X12_other_5 S ) cf_X12_other wm_X12_160 ws_X12_other dX12_packs_86 rfl (Nat.le_of_ble_eq_true rfl) ⟨by decide, by decide, by decide, by decide⟩) (fun r1541 u1542 h1540 => ?_)
  obtain ⟨rfl, rfl⟩ := h1540
  refine z_iadd (v := 2) b dX12_packs_89 (by decide) ?_
  refine y_iald (q0 := 2) (j := 2) (v := (ar S 1 2)) b (mw_2 cy a S) (by decide) rfl dX12_packs_90 ?_
  refine z_eqi h_a_1_2 ?_
  refine z_i2l (v := 0) b dX12_packs_91 (by decide) ?_
  refine z_lor (v := 768) b dX12_packs_92 (by decide) ?_
  refine z_lstore_n (lv' := [(1, .long 768), (4, .int 1), (3, .int 0), (0, .ref (a 0))]) b dX12_packs_93 rfl (by decide) rfl ?_
  refine z_lload_n b dX12_packs_94 rfl rfl ?_
  refine z_iconst (v := 1) b dX12_packs_95 (by decide) ?_
  refine z_lshl (v := 1536) b dX12_packs_96 (by decide) ?_
  refine z_aload_n b dX12_packs_97 rfl rfl ?_
  refine z_get (q0 := 0) (k9 := 4) (v := .ref (a 5)) b (mw_0 cy a S) rfl in_X12 (by decide) wf_X12_27 rfl dX12_packs_98 ?_
  refine z_iconst (v := 3) b dX12_packs_101 (by decide) ?_
  refine z_iload_n b dX12_packs_102 rfl rfl ?_
  refine z_imul (v := 0) b dX12_packs_103 (by decide) ?_
  refine z_iload_n b dX12_packs_104 rfl rfl ?_
  refine z_iload b dX12_packs_105 rfl ?_
  refine z_calli b (z_runS (As := [.int 0, .int 1]) (st := [.int 0, .ref (a 5), .long 1536]) b (c_X12_other_5 S ) cf_X12_other wm_X12_160 ws_X12_other dX12_packs_107 rfl (Nat.le_of_ble_eq_true rfl) ⟨by decide, by decide, by decide, by decide⟩) (fun r1544 u1545 h1543 => ?_)
  obtain ⟨rfl, rfl⟩ := h1543
  refine z_iadd (v := 2) b dX12_packs_110 (by decide) ?_
  refine y_zald (q0 := 5) (j := 2) (v := (ar S 4 2)) b (mw_5 cy a S) (by decide) rfl dX12_packs_111 ?_
  refine z_eqi h_a_4_2 ?_
  refine z_if_eq_t (tgt := 119) b dX12_packs_112 (by decide) (by decide) ?_
  refine z_lconst (v := 0) b dX12_packs_119 (by decide) ?_
  refine z_lor (v := 1536) b dX12_packs_120 (by decide) ?_
  refine z_lstore_n (lv' := [(1, .long 1536), (4, .int 1), (3, .int 0), (0, .ref (a 0))]) b dX12_packs_121 rfl (by decide) rfl ?_
  refine z_iinc (k9 := 1) (v := 2) (lv' := [(4, .int 2), (1, .long 1536), (3, .int 0), (0, .ref (a 0))]) b dX12_packs_122 rfl (by decide) (by decide) rfl ?_
  refine z_goto (tgt := 67) b dX12_packs_125 (by decide) ?_
  refine z_iload b dX12_packs_67 rfl ?_
  refine z_iconst (v := 2) b dX12_packs_69 (by decide) ?_
  refine z_icmp_ge_t (tgt := 128) b dX12_packs_70 (by decide) (by decide) ?_
  refine z_iinc (k9 := 2) (v := 1) (lv' := [(3, .int 1), (4, .int 2), (1, .long 1536), (0, .ref (a 0))]) b dX12_packs_128 rfl (by decide) (by decide) rfl ?_
  refine z_goto (tgt := 8) b dX12_packs_131 (by decide) ?_
  refine z_iload_n b dX12_packs_8 rfl rfl ?_
  refine z_iconst (v := 3) b dX12_packs_9 (by decide) ?_
  refine z_icmp_ge_f (tgt := 134) b dX12_packs_10 (by decide) (by decide) ?_
  refine z_lload_n b dX12_packs_13 rfl rfl ?_
  refine z_iconst (v := 4) b dX12_packs_14 (by decide) ?_
  refine z_lshl (v := 24576) b dX12_packs_15 (by decide) ?_
  refine z_aload_n b dX12_packs_16 rfl rfl ?_
  refine z_get (q0 := 0) (k9 := 0) (v := .ref (a 1)) b (mw_0 cy a S) rfl in_X12 (by decide) wf_X12_13 rfl dX12_packs_17 ?_
  refine z_iload_n b dX12_packs_20 rfl rfl ?_
  exact k

set_option maxHeartbeats 4000000 in
set_option maxRecDepth 100000 in
theorem ch_X12_packs_29 {p : Program} {l : Launch} {e : Env} {R : Room} {s : State} {m : MethodId} {args : Array Value} {below : List Frame} {meth : Method} {c : Code} {D : va_G} {cy : Nat → ClassId} {T0 tB tE : Nat} {A : Nat → Prop} {Q : State → Prop} {a : Nat → Nat} (S : GS)  (h_a_0_1 : ar S 0 1 = 0) (h_a_0_2 : ar S 0 2 = 0) (h_a_1_3 : ar S 1 3 = 0) (h_a_1_5 : ar S 1 5 = 0) (h_a_2_1 : ar S 2 1 = 3) (h_a_2_2 : ar S 2 2 = 3) (h_a_3_5 : ar S 3 5 = 0) (h_a_4_3 : ar S 4 3 = 0) (h_a_4_5 : ar S 4 5 = 0) (b : Bz p R s m args meth c D cy T0 tB tE A 5 cX12_packs RX12 (some .long) "packs" 1 21 0 0) (k : Z p l e R s m args below meth c D A 5 Q 0 0 (mw cy a S) [(1, .long 3221323779), (3, .int 2), (4, .int 2), (0, .ref (a 0))] 37 []) : Z p l e R s m args below meth c D A 5 Q 0 0 (mw cy a S) [(3, .int 1), (4, .int 2), (1, .long 1536), (0, .ref (a 0))] 21 [.int 1, .ref (a 1), .long 24576] := by
  refine y_iald (q0 := 1) (j := 1) (v := (ar S 0 1)) b (mw_1 cy a S) (by decide) rfl dX12_packs_21 ?_
  refine z_eqi h_a_0_1 ?_
  refine z_i2l (v := 0) b dX12_packs_22 (by decide) ?_
  refine z_lor (v := 24576) b dX12_packs_23 (by decide) ?_
  refine z_lstore_n (lv' := [(1, .long 24576), (3, .int 1), (4, .int 2), (0, .ref (a 0))]) b dX12_packs_24 rfl (by decide) rfl ?_
  refine z_lload_n b dX12_packs_25 rfl rfl ?_
  refine z_iconst (v := 2) b dX12_packs_26 (by decide) ?_
  refine z_lshl (v := 98304) b dX12_packs_27 (by decide) ?_
  refine z_aload_n b dX12_packs_28 rfl rfl ?_
  refine z_get (q0 := 0) (k9 := 2) (v := .ref (a 3)) b (mw_0 cy a S) rfl in_X12 (by decide) wf_X12_20 rfl dX12_packs_29 ?_
  refine z_iload_n b dX12_packs_32 rfl rfl ?_
  refine y_iald (q0 := 3) (j := 1) (v := (ar S 2 1)) b (mw_3 cy a S) (by decide) rfl dX12_packs_33 ?_
  refine z_eqi h_a_2_1 ?_
  refine z_i2l (v := 3) b dX12_packs_34 (by decide) ?_
  refine z_lor (v := 98307) b dX12_packs_35 (by decide) ?_
  refine z_lstore_n (lv' := [(1, .long 98307), (3, .int 1), (4, .int 2), (0, .ref (a 0))]) b dX12_packs_36 rfl (by decide) rfl ?_
  refine z_lload_n b dX12_packs_37 rfl rfl ?_
  refine z_iconst (v := 1) b dX12_packs_38 (by decide) ?_
  refine z_lshl (v := 196614) b dX12_packs_39 (by decide) ?_
  refine z_aload_n b dX12_packs_40 rfl rfl ?_
  refine z_get (q0 := 0) (k9 := 3) (v := .ref (a 4)) b (mw_0 cy a S) rfl in_X12 (by decide) wf_X12_23 rfl dX12_packs_41 ?_
  refine z_iconst (v := 3) b dX12_packs_44 (by decide) ?_
  refine z_iload_n b dX12_packs_45 rfl rfl ?_
  refine z_imul (v := 3) b dX12_packs_46 (by decide) ?_
  refine z_iload_n b dX12_packs_47 rfl rfl ?_
  refine z_iconst (v := 0) b dX12_packs_48 (by decide) ?_
  refine z_calli b (z_runS (As := [.int 1, .int 0]) (st := [.int 3, .ref (a 4), .long 196614]) b (c_X12_other_4 S ) cf_X12_other wm_X12_160 ws_X12_other dX12_packs_49 rfl (Nat.le_of_ble_eq_true rfl) ⟨by decide, by decide, by decide, by decide⟩) (fun r1547 u1548 h1546 => ?_)
  obtain ⟨rfl, rfl⟩ := h1546
  refine z_iadd (v := 5) b dX12_packs_52 (by decide) ?_
  refine y_zald (q0 := 4) (j := 5) (v := (ar S 3 5)) b (mw_4 cy a S) (by decide) rfl dX12_packs_53 ?_
  refine z_eqi h_a_3_5 ?_
  refine z_if_eq_t (tgt := 61) b dX12_packs_54 (by decide) (by decide) ?_
  refine z_lconst (v := 0) b dX12_packs_61 (by decide) ?_
  refine z_lor (v := 196614) b dX12_packs_62 (by decide) ?_
  refine z_lstore_n (lv' := [(1, .long 196614), (3, .int 1), (4, .int 2), (0, .ref (a 0))]) b dX12_packs_63 rfl (by decide) rfl ?_
  refine z_iconst (v := 0) b dX12_packs_64 (by decide) ?_
  refine z_istore (lv' := [(4, .int 0), (1, .long 196614), (3, .int 1), (0, .ref (a 0))]) b dX12_packs_65 (by decide) rfl ?_
  refine z_iload b dX12_packs_67 rfl ?_
  refine z_iconst (v := 2) b dX12_packs_69 (by decide) ?_
  refine z_icmp_ge_f (tgt := 128) b dX12_packs_70 (by decide) (by decide) ?_
  refine z_lload_n b dX12_packs_73 rfl rfl ?_
  refine z_iconst (v := 3) b dX12_packs_74 (by decide) ?_
  refine z_lshl (v := 1572912) b dX12_packs_75 (by decide) ?_
  refine z_aload_n b dX12_packs_76 rfl rfl ?_
  refine z_get (q0 := 0) (k9 := 1) (v := .ref (a 2)) b (mw_0 cy a S) rfl in_X12 (by decide) wf_X12_17 rfl dX12_packs_77 ?_
  refine z_iconst (v := 3) b dX12_packs_80 (by decide) ?_
  refine z_iload_n b dX12_packs_81 rfl rfl ?_
  refine z_imul (v := 3) b dX12_packs_82 (by decide) ?_
  refine z_iload_n b dX12_packs_83 rfl rfl ?_
  refine z_iload b dX12_packs_84 rfl ?_
  refine z_calli b (z_runS (As := [.int 1, .int 0]) (st := [.int 3, .ref (a 2), .long 1572912]) b (c_X12_other_4 S ) cf_X12_other wm_X12_160 ws_X12_other dX12_packs_86 rfl (Nat.le_of_ble_eq_true rfl) ⟨by decide, by decide, by decide, by decide⟩) (fun r1550 u1551 h1549 => ?_)
  obtain ⟨rfl, rfl⟩ := h1549
  refine z_iadd (v := 5) b dX12_packs_89 (by decide) ?_
  refine y_iald (q0 := 2) (j := 5) (v := (ar S 1 5)) b (mw_2 cy a S) (by decide) rfl dX12_packs_90 ?_
  refine z_eqi h_a_1_5 ?_
  refine z_i2l (v := 0) b dX12_packs_91 (by decide) ?_
  refine z_lor (v := 1572912) b dX12_packs_92 (by decide) ?_
  refine z_lstore_n (lv' := [(1, .long 1572912), (4, .int 0), (3, .int 1), (0, .ref (a 0))]) b dX12_packs_93 rfl (by decide) rfl ?_
  refine z_lload_n b dX12_packs_94 rfl rfl ?_
  refine z_iconst (v := 1) b dX12_packs_95 (by decide) ?_
  refine z_lshl (v := 3145824) b dX12_packs_96 (by decide) ?_
  refine z_aload_n b dX12_packs_97 rfl rfl ?_
  refine z_get (q0 := 0) (k9 := 4) (v := .ref (a 5)) b (mw_0 cy a S) rfl in_X12 (by decide) wf_X12_27 rfl dX12_packs_98 ?_
  refine z_iconst (v := 3) b dX12_packs_101 (by decide) ?_
  refine z_iload_n b dX12_packs_102 rfl rfl ?_
  refine z_imul (v := 3) b dX12_packs_103 (by decide) ?_
  refine z_iload_n b dX12_packs_104 rfl rfl ?_
  refine z_iload b dX12_packs_105 rfl ?_
  refine z_calli b (z_runS (As := [.int 1, .int 0]) (st := [.int 3, .ref (a 5), .long 3145824]) b (c_X12_other_4 S ) cf_X12_other wm_X12_160 ws_X12_other dX12_packs_107 rfl (Nat.le_of_ble_eq_true rfl) ⟨by decide, by decide, by decide, by decide⟩) (fun r1553 u1554 h1552 => ?_)
  obtain ⟨rfl, rfl⟩ := h1552
  refine z_iadd (v := 5) b dX12_packs_110 (by decide) ?_
  refine y_zald (q0 := 5) (j := 5) (v := (ar S 4 5)) b (mw_5 cy a S) (by decide) rfl dX12_packs_111 ?_
  refine z_eqi h_a_4_5 ?_
  refine z_if_eq_t (tgt := 119) b dX12_packs_112 (by decide) (by decide) ?_
  refine z_lconst (v := 0) b dX12_packs_119 (by decide) ?_
  refine z_lor (v := 3145824) b dX12_packs_120 (by decide) ?_
  refine z_lstore_n (lv' := [(1, .long 3145824), (4, .int 0), (3, .int 1), (0, .ref (a 0))]) b dX12_packs_121 rfl (by decide) rfl ?_
  refine z_iinc (k9 := 1) (v := 1) (lv' := [(4, .int 1), (1, .long 3145824), (3, .int 1), (0, .ref (a 0))]) b dX12_packs_122 rfl (by decide) (by decide) rfl ?_
  refine z_goto (tgt := 67) b dX12_packs_125 (by decide) ?_
  refine z_iload b dX12_packs_67 rfl ?_
  refine z_iconst (v := 2) b dX12_packs_69 (by decide) ?_
  refine z_icmp_ge_f (tgt := 128) b dX12_packs_70 (by decide) (by decide) ?_
  refine z_lload_n b dX12_packs_73 rfl rfl ?_
  refine z_iconst (v := 3) b dX12_packs_74 (by decide) ?_
  refine z_lshl (v := 25166592) b dX12_packs_75 (by decide) ?_
  refine z_aload_n b dX12_packs_76 rfl rfl ?_
  refine z_get (q0 := 0) (k9 := 1) (v := .ref (a 2)) b (mw_0 cy a S) rfl in_X12 (by decide) wf_X12_17 rfl dX12_packs_77 ?_
  refine z_iconst (v := 3) b dX12_packs_80 (by decide) ?_
  refine z_iload_n b dX12_packs_81 rfl rfl ?_
  refine z_imul (v := 3) b dX12_packs_82 (by decide) ?_
  refine z_iload_n b dX12_packs_83 rfl rfl ?_
  refine z_iload b dX12_packs_84 rfl ?_
  refine z_calli b (z_runS (As := [.int 1, .int 1]) (st := [.int 3, .ref (a 2), .long 25166592]) b (c_X12_other_3 S ) cf_X12_other wm_X12_160 ws_X12_other dX12_packs_86 rfl (Nat.le_of_ble_eq_true rfl) ⟨by decide, by decide, by decide, by decide⟩) (fun r1556 u1557 h1555 => ?_)
  obtain ⟨rfl, rfl⟩ := h1555
  refine z_iadd (v := 3) b dX12_packs_89 (by decide) ?_
  refine y_iald (q0 := 2) (j := 3) (v := (ar S 1 3)) b (mw_2 cy a S) (by decide) rfl dX12_packs_90 ?_
  refine z_eqi h_a_1_3 ?_
  refine z_i2l (v := 0) b dX12_packs_91 (by decide) ?_
  refine z_lor (v := 25166592) b dX12_packs_92 (by decide) ?_
  refine z_lstore_n (lv' := [(1, .long 25166592), (4, .int 1), (3, .int 1), (0, .ref (a 0))]) b dX12_packs_93 rfl (by decide) rfl ?_
  refine z_lload_n b dX12_packs_94 rfl rfl ?_
  refine z_iconst (v := 1) b dX12_packs_95 (by decide) ?_
  refine z_lshl (v := 50333184) b dX12_packs_96 (by decide) ?_
  refine z_aload_n b dX12_packs_97 rfl rfl ?_
  refine z_get (q0 := 0) (k9 := 4) (v := .ref (a 5)) b (mw_0 cy a S) rfl in_X12 (by decide) wf_X12_27 rfl dX12_packs_98 ?_
  refine z_iconst (v := 3) b dX12_packs_101 (by decide) ?_
  refine z_iload_n b dX12_packs_102 rfl rfl ?_
  refine z_imul (v := 3) b dX12_packs_103 (by decide) ?_
  refine z_iload_n b dX12_packs_104 rfl rfl ?_
  refine z_iload b dX12_packs_105 rfl ?_
  refine z_calli b (z_runS (As := [.int 1, .int 1]) (st := [.int 3, .ref (a 5), .long 50333184]) b (c_X12_other_3 S ) cf_X12_other wm_X12_160 ws_X12_other dX12_packs_107 rfl (Nat.le_of_ble_eq_true rfl) ⟨by decide, by decide, by decide, by decide⟩) (fun r1559 u1560 h1558 => ?_)
  obtain ⟨rfl, rfl⟩ := h1558
  refine z_iadd (v := 3) b dX12_packs_110 (by decide) ?_
  refine y_zald (q0 := 5) (j := 3) (v := (ar S 4 3)) b (mw_5 cy a S) (by decide) rfl dX12_packs_111 ?_
  refine z_eqi h_a_4_3 ?_
  refine z_if_eq_t (tgt := 119) b dX12_packs_112 (by decide) (by decide) ?_
  refine z_lconst (v := 0) b dX12_packs_119 (by decide) ?_
  refine z_lor (v := 50333184) b dX12_packs_120 (by decide) ?_
  refine z_lstore_n (lv' := [(1, .long 50333184), (4, .int 1), (3, .int 1), (0, .ref (a 0))]) b dX12_packs_121 rfl (by decide) rfl ?_
  refine z_iinc (k9 := 1) (v := 2) (lv' := [(4, .int 2), (1, .long 50333184), (3, .int 1), (0, .ref (a 0))]) b dX12_packs_122 rfl (by decide) (by decide) rfl ?_
  refine z_goto (tgt := 67) b dX12_packs_125 (by decide) ?_
  refine z_iload b dX12_packs_67 rfl ?_
  refine z_iconst (v := 2) b dX12_packs_69 (by decide) ?_
  refine z_icmp_ge_t (tgt := 128) b dX12_packs_70 (by decide) (by decide) ?_
  refine z_iinc (k9 := 2) (v := 2) (lv' := [(3, .int 2), (4, .int 2), (1, .long 50333184), (0, .ref (a 0))]) b dX12_packs_128 rfl (by decide) (by decide) rfl ?_
  refine z_goto (tgt := 8) b dX12_packs_131 (by decide) ?_
  refine z_iload_n b dX12_packs_8 rfl rfl ?_
  refine z_iconst (v := 3) b dX12_packs_9 (by decide) ?_
  refine z_icmp_ge_f (tgt := 134) b dX12_packs_10 (by decide) (by decide) ?_
  refine z_lload_n b dX12_packs_13 rfl rfl ?_
  refine z_iconst (v := 4) b dX12_packs_14 (by decide) ?_
  refine z_lshl (v := 805330944) b dX12_packs_15 (by decide) ?_
  refine z_aload_n b dX12_packs_16 rfl rfl ?_
  refine z_get (q0 := 0) (k9 := 0) (v := .ref (a 1)) b (mw_0 cy a S) rfl in_X12 (by decide) wf_X12_13 rfl dX12_packs_17 ?_
  refine z_iload_n b dX12_packs_20 rfl rfl ?_
  refine y_iald (q0 := 1) (j := 2) (v := (ar S 0 2)) b (mw_1 cy a S) (by decide) rfl dX12_packs_21 ?_
  refine z_eqi h_a_0_2 ?_
  refine z_i2l (v := 0) b dX12_packs_22 (by decide) ?_
  refine z_lor (v := 805330944) b dX12_packs_23 (by decide) ?_
  refine z_lstore_n (lv' := [(1, .long 805330944), (3, .int 2), (4, .int 2), (0, .ref (a 0))]) b dX12_packs_24 rfl (by decide) rfl ?_
  refine z_lload_n b dX12_packs_25 rfl rfl ?_
  refine z_iconst (v := 2) b dX12_packs_26 (by decide) ?_
  refine z_lshl (v := 3221323776) b dX12_packs_27 (by decide) ?_
  refine z_aload_n b dX12_packs_28 rfl rfl ?_
  refine z_get (q0 := 0) (k9 := 2) (v := .ref (a 3)) b (mw_0 cy a S) rfl in_X12 (by decide) wf_X12_20 rfl dX12_packs_29 ?_
  refine z_iload_n b dX12_packs_32 rfl rfl ?_
  refine y_iald (q0 := 3) (j := 2) (v := (ar S 2 2)) b (mw_3 cy a S) (by decide) rfl dX12_packs_33 ?_
  refine z_eqi h_a_2_2 ?_
  refine z_i2l (v := 3) b dX12_packs_34 (by decide) ?_
  refine z_lor (v := 3221323779) b dX12_packs_35 (by decide) ?_
  refine z_lstore_n (lv' := [(1, .long 3221323779), (3, .int 2), (4, .int 2), (0, .ref (a 0))]) b dX12_packs_36 rfl (by decide) rfl ?_
  exact k

set_option maxHeartbeats 4000000 in
set_option maxRecDepth 100000 in
theorem c_X12_packs_13 {l : Launch} {D : va_G} {cy : Nat → ClassId} {T0 tB tE : Nat} {a : Nat → Nat} (S : GS)  (h_i_0 : fi S 0 = 0) (h_a_0_0 : ar S 0 0 = 0) (h_a_2_0 : ar S 2 0 = 3) (h_a_3_1 : ar S 3 1 = 0) (h_a_1_1 : ar S 1 1 = 0) (h_a_4_1 : ar S 4 1 = 0) (h_a_1_2 : ar S 1 2 = 0) (h_a_4_2 : ar S 4 2 = 0) (h_a_0_1 : ar S 0 1 = 0) (h_a_2_1 : ar S 2 1 = 3) (h_a_3_5 : ar S 3 5 = 0) (h_a_1_5 : ar S 1 5 = 0) (h_a_4_5 : ar S 4 5 = 0) (h_a_1_3 : ar S 1 3 = 0) (h_a_4_3 : ar S 4 3 = 0) (h_a_0_2 : ar S 0 2 = 0) (h_a_2_2 : ar S 2 2 = 3) (h_a_3_6 : ar S 3 6 = 0) (h_a_1_6 : ar S 1 6 = 0) (h_a_4_6 : ar S 4 6 = 0) (h_a_4_7 : ar S 4 7 = 0) : Ct l D cy T0 tB tE yX12_packs cX12_packs 5 (some .long) 1 21 0 0 (mw cy a S) [.ref (a 0)] (QL D (U := GS) (fun r u => (((824658887424 ||| ((ar S 1 7) : Int32).toInt64) <<< ((1 : Int32).toInt64 &&& 63)) ||| 0) = r ∧ S = u) (mw cy a)) := by
  refine Ct.ofZ RX12 "packs" [(0, .ref (a 0))] rfl rfl rfl rfl (Nat.le_of_ble_eq_true rfl) ?_
  intro p e R s m args below meth c A b
  refine ch_X12_packs_28 S  h_a_0_0 h_a_1_1 h_a_1_2 h_a_2_0 h_a_3_1 h_a_4_1 h_a_4_2 h_i_0  b ?_
  refine ch_X12_packs_29 S  h_a_0_1 h_a_0_2 h_a_1_3 h_a_1_5 h_a_2_1 h_a_2_2 h_a_3_5 h_a_4_3 h_a_4_5  b ?_
  refine z_lload_n b dX12_packs_37 rfl rfl ?_
  refine z_iconst (v := 1) b dX12_packs_38 (by decide) ?_
  refine z_lshl (v := 6442647558) b dX12_packs_39 (by decide) ?_
  refine z_aload_n b dX12_packs_40 rfl rfl ?_
  refine z_get (q0 := 0) (k9 := 3) (v := .ref (a 4)) b (mw_0 cy a S) rfl in_X12 (by decide) wf_X12_23 rfl dX12_packs_41 ?_
  refine z_iconst (v := 3) b dX12_packs_44 (by decide) ?_
  refine z_iload_n b dX12_packs_45 rfl rfl ?_
  refine z_imul (v := 6) b dX12_packs_46 (by decide) ?_
  refine z_iload_n b dX12_packs_47 rfl rfl ?_
  refine z_iconst (v := 0) b dX12_packs_48 (by decide) ?_
  refine z_calli b (z_runS (As := [.int 2, .int 0]) (st := [.int 6, .ref (a 4), .long 6442647558]) b (c_X12_other_2 S ) cf_X12_other wm_X12_160 ws_X12_other dX12_packs_49 rfl (Nat.le_of_ble_eq_true rfl) ⟨by decide, by decide, by decide, by decide⟩) (fun r1562 u1563 h1561 => ?_)
  obtain ⟨rfl, rfl⟩ := h1561
  refine z_iadd (v := 6) b dX12_packs_52 (by decide) ?_
  refine y_zald (q0 := 4) (j := 6) (v := (ar S 3 6)) b (mw_4 cy a S) (by decide) rfl dX12_packs_53 ?_
  refine z_eqi h_a_3_6 ?_
  refine z_if_eq_t (tgt := 61) b dX12_packs_54 (by decide) (by decide) ?_
  refine z_lconst (v := 0) b dX12_packs_61 (by decide) ?_
  refine z_lor (v := 6442647558) b dX12_packs_62 (by decide) ?_
  refine z_lstore_n (lv' := [(1, .long 6442647558), (3, .int 2), (4, .int 2), (0, .ref (a 0))]) b dX12_packs_63 rfl (by decide) rfl ?_
  refine z_iconst (v := 0) b dX12_packs_64 (by decide) ?_
  refine z_istore (lv' := [(4, .int 0), (1, .long 6442647558), (3, .int 2), (0, .ref (a 0))]) b dX12_packs_65 (by decide) rfl ?_
  refine z_iload b dX12_packs_67 rfl ?_
  refine z_iconst (v := 2) b dX12_packs_69 (by decide) ?_
  refine z_icmp_ge_f (tgt := 128) b dX12_packs_70 (by decide) (by decide) ?_
  refine z_lload_n b dX12_packs_73 rfl rfl ?_
  refine z_iconst (v := 3) b dX12_packs_74 (by decide) ?_
  refine z_lshl (v := 51541180464) b dX12_packs_75 (by decide) ?_
  refine z_aload_n b dX12_packs_76 rfl rfl ?_
  refine z_get (q0 := 0) (k9 := 1) (v := .ref (a 2)) b (mw_0 cy a S) rfl in_X12 (by decide) wf_X12_17 rfl dX12_packs_77 ?_
  refine z_iconst (v := 3) b dX12_packs_80 (by decide) ?_
  refine z_iload_n b dX12_packs_81 rfl rfl ?_
  refine z_imul (v := 6) b dX12_packs_82 (by decide) ?_
  refine z_iload_n b dX12_packs_83 rfl rfl ?_
  refine z_iload b dX12_packs_84 rfl ?_
  refine z_calli b (z_runS (As := [.int 2, .int 0]) (st := [.int 6, .ref (a 2), .long 51541180464]) b (c_X12_other_2 S ) cf_X12_other wm_X12_160 ws_X12_other dX12_packs_86 rfl (Nat.le_of_ble_eq_true rfl) ⟨by decide, by decide, by decide, by decide⟩) (fun r1565 u1566 h1564 => ?_)
  obtain ⟨rfl, rfl⟩ := h1564
  refine z_iadd (v := 6) b dX12_packs_89 (by decide) ?_
  refine y_iald (q0 := 2) (j := 6) (v := (ar S 1 6)) b (mw_2 cy a S) (by decide) rfl dX12_packs_90 ?_
  refine z_eqi h_a_1_6 ?_
  refine z_i2l (v := 0) b dX12_packs_91 (by decide) ?_
  refine z_lor (v := 51541180464) b dX12_packs_92 (by decide) ?_
  refine z_lstore_n (lv' := [(1, .long 51541180464), (4, .int 0), (3, .int 2), (0, .ref (a 0))]) b dX12_packs_93 rfl (by decide) rfl ?_
  refine z_lload_n b dX12_packs_94 rfl rfl ?_
  refine z_iconst (v := 1) b dX12_packs_95 (by decide) ?_
  refine z_lshl (v := 103082360928) b dX12_packs_96 (by decide) ?_
  refine z_aload_n b dX12_packs_97 rfl rfl ?_
  refine z_get (q0 := 0) (k9 := 4) (v := .ref (a 5)) b (mw_0 cy a S) rfl in_X12 (by decide) wf_X12_27 rfl dX12_packs_98 ?_
  refine z_iconst (v := 3) b dX12_packs_101 (by decide) ?_
  refine z_iload_n b dX12_packs_102 rfl rfl ?_
  refine z_imul (v := 6) b dX12_packs_103 (by decide) ?_
  refine z_iload_n b dX12_packs_104 rfl rfl ?_
  refine z_iload b dX12_packs_105 rfl ?_
  refine z_calli b (z_runS (As := [.int 2, .int 0]) (st := [.int 6, .ref (a 5), .long 103082360928]) b (c_X12_other_2 S ) cf_X12_other wm_X12_160 ws_X12_other dX12_packs_107 rfl (Nat.le_of_ble_eq_true rfl) ⟨by decide, by decide, by decide, by decide⟩) (fun r1568 u1569 h1567 => ?_)
  obtain ⟨rfl, rfl⟩ := h1567
  refine z_iadd (v := 6) b dX12_packs_110 (by decide) ?_
  refine y_zald (q0 := 5) (j := 6) (v := (ar S 4 6)) b (mw_5 cy a S) (by decide) rfl dX12_packs_111 ?_
  refine z_eqi h_a_4_6 ?_
  refine z_if_eq_t (tgt := 119) b dX12_packs_112 (by decide) (by decide) ?_
  refine z_lconst (v := 0) b dX12_packs_119 (by decide) ?_
  refine z_lor (v := 103082360928) b dX12_packs_120 (by decide) ?_
  refine z_lstore_n (lv' := [(1, .long 103082360928), (4, .int 0), (3, .int 2), (0, .ref (a 0))]) b dX12_packs_121 rfl (by decide) rfl ?_
  refine z_iinc (k9 := 1) (v := 1) (lv' := [(4, .int 1), (1, .long 103082360928), (3, .int 2), (0, .ref (a 0))]) b dX12_packs_122 rfl (by decide) (by decide) rfl ?_
  refine z_goto (tgt := 67) b dX12_packs_125 (by decide) ?_
  refine z_iload b dX12_packs_67 rfl ?_
  refine z_iconst (v := 2) b dX12_packs_69 (by decide) ?_
  refine z_icmp_ge_f (tgt := 128) b dX12_packs_70 (by decide) (by decide) ?_
  refine z_lload_n b dX12_packs_73 rfl rfl ?_
  refine z_iconst (v := 3) b dX12_packs_74 (by decide) ?_
  refine z_lshl (v := 824658887424) b dX12_packs_75 (by decide) ?_
  refine z_aload_n b dX12_packs_76 rfl rfl ?_
  refine z_get (q0 := 0) (k9 := 1) (v := .ref (a 2)) b (mw_0 cy a S) rfl in_X12 (by decide) wf_X12_17 rfl dX12_packs_77 ?_
  refine z_iconst (v := 3) b dX12_packs_80 (by decide) ?_
  refine z_iload_n b dX12_packs_81 rfl rfl ?_
  refine z_imul (v := 6) b dX12_packs_82 (by decide) ?_
  refine z_iload_n b dX12_packs_83 rfl rfl ?_
  refine z_iload b dX12_packs_84 rfl ?_
  refine z_calli b (z_runS (As := [.int 2, .int 1]) (st := [.int 6, .ref (a 2), .long 824658887424]) b (c_X12_other S ) cf_X12_other wm_X12_160 ws_X12_other dX12_packs_86 rfl (Nat.le_of_ble_eq_true rfl) ⟨by decide, by decide, by decide, by decide⟩) (fun r1571 u1572 h1570 => ?_)
  obtain ⟨rfl, rfl⟩ := h1570
  refine z_iadd (v := 7) b dX12_packs_89 (by decide) ?_
  refine y_iald (q0 := 2) (j := 7) (v := (ar S 1 7)) b (mw_2 cy a S) (by decide) rfl dX12_packs_90 ?_
  refine z_i2l b dX12_packs_91 rfl ?_
  refine z_lor b dX12_packs_92 rfl ?_
  refine z_lstore_n (lv' := [(1, .long (824658887424 ||| ((ar S 1 7) : Int32).toInt64)), (4, .int 1), (3, .int 2), (0, .ref (a 0))]) b dX12_packs_93 rfl (by decide) rfl ?_
  refine z_lload_n b dX12_packs_94 rfl rfl ?_
  refine z_iconst (v := 1) b dX12_packs_95 (by decide) ?_
  refine z_lshl b dX12_packs_96 rfl ?_
  refine z_aload_n b dX12_packs_97 rfl rfl ?_
  refine z_get (q0 := 0) (k9 := 4) (v := .ref (a 5)) b (mw_0 cy a S) rfl in_X12 (by decide) wf_X12_27 rfl dX12_packs_98 ?_
  refine z_iconst (v := 3) b dX12_packs_101 (by decide) ?_
  refine z_iload_n b dX12_packs_102 rfl rfl ?_
  refine z_imul (v := 6) b dX12_packs_103 (by decide) ?_
  refine z_iload_n b dX12_packs_104 rfl rfl ?_
  refine z_iload b dX12_packs_105 rfl ?_
  refine z_calli b (z_runS (As := [.int 2, .int 1]) (st := [.int 6, .ref (a 5), .long ((824658887424 ||| ((ar S 1 7) : Int32).toInt64) <<< ((1 : Int32).toInt64 &&& 63))]) b (c_X12_other S ) cf_X12_other wm_X12_160 ws_X12_other dX12_packs_107 rfl (Nat.le_of_ble_eq_true rfl) ⟨by decide, by decide, by decide, by decide⟩) (fun r1574 u1575 h1573 => ?_)
  obtain ⟨rfl, rfl⟩ := h1573
  refine z_iadd (v := 7) b dX12_packs_110 (by decide) ?_
  refine y_zald (q0 := 5) (j := 7) (v := (ar S 4 7)) b (mw_5 cy a S) (by decide) rfl dX12_packs_111 ?_
  refine z_eqi h_a_4_7 ?_
  refine z_if_eq_t (tgt := 119) b dX12_packs_112 (by decide) (by decide) ?_
  refine z_lconst (v := 0) b dX12_packs_119 (by decide) ?_
  refine z_lor b dX12_packs_120 rfl ?_
  refine z_lstore_n (lv' := [(1, .long (((824658887424 ||| ((ar S 1 7) : Int32).toInt64) <<< ((1 : Int32).toInt64 &&& 63)) ||| 0)), (4, .int 1), (3, .int 2), (0, .ref (a 0))]) b dX12_packs_121 rfl (by decide) rfl ?_
  refine z_iinc (k9 := 1) (v := 2) (lv' := [(4, .int 2), (1, .long (((824658887424 ||| ((ar S 1 7) : Int32).toInt64) <<< ((1 : Int32).toInt64 &&& 63)) ||| 0)), (3, .int 2), (0, .ref (a 0))]) b dX12_packs_122 rfl (by decide) (by decide) rfl ?_
  refine z_goto (tgt := 67) b dX12_packs_125 (by decide) ?_
  refine z_iload b dX12_packs_67 rfl ?_
  refine z_iconst (v := 2) b dX12_packs_69 (by decide) ?_
  refine z_icmp_ge_t (tgt := 128) b dX12_packs_70 (by decide) (by decide) ?_
  refine z_iinc (k9 := 2) (v := 3) (lv' := [(3, .int 3), (4, .int 2), (1, .long (((824658887424 ||| ((ar S 1 7) : Int32).toInt64) <<< ((1 : Int32).toInt64 &&& 63)) ||| 0)), (0, .ref (a 0))]) b dX12_packs_128 rfl (by decide) (by decide) rfl ?_
  refine z_goto (tgt := 8) b dX12_packs_131 (by decide) ?_
  refine z_iload_n b dX12_packs_8 rfl rfl ?_
  refine z_iconst (v := 3) b dX12_packs_9 (by decide) ?_
  refine z_icmp_ge_t (tgt := 134) b dX12_packs_10 (by decide) (by decide) ?_
  refine z_lload_n b dX12_packs_134 rfl rfl ?_
  exact z_lret (u := S) b rfl dX12_packs_135 ⟨rfl, rfl⟩ rfl (by decide) (by decide)

set_option maxHeartbeats 4000000 in
set_option maxRecDepth 100000 in
theorem c_X12_told_13 {l : Launch} {D : va_G} {cy : Nat → ClassId} {T0 tB tE : Nat} {a : Nat → Nat} (S : GS)  (h_i_0 : fi S 0 = 0) (h_a_0_0 : ar S 0 0 = 0) (h_a_2_0 : ar S 2 0 = 3) (h_a_3_1 : ar S 3 1 = 0) (h_a_1_1 : ar S 1 1 = 0) (h_a_4_1 : ar S 4 1 = 0) (h_a_1_2 : ar S 1 2 = 0) (h_a_4_2 : ar S 4 2 = 0) (h_a_0_1 : ar S 0 1 = 0) (h_a_2_1 : ar S 2 1 = 3) (h_a_3_5 : ar S 3 5 = 0) (h_a_1_5 : ar S 1 5 = 0) (h_a_4_5 : ar S 4 5 = 0) (h_a_1_3 : ar S 1 3 = 0) (h_a_4_3 : ar S 4 3 = 0) (h_a_0_2 : ar S 0 2 = 0) (h_a_2_2 : ar S 2 2 = 3) (h_a_3_6 : ar S 3 6 = 0) (h_a_1_6 : ar S 1 6 = 0) (h_a_4_6 : ar S 4 6 = 0) (h_a_4_7 : ar S 4 7 = 0) : Ct l D cy T0 tB tE yX12_told cX12_told 1 (some .boolean) 2 45 0 0 (mw cy a S) [.ref (a 0)] (QI D (U := GS) (fun r u => 1 = r ∧ sl S 0 (((824658887424 ||| ((ar S 1 7) : Int32).toInt64) <<< ((1 : Int32).toInt64 &&& 63)) ||| 0) = u) (mw cy a)) := by
  refine Ct.ofZ RX12 "told" [(0, .ref (a 0))] rfl rfl rfl rfl (Nat.le_of_ble_eq_true rfl) ?_
  intro p e R s m args below meth c A b
  refine z_aload_n b dX12_told_0 rfl rfl ?_
  refine z_aload_n b dX12_told_1 rfl rfl ?_
  refine z_calll b (z_runV (q0 := 0) (As := []) (st := [.ref (a 0)]) b (c_X12_packs_13 S h_i_0 h_a_0_0 h_a_2_0 h_a_3_1 h_a_1_1 h_a_4_1 h_a_1_2 h_a_4_2 h_a_0_1 h_a_2_1 h_a_3_5 h_a_1_5 h_a_4_5 h_a_1_3 h_a_4_3 h_a_0_2 h_a_2_2 h_a_3_6 h_a_1_6 h_a_4_6 h_a_4_7) cf_X12_packs (mw_0 cy a S) rfl wm_X12_149 wi_X12_packs ws_X12_packs dX12_told_2 rfl (Nat.le_of_ble_eq_true rfl) ⟨by decide, by decide, by decide, by decide⟩) (fun r1577 u1578 h1576 => ?_)
  obtain ⟨rfl, rfl⟩ := h1576
  refine z_put (q0 := 0) (k9 := 6) tyX12 b (mw_0 cy a S) rfl in_X12 tyX12_ok nmX12 (by decide) wf_X12_153 rfl rfl rfl rfl (Nat.le_of_ble_eq_true rfl) dX12_told_5 (mwp_0_6 cy a S (((824658887424 ||| ((ar S 1 7) : Int32).toInt64) <<< ((1 : Int32).toInt64 &&& 63)) ||| 0)) ?_
  refine z_iconst (v := 1) b dX12_told_8 (by decide) ?_
  exact z_zret (u := (sl S 0 (((824658887424 ||| ((ar S 1 7) : Int32).toInt64) <<< ((1 : Int32).toInt64 &&& 63)) ||| 0))) b rfl (by decide) dX12_told_9 ⟨rfl, rfl⟩ rfl (by decide) (by decide)

set_option maxHeartbeats 4000000 in
set_option maxRecDepth 100000 in
theorem c_X12_debt_28 {l : Launch} {D : va_G} {cy : Nat → ClassId} {T0 tB tE : Nat} {a : Nat → Nat} (S : GS) (p0 : Int32) (h_l_0 : fl S 0 = 1649317774848) (h_a_4_7 : ar S 4 7 = 0) (h_a_1_7 : ar S 1 7 = 0) (h_a_4_6 : ar S 4 6 = 0) (h_a_1_6 : ar S 1 6 = 0) (h_a_3_6 : ar S 3 6 = 0) (h_a_3_2 : ar S 3 2 = 0) (h_a_2_2 : ar S 2 2 = 3) (h_a_0_2 : ar S 0 2 = 0) (h_a_4_3 : ar S 4 3 = 0) (h_a_1_3 : ar S 1 3 = 0) (h_a_4_5 : ar S 4 5 = 0) (h_a_1_5 : ar S 1 5 = 0) (h_a_3_5 : ar S 3 5 = 0) (h_a_3_7 : ar S 3 7 = 0) (h_a_2_1 : ar S 2 1 = 3) (h_a_0_1 : ar S 0 1 = 0) (h_a_4_2 : ar S 4 2 = 0) (h_a_1_2 : ar S 1 2 = 0) (h_a_4_1 : ar S 4 1 = 0) (h_a_1_1 : ar S 1 1 = 0) (h_a_3_1 : ar S 3 1 = 0) (h_a_3_3 : ar S 3 3 = 0) (h_a_2_0 : ar S 2 0 = 3) (h_a_0_0 : ar S 0 0 = 0) (h_i_0 : fi S 0 = 0) (hr_p0 : 0 ≤ p0.toInt ∧ p0.toInt ≤ 7) : Ct l D cy T0 tB tE yX12_debt cX12_debt 4 (some .boolean) 3 65 0 0 (mw cy a S) [.ref (a 0), .int 2, .int 1, .int p0] (QI D (U := GS) (fun r u => 1 = r ∧ sl (su S 1 7 p0) 0 (((824658887424 ||| ((ar (su S 1 7 p0) 1 7) : Int32).toInt64) <<< ((1 : Int32).toInt64 &&& 63)) ||| 0) = u) (mw cy a)) := by
  refine Ct.ofZ RX12 "debt" [(0, .ref (a 0)), (1, .int 2), (2, .int 1), (3, .int p0)] rfl rfl rfl rfl (Nat.le_of_ble_eq_true rfl) ?_
  intro p e R s m args below meth c A b
  refine z_iload_n b dX12_debt_0 rfl rfl ?_
  refine z_calli b (z_runS (As := [.int 2]) (st := []) b (c_X12_isOne_5 S ) cf_X12_isOne wm_X12_170 ws_X12_isOne dX12_debt_1 rfl (Nat.le_of_ble_eq_true rfl) ⟨by decide, by decide, by decide, by decide⟩) (fun r1520 u1521 h1519 => ?_)
  obtain ⟨rfl, rfl⟩ := h1519
  refine z_if_eq_f (tgt := 29) b dX12_debt_4 (by decide) (by decide) ?_
  refine z_iload_n b dX12_debt_7 rfl rfl ?_
  refine z_calli b (z_runS (As := [.int 1]) (st := []) b (c_X12_isOne_4 S ) cf_X12_isOne wm_X12_170 ws_X12_isOne dX12_debt_8 rfl (Nat.le_of_ble_eq_true rfl) ⟨by decide, by decide, by decide, by decide⟩) (fun r1523 u1524 h1522 => ?_)
  obtain ⟨rfl, rfl⟩ := h1522
  refine z_if_eq_f (tgt := 29) b dX12_debt_11 (by decide) (by decide) ?_
  refine z_iload_n b dX12_debt_14 rfl rfl ?_
  refine z_iload_n b dX12_debt_15 rfl rfl ?_
  refine z_icmp_eq_f (tgt := 29) b dX12_debt_16 (by decide) (by decide) ?_
  refine z_iload_n b dX12_debt_19 rfl rfl ?_
  refine z_iconst (v := 0) b dX12_debt_20 (by decide) ?_
  refine z_bipush (v := 7) b dX12_debt_21 (by decide) ?_
  refine z_calli b (z_runS (As := [.int p0, .int 0, .int 7]) (st := []) b (c_X12_isIn_13 S p0 ⟨by omega, by omega⟩) cf_X12_isIn wm_X12_1 ws_X12_isIn dX12_debt_23 rfl (Nat.le_of_ble_eq_true rfl) ⟨by decide, by decide, by decide, by decide⟩) (fun r1526 u1527 h1525 => ?_)
  obtain ⟨rfl, rfl⟩ := h1525
  refine z_if_ne_t (tgt := 31) b dX12_debt_26 (by decide) (by decide) ?_
  refine z_aload_n b dX12_debt_31 rfl rfl ?_
  refine z_aload_n b dX12_debt_32 rfl rfl ?_
  refine z_get (q0 := 0) (k9 := 6) (v := .long (fl S 0)) b (mw_0 cy a S) rfl in_X12 (by decide) wf_X12_153 rfl dX12_debt_33 ?_
  refine z_eql h_l_0 ?_
  refine z_callv b (z_runV (q0 := 0) (As := [.long 1649317774848]) (st := []) b (c_X12_takes S h_a_4_7 h_a_1_7 h_a_4_6 h_a_1_6 h_a_3_6 h_a_3_2 h_a_2_2 h_a_0_2 h_a_4_3 h_a_1_3 h_a_4_5 h_a_1_5 h_a_3_5 h_a_3_7 h_a_2_1 h_a_0_1 h_a_4_2 h_a_1_2 h_a_4_1 h_a_1_1 h_a_3_1 h_a_3_3 h_a_2_0 h_a_0_0 h_i_0) cf_X12_takes (mw_0 cy a S) rfl wm_X12_174 wi_X12_takes ws_X12_takes dX12_debt_36 rfl (Nat.le_of_ble_eq_true rfl) ⟨by decide, by decide, by decide, by decide⟩) (fun u1530 h1528 => ?_)
  obtain rfl := h1528
  refine z_aload_n b dX12_debt_39 rfl rfl ?_
  refine z_get (q0 := 0) (k9 := 1) (v := .ref (a 2)) b (mw_0 cy a S) rfl in_X12 (by decide) wf_X12_17 rfl dX12_debt_40 ?_
  refine z_iconst (v := 3) b dX12_debt_43 (by decide) ?_
  refine z_iload_n b dX12_debt_44 rfl rfl ?_
  refine z_imul (v := 6) b dX12_debt_45 (by decide) ?_
  refine z_iload_n b dX12_debt_46 rfl rfl ?_
  refine z_iadd (v := 7) b dX12_debt_47 (by decide) ?_
  refine z_iload_n b dX12_debt_48 rfl rfl ?_
  refine y_iast (q0 := 2) (j := 7) b (mw_2 cy a S) (by decide) dX12_debt_49 (mwa_2 cy a S 7 p0) ?_
  refine z_aload_n b dX12_debt_50 rfl rfl ?_
  refine z_calli b (z_runV (q0 := 0) (As := []) (st := []) b (c_X12_told_13 (su S 1 7 p0) h_i_0 h_a_0_0 h_a_2_0 h_a_3_1 h_a_1_1 h_a_4_1 h_a_1_2 h_a_4_2 h_a_0_1 h_a_2_1 h_a_3_5 h_a_1_5 h_a_4_5 h_a_1_3 h_a_4_3 h_a_0_2 h_a_2_2 h_a_3_6 h_a_1_6 h_a_4_6 h_a_4_7) cf_X12_told (mw_0 cy a (su S 1 7 p0)) rfl wm_X12_178 wi_X12_told ws_X12_told dX12_debt_51 rfl (Nat.le_of_ble_eq_true rfl) ⟨by decide, by decide, by decide, by decide⟩) (fun r1580 u1581 h1579 => ?_)
  obtain ⟨rfl, rfl⟩ := h1579
  exact z_zret (u := (sl (su S 1 7 p0) 0 (((824658887424 ||| ((ar (su S 1 7 p0) 1 7) : Int32).toInt64) <<< ((1 : Int32).toInt64 &&& 63)) ||| 0))) b rfl (by decide) dX12_debt_54 ⟨rfl, rfl⟩ rfl (by decide) (by decide)

set_option maxHeartbeats 4000000 in
set_option maxRecDepth 100000 in
theorem c_X11_debt_29 {l : Launch} {D : va_G} {cy : Nat → ClassId} {T0 tB tE : Nat} {a : Nat → Nat} {rw : Nat → Option Nat} (S : GS) (p0 : Int32)  (hr_p0 : 8 ≤ p0.toInt ∧ p0.toInt ≤ 2147483647) : Ct l D cy T0 tB tE yX11_debt cX11_debt 4 (some .boolean) 2 41 0 0 (cw cy tE a rw S) [.ref (a 0), .int 2, .int 1, .int p0] (QI D (U := GS) (fun r u => 0 = r ∧ S = u) (cw cy tE a rw)) := by
  refine Ct.ofZ RX11 "debt" [(0, .ref (a 0)), (1, .int 2), (2, .int 1), (3, .int p0)] rfl rfl rfl rfl (Nat.le_of_ble_eq_true rfl) ?_
  intro p e R s m args below meth c A b
  refine z_iload_n b dX11_debt_0 rfl rfl ?_
  refine z_iload_n b dX11_debt_1 rfl rfl ?_
  refine z_calli b (z_runS (As := [.int 2, .int 1]) (st := []) b (c_X11_arePair_17 S ) cf_X11_arePair wm_X11_84 ws_X11_arePair dX11_debt_2 rfl (Nat.le_of_ble_eq_true rfl) ⟨by decide, by decide, by decide, by decide⟩) (fun r1583 u1584 h1582 => ?_)
  obtain ⟨rfl, rfl⟩ := h1582
  refine z_if_eq_f (tgt := 17) b dX11_debt_5 (by decide) (by decide) ?_
  refine z_iload_n b dX11_debt_8 rfl rfl ?_
  refine z_bipush (v := 7) b dX11_debt_9 (by decide) ?_
  refine z_calli b (z_runS (As := [.int p0, .int 7]) (st := []) b (c_X11_isWithin_9 S p0 ⟨by omega, by omega⟩) cf_X11_isWithin wm_X11_73 ws_X11_isWithin dX11_debt_11 rfl (Nat.le_of_ble_eq_true rfl) ⟨by decide, by decide, by decide, by decide⟩) (fun r1586 u1587 h1585 => ?_)
  obtain ⟨rfl, rfl⟩ := h1585
  refine z_if_ne_f (tgt := 19) b dX11_debt_14 (by decide) (by decide) ?_
  refine z_iconst (v := 0) b dX11_debt_17 (by decide) ?_
  exact z_zret (u := S) b rfl (by decide) dX11_debt_18 ⟨rfl, rfl⟩ rfl (by decide) (by decide)

set_option maxHeartbeats 4000000 in
set_option maxRecDepth 100000 in
theorem c_X12_debt_29 {l : Launch} {D : va_G} {cy : Nat → ClassId} {T0 tB tE : Nat} {a : Nat → Nat} (S : GS) (p0 : Int32)  (hr_p0 : 8 ≤ p0.toInt ∧ p0.toInt ≤ 2147483647) : Ct l D cy T0 tB tE yX12_debt cX12_debt 4 (some .boolean) 2 42 0 0 (mw cy a S) [.ref (a 0), .int 2, .int 1, .int p0] (QI D (U := GS) (fun r u => 0 = r ∧ S = u) (mw cy a)) := by
  refine Ct.ofZ RX12 "debt" [(0, .ref (a 0)), (1, .int 2), (2, .int 1), (3, .int p0)] rfl rfl rfl rfl (Nat.le_of_ble_eq_true rfl) ?_
  intro p e R s m args below meth c A b
  refine z_iload_n b dX12_debt_0 rfl rfl ?_
  refine z_calli b (z_runS (As := [.int 2]) (st := []) b (c_X12_isOne_5 S ) cf_X12_isOne wm_X12_170 ws_X12_isOne dX12_debt_1 rfl (Nat.le_of_ble_eq_true rfl) ⟨by decide, by decide, by decide, by decide⟩) (fun r1589 u1590 h1588 => ?_)
  obtain ⟨rfl, rfl⟩ := h1588
  refine z_if_eq_f (tgt := 29) b dX12_debt_4 (by decide) (by decide) ?_
  refine z_iload_n b dX12_debt_7 rfl rfl ?_
  refine z_calli b (z_runS (As := [.int 1]) (st := []) b (c_X12_isOne_4 S ) cf_X12_isOne wm_X12_170 ws_X12_isOne dX12_debt_8 rfl (Nat.le_of_ble_eq_true rfl) ⟨by decide, by decide, by decide, by decide⟩) (fun r1592 u1593 h1591 => ?_)
  obtain ⟨rfl, rfl⟩ := h1591
  refine z_if_eq_f (tgt := 29) b dX12_debt_11 (by decide) (by decide) ?_
  refine z_iload_n b dX12_debt_14 rfl rfl ?_
  refine z_iload_n b dX12_debt_15 rfl rfl ?_
  refine z_icmp_eq_f (tgt := 29) b dX12_debt_16 (by decide) (by decide) ?_
  refine z_iload_n b dX12_debt_19 rfl rfl ?_
  refine z_iconst (v := 0) b dX12_debt_20 (by decide) ?_
  refine z_bipush (v := 7) b dX12_debt_21 (by decide) ?_
  refine z_calli b (z_runS (As := [.int p0, .int 0, .int 7]) (st := []) b (c_X12_isIn_14 S p0 ⟨by omega, by omega⟩) cf_X12_isIn wm_X12_1 ws_X12_isIn dX12_debt_23 rfl (Nat.le_of_ble_eq_true rfl) ⟨by decide, by decide, by decide, by decide⟩) (fun r1595 u1596 h1594 => ?_)
  obtain ⟨rfl, rfl⟩ := h1594
  refine z_if_ne_f (tgt := 31) b dX12_debt_26 (by decide) (by decide) ?_
  refine z_iconst (v := 0) b dX12_debt_29 (by decide) ?_
  exact z_zret (u := S) b rfl (by decide) dX12_debt_30 ⟨rfl, rfl⟩ rfl (by decide) (by decide)

