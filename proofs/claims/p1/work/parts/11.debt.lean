theorem wm_X11_84 : Cond.methodLink RX11 84 yX11_arePair ∈ gT := gT_of 495 (by decide +kernel) (by decide +kernel)
theorem cf_X11_arePair : Cf yX11_arePair cX11_arePair 2 (some .boolean) 2 := ⟨gT_of 497 (by decide +kernel) (by decide +kernel), gT_of 84 (by decide +kernel) (by decide +kernel), by decide +kernel, by decide +kernel, by decide +kernel⟩
theorem ws_X11_arePair : Cond.static yX11_arePair ∈ gT := gT_of 496 (by decide +kernel) (by decide +kernel)
theorem dX11_arePair_0 : decode cX11_arePair 0 = .ok (.iload_n 0, 1) := by decide +kernel
theorem dX11_arePair_1 : decode cX11_arePair 1 = .ok (.invokestatic 69, 3) := by decide +kernel
theorem dX11_arePair_4 : decode cX11_arePair 4 = .ok (.ifCond .eq 19, 3) := by decide +kernel
theorem dX11_arePair_7 : decode cX11_arePair 7 = .ok (.iload_n 1, 1) := by decide +kernel
theorem dX11_arePair_8 : decode cX11_arePair 8 = .ok (.invokestatic 69, 3) := by decide +kernel
theorem dX11_arePair_11 : decode cX11_arePair 11 = .ok (.ifCond .eq 12, 3) := by decide +kernel
theorem dX11_arePair_14 : decode cX11_arePair 14 = .ok (.iload_n 0, 1) := by decide +kernel
theorem dX11_arePair_15 : decode cX11_arePair 15 = .ok (.iload_n 1, 1) := by decide +kernel
theorem dX11_arePair_16 : decode cX11_arePair 16 = .ok (.if_icmp .eq 7, 3) := by decide +kernel
theorem dX11_arePair_19 : decode cX11_arePair 19 = .ok (.iconst 1, 1) := by decide +kernel
theorem dX11_arePair_20 : decode cX11_arePair 20 = .ok (.goto 4, 3) := by decide +kernel
theorem dX11_arePair_23 : decode cX11_arePair 23 = .ok (.iconst 0, 1) := by decide +kernel
theorem dX11_arePair_24 : decode cX11_arePair 24 = .ok (.ireturn, 1) := by decide +kernel
theorem dX11_debt_0 : decode cX11_debt 0 = .ok (.iload_n 1, 1) := by decide +kernel
theorem dX11_debt_1 : decode cX11_debt 1 = .ok (.iload_n 2, 1) := by decide +kernel
theorem dX11_debt_2 : decode cX11_debt 2 = .ok (.invokestatic 84, 3) := by decide +kernel
theorem dX11_debt_5 : decode cX11_debt 5 = .ok (.ifCond .eq 12, 3) := by decide +kernel
theorem dX11_debt_8 : decode cX11_debt 8 = .ok (.iload_n 3, 1) := by decide +kernel
theorem dX11_debt_9 : decode cX11_debt 9 = .ok (.bipush 7, 2) := by decide +kernel
theorem dX11_debt_11 : decode cX11_debt 11 = .ok (.invokestatic 73, 3) := by decide +kernel
theorem dX11_debt_14 : decode cX11_debt 14 = .ok (.ifCond .ne 5, 3) := by decide +kernel
theorem dX11_debt_17 : decode cX11_debt 17 = .ok (.iconst 0, 1) := by decide +kernel
theorem dX11_debt_18 : decode cX11_debt 18 = .ok (.ireturn, 1) := by decide +kernel
theorem dX11_debt_19 : decode cX11_debt 19 = .ok (.aload_n 0, 1) := by decide +kernel
theorem dX11_debt_20 : decode cX11_debt 20 = .ok (.getfield 34, 3) := by decide +kernel
theorem dX11_debt_23 : decode cX11_debt 23 = .ok (.bipush 10, 2) := by decide +kernel
theorem dX11_debt_25 : decode cX11_debt 25 = .ok (.iconst 3, 1) := by decide +kernel
theorem dX11_debt_26 : decode cX11_debt 26 = .ok (.iload_n 1, 1) := by decide +kernel
theorem dX11_debt_27 : decode cX11_debt 27 = .ok (.imul, 1) := by decide +kernel
theorem dX11_debt_28 : decode cX11_debt 28 = .ok (.iadd, 1) := by decide +kernel
theorem dX11_debt_29 : decode cX11_debt 29 = .ok (.iload_n 2, 1) := by decide +kernel
theorem dX11_debt_30 : decode cX11_debt 30 = .ok (.iadd, 1) := by decide +kernel
theorem dX11_debt_31 : decode cX11_debt 31 = .ok (.iload_n 3, 1) := by decide +kernel
theorem dX11_debt_32 : decode cX11_debt 32 = .ok (.invokevirtual 77, 3) := by decide +kernel
theorem dX11_debt_35 : decode cX11_debt 35 = .ok (.aload_n 0, 1) := by decide +kernel
theorem dX11_debt_36 : decode cX11_debt 36 = .ok (.getfield 52, 3) := by decide +kernel
theorem dX11_debt_39 : decode cX11_debt 39 = .ok (.invokevirtual 81, 3) := by decide +kernel
theorem dX11_debt_42 : decode cX11_debt 42 = .ok (.iconst 1, 1) := by decide +kernel
theorem dX11_debt_43 : decode cX11_debt 43 = .ok (.ireturn, 1) := by decide +kernel
theorem dX12_debt_0 : decode cX12_debt 0 = .ok (.iload_n 1, 1) := by decide +kernel
theorem dX12_debt_1 : decode cX12_debt 1 = .ok (.invokestatic 170, 3) := by decide +kernel
theorem dX12_debt_4 : decode cX12_debt 4 = .ok (.ifCond .eq 25, 3) := by decide +kernel
theorem dX12_debt_7 : decode cX12_debt 7 = .ok (.iload_n 2, 1) := by decide +kernel
theorem dX12_debt_8 : decode cX12_debt 8 = .ok (.invokestatic 170, 3) := by decide +kernel
theorem dX12_debt_11 : decode cX12_debt 11 = .ok (.ifCond .eq 18, 3) := by decide +kernel
theorem dX12_debt_14 : decode cX12_debt 14 = .ok (.iload_n 1, 1) := by decide +kernel
theorem dX12_debt_15 : decode cX12_debt 15 = .ok (.iload_n 2, 1) := by decide +kernel
theorem dX12_debt_16 : decode cX12_debt 16 = .ok (.if_icmp .eq 13, 3) := by decide +kernel
theorem dX12_debt_19 : decode cX12_debt 19 = .ok (.iload_n 3, 1) := by decide +kernel
theorem dX12_debt_20 : decode cX12_debt 20 = .ok (.iconst 0, 1) := by decide +kernel
theorem dX12_debt_21 : decode cX12_debt 21 = .ok (.bipush 7, 2) := by decide +kernel
theorem dX12_debt_23 : decode cX12_debt 23 = .ok (.invokestatic 1, 3) := by decide +kernel
theorem dX12_debt_26 : decode cX12_debt 26 = .ok (.ifCond .ne 5, 3) := by decide +kernel
theorem dX12_debt_29 : decode cX12_debt 29 = .ok (.iconst 0, 1) := by decide +kernel
theorem dX12_debt_30 : decode cX12_debt 30 = .ok (.ireturn, 1) := by decide +kernel
theorem dX12_debt_31 : decode cX12_debt 31 = .ok (.aload_n 0, 1) := by decide +kernel
theorem dX12_debt_32 : decode cX12_debt 32 = .ok (.aload_n 0, 1) := by decide +kernel
theorem dX12_debt_33 : decode cX12_debt 33 = .ok (.getfield 153, 3) := by decide +kernel
theorem dX12_debt_36 : decode cX12_debt 36 = .ok (.invokevirtual 174, 3) := by decide +kernel
theorem dX12_debt_39 : decode cX12_debt 39 = .ok (.aload_n 0, 1) := by decide +kernel
theorem dX12_debt_40 : decode cX12_debt 40 = .ok (.getfield 17, 3) := by decide +kernel
theorem dX12_debt_43 : decode cX12_debt 43 = .ok (.iconst 3, 1) := by decide +kernel
theorem dX12_debt_44 : decode cX12_debt 44 = .ok (.iload_n 1, 1) := by decide +kernel
theorem dX12_debt_45 : decode cX12_debt 45 = .ok (.imul, 1) := by decide +kernel
theorem dX12_debt_46 : decode cX12_debt 46 = .ok (.iload_n 2, 1) := by decide +kernel
theorem dX12_debt_47 : decode cX12_debt 47 = .ok (.iadd, 1) := by decide +kernel
theorem dX12_debt_48 : decode cX12_debt 48 = .ok (.iload_n 3, 1) := by decide +kernel
theorem dX12_debt_49 : decode cX12_debt 49 = .ok (.iastore, 1) := by decide +kernel
theorem dX12_debt_50 : decode cX12_debt 50 = .ok (.aload_n 0, 1) := by decide +kernel
theorem dX12_debt_51 : decode cX12_debt 51 = .ok (.invokevirtual 178, 3) := by decide +kernel
theorem dX12_debt_54 : decode cX12_debt 54 = .ok (.ireturn, 1) := by decide +kernel
set_option maxHeartbeats 4000000 in
set_option maxRecDepth 100000 in
theorem c_X11_arePair {l : Launch} {D : va_G} {cy : Nat → ClassId} {T0 tB tE : Nat} {a : Nat → Nat} {rw : Nat → Option Nat} (S : GS) (p0 : Int32) (p1 : Int32)  : Ct l D cy T0 tB tE yX11_arePair cX11_arePair 2 (some .boolean) 1 20 0 0 (cw cy tE a rw S) [.int p0, .int p1] (QI D (U := GS) (fun r u => ((((((p0.toInt < 0)) ∨ ((0 ≤ p0.toInt) ∧ (3 ≤ p0.toInt)))) ∨ (((0 ≤ p0.toInt) ∧ (p0.toInt < 3)) ∧ (((p1.toInt < 0)) ∨ ((0 ≤ p1.toInt) ∧ (3 ≤ p1.toInt)))) ∨ (((0 ≤ p0.toInt) ∧ (p0.toInt < 3)) ∧ ((0 ≤ p1.toInt) ∧ (p1.toInt < 3)) ∧ (p0.toInt = p1.toInt))) ∧ 0 = r ∧ S = u) ∨ ((((0 ≤ p0.toInt) ∧ (p0.toInt < 3)) ∧ ((0 ≤ p1.toInt) ∧ (p1.toInt < 3)) ∧ (p0.toInt ≠ p1.toInt)) ∧ 1 = r ∧ S = u)) (cw cy tE a rw)) := by
  refine Ct.ofZ RX11 "arePair" [(0, .int p0), (1, .int p1)] rfl rfl rfl rfl (Nat.le_of_ble_eq_true rfl) ?_
  intro p e R s m args below meth c A b
  refine z_iload_n b dX11_arePair_0 rfl rfl ?_
  refine z_calli b (z_runS (As := [.int p0]) (st := []) b (c_X11_isPerson S p0 ) cf_X11_isPerson wm_X11_69 ws_X11_isPerson dX11_arePair_1 rfl (Nat.le_of_ble_eq_true rfl) ⟨by decide, by decide, by decide, by decide⟩) (fun r853 u854 h852 => ?_)
  rcases h852 with ⟨c855, rfl, rfl⟩ | ⟨c856, rfl, rfl⟩
  · refine z_if_eq_t (tgt := 23) b dX11_arePair_4 (by decide) (by decide) ?_
    refine z_iconst (v := 0) b dX11_arePair_23 (by decide) ?_
    exact z_zret (u := S) b rfl (by decide) dX11_arePair_24 (Or.inl ⟨(Or.inl c855), rfl, rfl⟩) rfl (by decide) (by decide)
  · refine z_if_eq_f (tgt := 23) b dX11_arePair_4 (by decide) (by decide) ?_
    refine z_iload_n b dX11_arePair_7 rfl rfl ?_
    refine z_calli b (z_runS (As := [.int p1]) (st := []) b (c_X11_isPerson S p1 ) cf_X11_isPerson wm_X11_69 ws_X11_isPerson dX11_arePair_8 rfl (Nat.le_of_ble_eq_true rfl) ⟨by decide, by decide, by decide, by decide⟩) (fun r858 u859 h857 => ?_)
    rcases h857 with ⟨c860, rfl, rfl⟩ | ⟨c861, rfl, rfl⟩
    · refine z_if_eq_t (tgt := 23) b dX11_arePair_11 (by decide) (by decide) ?_
      refine z_iconst (v := 0) b dX11_arePair_23 (by decide) ?_
      exact z_zret (u := S) b rfl (by decide) dX11_arePair_24 (Or.inl ⟨(Or.inr (Or.inl ⟨c856, c860⟩)), rfl, rfl⟩) rfl (by decide) (by decide)
    · refine z_if_eq_f (tgt := 23) b dX11_arePair_11 (by decide) (by decide) ?_
      refine z_iload_n b dX11_arePair_14 rfl rfl ?_
      refine z_iload_n b dX11_arePair_15 rfl rfl ?_
      refine y_icmp_eq (tgt := 23) (xl := p0.toInt) (yl := p1.toInt) b rfl rfl dX11_arePair_16 (by decide) (fun c862 => ?_) (fun c862 => ?_)
      · refine z_iconst (v := 0) b dX11_arePair_23 (by decide) ?_
        exact z_zret (u := S) b rfl (by decide) dX11_arePair_24 (Or.inl ⟨(Or.inr (Or.inr ⟨c856, c861, c862⟩)), rfl, rfl⟩) rfl (by decide) (by decide)
      · refine z_iconst (v := 1) b dX11_arePair_19 (by decide) ?_
        refine z_goto (tgt := 24) b dX11_arePair_20 (by decide) ?_
        exact z_zret (u := S) b rfl (by decide) dX11_arePair_24 (Or.inr ⟨⟨c856, c861, c862⟩, rfl, rfl⟩) rfl (by decide) (by decide)

set_option maxHeartbeats 4000000 in
set_option maxRecDepth 100000 in
theorem c_X11_debt {l : Launch} {D : va_G} {cy : Nat → ClassId} {T0 tB tE : Nat} {a : Nat → Nat} {rw : Nat → Option Nat} (S : GS) (p0 : Int32) (p1 : Int32) (p2 : Int32)  (hr_p0 : (-2147483648) ≤ p0.toInt ∧ p0.toInt ≤ (-1)) : Ct l D cy T0 tB tE yX11_debt cX11_debt 4 (some .boolean) 2 41 0 0 (cw cy tE a rw S) [.ref (a 0), .int p0, .int p1, .int p2] (QI D (U := GS) (fun r u => 0 = r ∧ S = u) (cw cy tE a rw)) := by
  refine Ct.ofZ RX11 "debt" [(0, .ref (a 0)), (1, .int p0), (2, .int p1), (3, .int p2)] rfl rfl rfl rfl (Nat.le_of_ble_eq_true rfl) ?_
  intro p e R s m args below meth c A b
  refine z_iload_n b dX11_debt_0 rfl rfl ?_
  refine z_iload_n b dX11_debt_1 rfl rfl ?_
  refine z_calli b (z_runS (As := [.int p0, .int p1]) (st := []) b (c_X11_arePair S p0 p1 ) cf_X11_arePair wm_X11_84 ws_X11_arePair dX11_debt_2 rfl (Nat.le_of_ble_eq_true rfl) ⟨by decide, by decide, by decide, by decide⟩) (fun r864 u865 h863 => ?_)
  rcases h863 with ⟨c866, rfl, rfl⟩ | ⟨c867, rfl, rfl⟩
  · refine z_if_eq_t (tgt := 17) b dX11_debt_5 (by decide) (by decide) ?_
    refine z_iconst (v := 0) b dX11_debt_17 (by decide) ?_
    exact z_zret (u := S) b rfl (by decide) dX11_debt_18 ⟨rfl, rfl⟩ rfl (by decide) (by decide)
  · exfalso; omega

set_option maxHeartbeats 4000000 in
set_option maxRecDepth 100000 in
theorem c_X12_debt {l : Launch} {D : va_G} {cy : Nat → ClassId} {T0 tB tE : Nat} {a : Nat → Nat} (S : GS) (p0 : Int32) (p1 : Int32) (p2 : Int32)  (hr_p0 : (-2147483648) ≤ p0.toInt ∧ p0.toInt ≤ (-1)) : Ct l D cy T0 tB tE yX12_debt cX12_debt 4 (some .boolean) 2 42 0 0 (mw cy a S) [.ref (a 0), .int p0, .int p1, .int p2] (QI D (U := GS) (fun r u => 0 = r ∧ S = u) (mw cy a)) := by
  refine Ct.ofZ RX12 "debt" [(0, .ref (a 0)), (1, .int p0), (2, .int p1), (3, .int p2)] rfl rfl rfl rfl (Nat.le_of_ble_eq_true rfl) ?_
  intro p e R s m args below meth c A b
  refine z_iload_n b dX12_debt_0 rfl rfl ?_
  refine z_calli b (z_runS (As := [.int p0]) (st := []) b (c_X12_isOne S p0 ) cf_X12_isOne wm_X12_170 ws_X12_isOne dX12_debt_1 rfl (Nat.le_of_ble_eq_true rfl) ⟨by decide, by decide, by decide, by decide⟩) (fun r869 u870 h868 => ?_)
  rcases h868 with ⟨c871, rfl, rfl⟩ | ⟨c872, rfl, rfl⟩
  · refine z_if_eq_t (tgt := 29) b dX12_debt_4 (by decide) (by decide) ?_
    refine z_iconst (v := 0) b dX12_debt_29 (by decide) ?_
    exact z_zret (u := S) b rfl (by decide) dX12_debt_30 ⟨rfl, rfl⟩ rfl (by decide) (by decide)
  · exfalso; omega

set_option maxHeartbeats 4000000 in
set_option maxRecDepth 100000 in
theorem c_X11_debt_2 {l : Launch} {D : va_G} {cy : Nat → ClassId} {T0 tB tE : Nat} {a : Nat → Nat} {rw : Nat → Option Nat} (S : GS) (p0 : Int32) (p1 : Int32) (p2 : Int32)  (hr_p0 : 3 ≤ p0.toInt ∧ p0.toInt ≤ 2147483647) : Ct l D cy T0 tB tE yX11_debt cX11_debt 4 (some .boolean) 2 41 0 0 (cw cy tE a rw S) [.ref (a 0), .int p0, .int p1, .int p2] (QI D (U := GS) (fun r u => 0 = r ∧ S = u) (cw cy tE a rw)) := by
  refine Ct.ofZ RX11 "debt" [(0, .ref (a 0)), (1, .int p0), (2, .int p1), (3, .int p2)] rfl rfl rfl rfl (Nat.le_of_ble_eq_true rfl) ?_
  intro p e R s m args below meth c A b
  refine z_iload_n b dX11_debt_0 rfl rfl ?_
  refine z_iload_n b dX11_debt_1 rfl rfl ?_
  refine z_calli b (z_runS (As := [.int p0, .int p1]) (st := []) b (c_X11_arePair S p0 p1 ) cf_X11_arePair wm_X11_84 ws_X11_arePair dX11_debt_2 rfl (Nat.le_of_ble_eq_true rfl) ⟨by decide, by decide, by decide, by decide⟩) (fun r874 u875 h873 => ?_)
  rcases h873 with ⟨c876, rfl, rfl⟩ | ⟨c877, rfl, rfl⟩
  · refine z_if_eq_t (tgt := 17) b dX11_debt_5 (by decide) (by decide) ?_
    refine z_iconst (v := 0) b dX11_debt_17 (by decide) ?_
    exact z_zret (u := S) b rfl (by decide) dX11_debt_18 ⟨rfl, rfl⟩ rfl (by decide) (by decide)
  · exfalso; omega

set_option maxHeartbeats 4000000 in
set_option maxRecDepth 100000 in
theorem c_X12_debt_2 {l : Launch} {D : va_G} {cy : Nat → ClassId} {T0 tB tE : Nat} {a : Nat → Nat} (S : GS) (p0 : Int32) (p1 : Int32) (p2 : Int32)  (hr_p0 : 3 ≤ p0.toInt ∧ p0.toInt ≤ 2147483647) : Ct l D cy T0 tB tE yX12_debt cX12_debt 4 (some .boolean) 2 42 0 0 (mw cy a S) [.ref (a 0), .int p0, .int p1, .int p2] (QI D (U := GS) (fun r u => 0 = r ∧ S = u) (mw cy a)) := by
  refine Ct.ofZ RX12 "debt" [(0, .ref (a 0)), (1, .int p0), (2, .int p1), (3, .int p2)] rfl rfl rfl rfl (Nat.le_of_ble_eq_true rfl) ?_
  intro p e R s m args below meth c A b
  refine z_iload_n b dX12_debt_0 rfl rfl ?_
  refine z_calli b (z_runS (As := [.int p0]) (st := []) b (c_X12_isOne S p0 ) cf_X12_isOne wm_X12_170 ws_X12_isOne dX12_debt_1 rfl (Nat.le_of_ble_eq_true rfl) ⟨by decide, by decide, by decide, by decide⟩) (fun r879 u880 h878 => ?_)
  rcases h878 with ⟨c881, rfl, rfl⟩ | ⟨c882, rfl, rfl⟩
  · refine z_if_eq_t (tgt := 29) b dX12_debt_4 (by decide) (by decide) ?_
    refine z_iconst (v := 0) b dX12_debt_29 (by decide) ?_
    exact z_zret (u := S) b rfl (by decide) dX12_debt_30 ⟨rfl, rfl⟩ rfl (by decide) (by decide)
  · exfalso; omega

set_option maxHeartbeats 4000000 in
set_option maxRecDepth 100000 in
theorem c_X11_arePair_2 {l : Launch} {D : va_G} {cy : Nat → ClassId} {T0 tB tE : Nat} {a : Nat → Nat} {rw : Nat → Option Nat} (S : GS) (p0 : Int32)  : Ct l D cy T0 tB tE yX11_arePair cX11_arePair 2 (some .boolean) 1 20 0 0 (cw cy tE a rw S) [.int 0, .int p0] (QI D (U := GS) (fun r u => ((((((p0.toInt < 0)) ∨ ((0 ≤ p0.toInt) ∧ (3 ≤ p0.toInt)))) ∨ (((0 ≤ p0.toInt) ∧ (p0.toInt < 3)) ∧ (0 = p0.toInt))) ∧ 0 = r ∧ S = u) ∨ ((((0 ≤ p0.toInt) ∧ (p0.toInt < 3)) ∧ (0 ≠ p0.toInt)) ∧ 1 = r ∧ S = u)) (cw cy tE a rw)) := by
  refine Ct.ofZ RX11 "arePair" [(0, .int 0), (1, .int p0)] rfl rfl rfl rfl (Nat.le_of_ble_eq_true rfl) ?_
  intro p e R s m args below meth c A b
  refine z_iload_n b dX11_arePair_0 rfl rfl ?_
  refine z_calli b (z_runS (As := [.int 0]) (st := []) b (c_X11_isPerson_2 S ) cf_X11_isPerson wm_X11_69 ws_X11_isPerson dX11_arePair_1 rfl (Nat.le_of_ble_eq_true rfl) ⟨by decide, by decide, by decide, by decide⟩) (fun r884 u885 h883 => ?_)
  obtain ⟨rfl, rfl⟩ := h883
  refine z_if_eq_f (tgt := 23) b dX11_arePair_4 (by decide) (by decide) ?_
  refine z_iload_n b dX11_arePair_7 rfl rfl ?_
  refine z_calli b (z_runS (As := [.int p0]) (st := []) b (c_X11_isPerson S p0 ) cf_X11_isPerson wm_X11_69 ws_X11_isPerson dX11_arePair_8 rfl (Nat.le_of_ble_eq_true rfl) ⟨by decide, by decide, by decide, by decide⟩) (fun r887 u888 h886 => ?_)
  rcases h886 with ⟨c889, rfl, rfl⟩ | ⟨c890, rfl, rfl⟩
  · refine z_if_eq_t (tgt := 23) b dX11_arePair_11 (by decide) (by decide) ?_
    refine z_iconst (v := 0) b dX11_arePair_23 (by decide) ?_
    exact z_zret (u := S) b rfl (by decide) dX11_arePair_24 (Or.inl ⟨(Or.inl c889), rfl, rfl⟩) rfl (by decide) (by decide)
  · refine z_if_eq_f (tgt := 23) b dX11_arePair_11 (by decide) (by decide) ?_
    refine z_iload_n b dX11_arePair_14 rfl rfl ?_
    refine z_iload_n b dX11_arePair_15 rfl rfl ?_
    refine y_icmp_eq (tgt := 23) (xl := 0) (yl := p0.toInt) b (by decide) rfl dX11_arePair_16 (by decide) (fun c891 => ?_) (fun c891 => ?_)
    · refine z_iconst (v := 0) b dX11_arePair_23 (by decide) ?_
      exact z_zret (u := S) b rfl (by decide) dX11_arePair_24 (Or.inl ⟨(Or.inr ⟨c890, c891⟩), rfl, rfl⟩) rfl (by decide) (by decide)
    · refine z_iconst (v := 1) b dX11_arePair_19 (by decide) ?_
      refine z_goto (tgt := 24) b dX11_arePair_20 (by decide) ?_
      exact z_zret (u := S) b rfl (by decide) dX11_arePair_24 (Or.inr ⟨⟨c890, c891⟩, rfl, rfl⟩) rfl (by decide) (by decide)

set_option maxHeartbeats 4000000 in
set_option maxRecDepth 100000 in
theorem c_X11_debt_3 {l : Launch} {D : va_G} {cy : Nat → ClassId} {T0 tB tE : Nat} {a : Nat → Nat} {rw : Nat → Option Nat} (S : GS) (p0 : Int32) (p1 : Int32)  (hr_p0 : (-2147483648) ≤ p0.toInt ∧ p0.toInt ≤ (-1)) : Ct l D cy T0 tB tE yX11_debt cX11_debt 4 (some .boolean) 2 41 0 0 (cw cy tE a rw S) [.ref (a 0), .int 0, .int p0, .int p1] (QI D (U := GS) (fun r u => 0 = r ∧ S = u) (cw cy tE a rw)) := by
  refine Ct.ofZ RX11 "debt" [(0, .ref (a 0)), (1, .int 0), (2, .int p0), (3, .int p1)] rfl rfl rfl rfl (Nat.le_of_ble_eq_true rfl) ?_
  intro p e R s m args below meth c A b
  refine z_iload_n b dX11_debt_0 rfl rfl ?_
  refine z_iload_n b dX11_debt_1 rfl rfl ?_
  refine z_calli b (z_runS (As := [.int 0, .int p0]) (st := []) b (c_X11_arePair_2 S p0 ) cf_X11_arePair wm_X11_84 ws_X11_arePair dX11_debt_2 rfl (Nat.le_of_ble_eq_true rfl) ⟨by decide, by decide, by decide, by decide⟩) (fun r893 u894 h892 => ?_)
  rcases h892 with ⟨c895, rfl, rfl⟩ | ⟨c896, rfl, rfl⟩
  · refine z_if_eq_t (tgt := 17) b dX11_debt_5 (by decide) (by decide) ?_
    refine z_iconst (v := 0) b dX11_debt_17 (by decide) ?_
    exact z_zret (u := S) b rfl (by decide) dX11_debt_18 ⟨rfl, rfl⟩ rfl (by decide) (by decide)
  · exfalso; omega

set_option maxHeartbeats 4000000 in
set_option maxRecDepth 100000 in
theorem c_X12_debt_3 {l : Launch} {D : va_G} {cy : Nat → ClassId} {T0 tB tE : Nat} {a : Nat → Nat} (S : GS) (p0 : Int32) (p1 : Int32)  (hr_p0 : (-2147483648) ≤ p0.toInt ∧ p0.toInt ≤ (-1)) : Ct l D cy T0 tB tE yX12_debt cX12_debt 4 (some .boolean) 2 42 0 0 (mw cy a S) [.ref (a 0), .int 0, .int p0, .int p1] (QI D (U := GS) (fun r u => 0 = r ∧ S = u) (mw cy a)) := by
  refine Ct.ofZ RX12 "debt" [(0, .ref (a 0)), (1, .int 0), (2, .int p0), (3, .int p1)] rfl rfl rfl rfl (Nat.le_of_ble_eq_true rfl) ?_
  intro p e R s m args below meth c A b
  refine z_iload_n b dX12_debt_0 rfl rfl ?_
  refine z_calli b (z_runS (As := [.int 0]) (st := []) b (c_X12_isOne_2 S ) cf_X12_isOne wm_X12_170 ws_X12_isOne dX12_debt_1 rfl (Nat.le_of_ble_eq_true rfl) ⟨by decide, by decide, by decide, by decide⟩) (fun r898 u899 h897 => ?_)
  obtain ⟨rfl, rfl⟩ := h897
  refine z_if_eq_f (tgt := 29) b dX12_debt_4 (by decide) (by decide) ?_
  refine z_iload_n b dX12_debt_7 rfl rfl ?_
  refine z_calli b (z_runS (As := [.int p0]) (st := []) b (c_X12_isOne S p0 ) cf_X12_isOne wm_X12_170 ws_X12_isOne dX12_debt_8 rfl (Nat.le_of_ble_eq_true rfl) ⟨by decide, by decide, by decide, by decide⟩) (fun r901 u902 h900 => ?_)
  rcases h900 with ⟨c903, rfl, rfl⟩ | ⟨c904, rfl, rfl⟩
  · refine z_if_eq_t (tgt := 29) b dX12_debt_11 (by decide) (by decide) ?_
    refine z_iconst (v := 0) b dX12_debt_29 (by decide) ?_
    exact z_zret (u := S) b rfl (by decide) dX12_debt_30 ⟨rfl, rfl⟩ rfl (by decide) (by decide)
  · exfalso; omega

set_option maxHeartbeats 4000000 in
set_option maxRecDepth 100000 in
theorem c_X11_debt_4 {l : Launch} {D : va_G} {cy : Nat → ClassId} {T0 tB tE : Nat} {a : Nat → Nat} {rw : Nat → Option Nat} (S : GS) (p0 : Int32) (p1 : Int32)  (hr_p0 : 3 ≤ p0.toInt ∧ p0.toInt ≤ 2147483647) : Ct l D cy T0 tB tE yX11_debt cX11_debt 4 (some .boolean) 2 41 0 0 (cw cy tE a rw S) [.ref (a 0), .int 0, .int p0, .int p1] (QI D (U := GS) (fun r u => 0 = r ∧ S = u) (cw cy tE a rw)) := by
  refine Ct.ofZ RX11 "debt" [(0, .ref (a 0)), (1, .int 0), (2, .int p0), (3, .int p1)] rfl rfl rfl rfl (Nat.le_of_ble_eq_true rfl) ?_
  intro p e R s m args below meth c A b
  refine z_iload_n b dX11_debt_0 rfl rfl ?_
  refine z_iload_n b dX11_debt_1 rfl rfl ?_
  refine z_calli b (z_runS (As := [.int 0, .int p0]) (st := []) b (c_X11_arePair_2 S p0 ) cf_X11_arePair wm_X11_84 ws_X11_arePair dX11_debt_2 rfl (Nat.le_of_ble_eq_true rfl) ⟨by decide, by decide, by decide, by decide⟩) (fun r906 u907 h905 => ?_)
  rcases h905 with ⟨c908, rfl, rfl⟩ | ⟨c909, rfl, rfl⟩
  · refine z_if_eq_t (tgt := 17) b dX11_debt_5 (by decide) (by decide) ?_
    refine z_iconst (v := 0) b dX11_debt_17 (by decide) ?_
    exact z_zret (u := S) b rfl (by decide) dX11_debt_18 ⟨rfl, rfl⟩ rfl (by decide) (by decide)
  · exfalso; omega

set_option maxHeartbeats 4000000 in
set_option maxRecDepth 100000 in
theorem c_X12_debt_4 {l : Launch} {D : va_G} {cy : Nat → ClassId} {T0 tB tE : Nat} {a : Nat → Nat} (S : GS) (p0 : Int32) (p1 : Int32)  (hr_p0 : 3 ≤ p0.toInt ∧ p0.toInt ≤ 2147483647) : Ct l D cy T0 tB tE yX12_debt cX12_debt 4 (some .boolean) 2 42 0 0 (mw cy a S) [.ref (a 0), .int 0, .int p0, .int p1] (QI D (U := GS) (fun r u => 0 = r ∧ S = u) (mw cy a)) := by
  refine Ct.ofZ RX12 "debt" [(0, .ref (a 0)), (1, .int 0), (2, .int p0), (3, .int p1)] rfl rfl rfl rfl (Nat.le_of_ble_eq_true rfl) ?_
  intro p e R s m args below meth c A b
  refine z_iload_n b dX12_debt_0 rfl rfl ?_
  refine z_calli b (z_runS (As := [.int 0]) (st := []) b (c_X12_isOne_2 S ) cf_X12_isOne wm_X12_170 ws_X12_isOne dX12_debt_1 rfl (Nat.le_of_ble_eq_true rfl) ⟨by decide, by decide, by decide, by decide⟩) (fun r911 u912 h910 => ?_)
  obtain ⟨rfl, rfl⟩ := h910
  refine z_if_eq_f (tgt := 29) b dX12_debt_4 (by decide) (by decide) ?_
  refine z_iload_n b dX12_debt_7 rfl rfl ?_
  refine z_calli b (z_runS (As := [.int p0]) (st := []) b (c_X12_isOne S p0 ) cf_X12_isOne wm_X12_170 ws_X12_isOne dX12_debt_8 rfl (Nat.le_of_ble_eq_true rfl) ⟨by decide, by decide, by decide, by decide⟩) (fun r914 u915 h913 => ?_)
  rcases h913 with ⟨c916, rfl, rfl⟩ | ⟨c917, rfl, rfl⟩
  · refine z_if_eq_t (tgt := 29) b dX12_debt_11 (by decide) (by decide) ?_
    refine z_iconst (v := 0) b dX12_debt_29 (by decide) ?_
    exact z_zret (u := S) b rfl (by decide) dX12_debt_30 ⟨rfl, rfl⟩ rfl (by decide) (by decide)
  · exfalso; omega

set_option maxHeartbeats 4000000 in
set_option maxRecDepth 100000 in
theorem c_X11_arePair_3 {l : Launch} {D : va_G} {cy : Nat → ClassId} {T0 tB tE : Nat} {a : Nat → Nat} {rw : Nat → Option Nat} (S : GS) (p0 : Int32)  : Ct l D cy T0 tB tE yX11_arePair cX11_arePair 2 (some .boolean) 1 20 0 0 (cw cy tE a rw S) [.int 1, .int p0] (QI D (U := GS) (fun r u => ((((((p0.toInt < 0)) ∨ ((0 ≤ p0.toInt) ∧ (3 ≤ p0.toInt)))) ∨ (((0 ≤ p0.toInt) ∧ (p0.toInt < 3)) ∧ (1 = p0.toInt))) ∧ 0 = r ∧ S = u) ∨ ((((0 ≤ p0.toInt) ∧ (p0.toInt < 3)) ∧ (1 ≠ p0.toInt)) ∧ 1 = r ∧ S = u)) (cw cy tE a rw)) := by
  refine Ct.ofZ RX11 "arePair" [(0, .int 1), (1, .int p0)] rfl rfl rfl rfl (Nat.le_of_ble_eq_true rfl) ?_
  intro p e R s m args below meth c A b
  refine z_iload_n b dX11_arePair_0 rfl rfl ?_
  refine z_calli b (z_runS (As := [.int 1]) (st := []) b (c_X11_isPerson_3 S ) cf_X11_isPerson wm_X11_69 ws_X11_isPerson dX11_arePair_1 rfl (Nat.le_of_ble_eq_true rfl) ⟨by decide, by decide, by decide, by decide⟩) (fun r919 u920 h918 => ?_)
  obtain ⟨rfl, rfl⟩ := h918
  refine z_if_eq_f (tgt := 23) b dX11_arePair_4 (by decide) (by decide) ?_
  refine z_iload_n b dX11_arePair_7 rfl rfl ?_
  refine z_calli b (z_runS (As := [.int p0]) (st := []) b (c_X11_isPerson S p0 ) cf_X11_isPerson wm_X11_69 ws_X11_isPerson dX11_arePair_8 rfl (Nat.le_of_ble_eq_true rfl) ⟨by decide, by decide, by decide, by decide⟩) (fun r922 u923 h921 => ?_)
  rcases h921 with ⟨c924, rfl, rfl⟩ | ⟨c925, rfl, rfl⟩
  · refine z_if_eq_t (tgt := 23) b dX11_arePair_11 (by decide) (by decide) ?_
    refine z_iconst (v := 0) b dX11_arePair_23 (by decide) ?_
    exact z_zret (u := S) b rfl (by decide) dX11_arePair_24 (Or.inl ⟨(Or.inl c924), rfl, rfl⟩) rfl (by decide) (by decide)
  · refine z_if_eq_f (tgt := 23) b dX11_arePair_11 (by decide) (by decide) ?_
    refine z_iload_n b dX11_arePair_14 rfl rfl ?_
    refine z_iload_n b dX11_arePair_15 rfl rfl ?_
    refine y_icmp_eq (tgt := 23) (xl := 1) (yl := p0.toInt) b (by decide) rfl dX11_arePair_16 (by decide) (fun c926 => ?_) (fun c926 => ?_)
    · refine z_iconst (v := 0) b dX11_arePair_23 (by decide) ?_
      exact z_zret (u := S) b rfl (by decide) dX11_arePair_24 (Or.inl ⟨(Or.inr ⟨c925, c926⟩), rfl, rfl⟩) rfl (by decide) (by decide)
    · refine z_iconst (v := 1) b dX11_arePair_19 (by decide) ?_
      refine z_goto (tgt := 24) b dX11_arePair_20 (by decide) ?_
      exact z_zret (u := S) b rfl (by decide) dX11_arePair_24 (Or.inr ⟨⟨c925, c926⟩, rfl, rfl⟩) rfl (by decide) (by decide)

set_option maxHeartbeats 4000000 in
set_option maxRecDepth 100000 in
theorem c_X11_debt_5 {l : Launch} {D : va_G} {cy : Nat → ClassId} {T0 tB tE : Nat} {a : Nat → Nat} {rw : Nat → Option Nat} (S : GS) (p0 : Int32) (p1 : Int32)  (hr_p0 : (-2147483648) ≤ p0.toInt ∧ p0.toInt ≤ (-1)) : Ct l D cy T0 tB tE yX11_debt cX11_debt 4 (some .boolean) 2 41 0 0 (cw cy tE a rw S) [.ref (a 0), .int 1, .int p0, .int p1] (QI D (U := GS) (fun r u => 0 = r ∧ S = u) (cw cy tE a rw)) := by
  refine Ct.ofZ RX11 "debt" [(0, .ref (a 0)), (1, .int 1), (2, .int p0), (3, .int p1)] rfl rfl rfl rfl (Nat.le_of_ble_eq_true rfl) ?_
  intro p e R s m args below meth c A b
  refine z_iload_n b dX11_debt_0 rfl rfl ?_
  refine z_iload_n b dX11_debt_1 rfl rfl ?_
  refine z_calli b (z_runS (As := [.int 1, .int p0]) (st := []) b (c_X11_arePair_3 S p0 ) cf_X11_arePair wm_X11_84 ws_X11_arePair dX11_debt_2 rfl (Nat.le_of_ble_eq_true rfl) ⟨by decide, by decide, by decide, by decide⟩) (fun r928 u929 h927 => ?_)
  rcases h927 with ⟨c930, rfl, rfl⟩ | ⟨c931, rfl, rfl⟩
  · refine z_if_eq_t (tgt := 17) b dX11_debt_5 (by decide) (by decide) ?_
    refine z_iconst (v := 0) b dX11_debt_17 (by decide) ?_
    exact z_zret (u := S) b rfl (by decide) dX11_debt_18 ⟨rfl, rfl⟩ rfl (by decide) (by decide)
  · exfalso; omega

set_option maxHeartbeats 4000000 in
set_option maxRecDepth 100000 in
theorem c_X12_debt_5 {l : Launch} {D : va_G} {cy : Nat → ClassId} {T0 tB tE : Nat} {a : Nat → Nat} (S : GS) (p0 : Int32) (p1 : Int32)  (hr_p0 : (-2147483648) ≤ p0.toInt ∧ p0.toInt ≤ (-1)) : Ct l D cy T0 tB tE yX12_debt cX12_debt 4 (some .boolean) 2 42 0 0 (mw cy a S) [.ref (a 0), .int 1, .int p0, .int p1] (QI D (U := GS) (fun r u => 0 = r ∧ S = u) (mw cy a)) := by
  refine Ct.ofZ RX12 "debt" [(0, .ref (a 0)), (1, .int 1), (2, .int p0), (3, .int p1)] rfl rfl rfl rfl (Nat.le_of_ble_eq_true rfl) ?_
  intro p e R s m args below meth c A b
  refine z_iload_n b dX12_debt_0 rfl rfl ?_
  refine z_calli b (z_runS (As := [.int 1]) (st := []) b (c_X12_isOne_3 S ) cf_X12_isOne wm_X12_170 ws_X12_isOne dX12_debt_1 rfl (Nat.le_of_ble_eq_true rfl) ⟨by decide, by decide, by decide, by decide⟩) (fun r933 u934 h932 => ?_)
  obtain ⟨rfl, rfl⟩ := h932
  refine z_if_eq_f (tgt := 29) b dX12_debt_4 (by decide) (by decide) ?_
  refine z_iload_n b dX12_debt_7 rfl rfl ?_
  refine z_calli b (z_runS (As := [.int p0]) (st := []) b (c_X12_isOne S p0 ) cf_X12_isOne wm_X12_170 ws_X12_isOne dX12_debt_8 rfl (Nat.le_of_ble_eq_true rfl) ⟨by decide, by decide, by decide, by decide⟩) (fun r936 u937 h935 => ?_)
  rcases h935 with ⟨c938, rfl, rfl⟩ | ⟨c939, rfl, rfl⟩
  · refine z_if_eq_t (tgt := 29) b dX12_debt_11 (by decide) (by decide) ?_
    refine z_iconst (v := 0) b dX12_debt_29 (by decide) ?_
    exact z_zret (u := S) b rfl (by decide) dX12_debt_30 ⟨rfl, rfl⟩ rfl (by decide) (by decide)
  · exfalso; omega

set_option maxHeartbeats 4000000 in
set_option maxRecDepth 100000 in
theorem c_X11_debt_6 {l : Launch} {D : va_G} {cy : Nat → ClassId} {T0 tB tE : Nat} {a : Nat → Nat} {rw : Nat → Option Nat} (S : GS) (p0 : Int32) (p1 : Int32)  (hr_p0 : 3 ≤ p0.toInt ∧ p0.toInt ≤ 2147483647) : Ct l D cy T0 tB tE yX11_debt cX11_debt 4 (some .boolean) 2 41 0 0 (cw cy tE a rw S) [.ref (a 0), .int 1, .int p0, .int p1] (QI D (U := GS) (fun r u => 0 = r ∧ S = u) (cw cy tE a rw)) := by
  refine Ct.ofZ RX11 "debt" [(0, .ref (a 0)), (1, .int 1), (2, .int p0), (3, .int p1)] rfl rfl rfl rfl (Nat.le_of_ble_eq_true rfl) ?_
  intro p e R s m args below meth c A b
  refine z_iload_n b dX11_debt_0 rfl rfl ?_
  refine z_iload_n b dX11_debt_1 rfl rfl ?_
  refine z_calli b (z_runS (As := [.int 1, .int p0]) (st := []) b (c_X11_arePair_3 S p0 ) cf_X11_arePair wm_X11_84 ws_X11_arePair dX11_debt_2 rfl (Nat.le_of_ble_eq_true rfl) ⟨by decide, by decide, by decide, by decide⟩) (fun r941 u942 h940 => ?_)
  rcases h940 with ⟨c943, rfl, rfl⟩ | ⟨c944, rfl, rfl⟩
  · refine z_if_eq_t (tgt := 17) b dX11_debt_5 (by decide) (by decide) ?_
    refine z_iconst (v := 0) b dX11_debt_17 (by decide) ?_
    exact z_zret (u := S) b rfl (by decide) dX11_debt_18 ⟨rfl, rfl⟩ rfl (by decide) (by decide)
  · exfalso; omega

set_option maxHeartbeats 4000000 in
set_option maxRecDepth 100000 in
theorem c_X12_debt_6 {l : Launch} {D : va_G} {cy : Nat → ClassId} {T0 tB tE : Nat} {a : Nat → Nat} (S : GS) (p0 : Int32) (p1 : Int32)  (hr_p0 : 3 ≤ p0.toInt ∧ p0.toInt ≤ 2147483647) : Ct l D cy T0 tB tE yX12_debt cX12_debt 4 (some .boolean) 2 42 0 0 (mw cy a S) [.ref (a 0), .int 1, .int p0, .int p1] (QI D (U := GS) (fun r u => 0 = r ∧ S = u) (mw cy a)) := by
  refine Ct.ofZ RX12 "debt" [(0, .ref (a 0)), (1, .int 1), (2, .int p0), (3, .int p1)] rfl rfl rfl rfl (Nat.le_of_ble_eq_true rfl) ?_
  intro p e R s m args below meth c A b
  refine z_iload_n b dX12_debt_0 rfl rfl ?_
  refine z_calli b (z_runS (As := [.int 1]) (st := []) b (c_X12_isOne_3 S ) cf_X12_isOne wm_X12_170 ws_X12_isOne dX12_debt_1 rfl (Nat.le_of_ble_eq_true rfl) ⟨by decide, by decide, by decide, by decide⟩) (fun r946 u947 h945 => ?_)
  obtain ⟨rfl, rfl⟩ := h945
  refine z_if_eq_f (tgt := 29) b dX12_debt_4 (by decide) (by decide) ?_
  refine z_iload_n b dX12_debt_7 rfl rfl ?_
  refine z_calli b (z_runS (As := [.int p0]) (st := []) b (c_X12_isOne S p0 ) cf_X12_isOne wm_X12_170 ws_X12_isOne dX12_debt_8 rfl (Nat.le_of_ble_eq_true rfl) ⟨by decide, by decide, by decide, by decide⟩) (fun r949 u950 h948 => ?_)
  rcases h948 with ⟨c951, rfl, rfl⟩ | ⟨c952, rfl, rfl⟩
  · refine z_if_eq_t (tgt := 29) b dX12_debt_11 (by decide) (by decide) ?_
    refine z_iconst (v := 0) b dX12_debt_29 (by decide) ?_
    exact z_zret (u := S) b rfl (by decide) dX12_debt_30 ⟨rfl, rfl⟩ rfl (by decide) (by decide)
  · exfalso; omega

set_option maxHeartbeats 4000000 in
set_option maxRecDepth 100000 in
theorem c_X11_arePair_4 {l : Launch} {D : va_G} {cy : Nat → ClassId} {T0 tB tE : Nat} {a : Nat → Nat} {rw : Nat → Option Nat} (S : GS) (p0 : Int32)  : Ct l D cy T0 tB tE yX11_arePair cX11_arePair 2 (some .boolean) 1 20 0 0 (cw cy tE a rw S) [.int 2, .int p0] (QI D (U := GS) (fun r u => ((((((p0.toInt < 0)) ∨ ((0 ≤ p0.toInt) ∧ (3 ≤ p0.toInt)))) ∨ (((0 ≤ p0.toInt) ∧ (p0.toInt < 3)) ∧ (2 = p0.toInt))) ∧ 0 = r ∧ S = u) ∨ ((((0 ≤ p0.toInt) ∧ (p0.toInt < 3)) ∧ (2 ≠ p0.toInt)) ∧ 1 = r ∧ S = u)) (cw cy tE a rw)) := by
  refine Ct.ofZ RX11 "arePair" [(0, .int 2), (1, .int p0)] rfl rfl rfl rfl (Nat.le_of_ble_eq_true rfl) ?_
  intro p e R s m args below meth c A b
  refine z_iload_n b dX11_arePair_0 rfl rfl ?_
  refine z_calli b (z_runS (As := [.int 2]) (st := []) b (c_X11_isPerson_4 S ) cf_X11_isPerson wm_X11_69 ws_X11_isPerson dX11_arePair_1 rfl (Nat.le_of_ble_eq_true rfl) ⟨by decide, by decide, by decide, by decide⟩) (fun r954 u955 h953 => ?_)
  obtain ⟨rfl, rfl⟩ := h953
  refine z_if_eq_f (tgt := 23) b dX11_arePair_4 (by decide) (by decide) ?_
  refine z_iload_n b dX11_arePair_7 rfl rfl ?_
  refine z_calli b (z_runS (As := [.int p0]) (st := []) b (c_X11_isPerson S p0 ) cf_X11_isPerson wm_X11_69 ws_X11_isPerson dX11_arePair_8 rfl (Nat.le_of_ble_eq_true rfl) ⟨by decide, by decide, by decide, by decide⟩) (fun r957 u958 h956 => ?_)
  rcases h956 with ⟨c959, rfl, rfl⟩ | ⟨c960, rfl, rfl⟩
  · refine z_if_eq_t (tgt := 23) b dX11_arePair_11 (by decide) (by decide) ?_
    refine z_iconst (v := 0) b dX11_arePair_23 (by decide) ?_
    exact z_zret (u := S) b rfl (by decide) dX11_arePair_24 (Or.inl ⟨(Or.inl c959), rfl, rfl⟩) rfl (by decide) (by decide)
  · refine z_if_eq_f (tgt := 23) b dX11_arePair_11 (by decide) (by decide) ?_
    refine z_iload_n b dX11_arePair_14 rfl rfl ?_
    refine z_iload_n b dX11_arePair_15 rfl rfl ?_
    refine y_icmp_eq (tgt := 23) (xl := 2) (yl := p0.toInt) b (by decide) rfl dX11_arePair_16 (by decide) (fun c961 => ?_) (fun c961 => ?_)
    · refine z_iconst (v := 0) b dX11_arePair_23 (by decide) ?_
      exact z_zret (u := S) b rfl (by decide) dX11_arePair_24 (Or.inl ⟨(Or.inr ⟨c960, c961⟩), rfl, rfl⟩) rfl (by decide) (by decide)
    · refine z_iconst (v := 1) b dX11_arePair_19 (by decide) ?_
      refine z_goto (tgt := 24) b dX11_arePair_20 (by decide) ?_
      exact z_zret (u := S) b rfl (by decide) dX11_arePair_24 (Or.inr ⟨⟨c960, c961⟩, rfl, rfl⟩) rfl (by decide) (by decide)

set_option maxHeartbeats 4000000 in
set_option maxRecDepth 100000 in
theorem c_X11_debt_7 {l : Launch} {D : va_G} {cy : Nat → ClassId} {T0 tB tE : Nat} {a : Nat → Nat} {rw : Nat → Option Nat} (S : GS) (p0 : Int32) (p1 : Int32)  (hr_p0 : (-2147483648) ≤ p0.toInt ∧ p0.toInt ≤ (-1)) : Ct l D cy T0 tB tE yX11_debt cX11_debt 4 (some .boolean) 2 41 0 0 (cw cy tE a rw S) [.ref (a 0), .int 2, .int p0, .int p1] (QI D (U := GS) (fun r u => 0 = r ∧ S = u) (cw cy tE a rw)) := by
  refine Ct.ofZ RX11 "debt" [(0, .ref (a 0)), (1, .int 2), (2, .int p0), (3, .int p1)] rfl rfl rfl rfl (Nat.le_of_ble_eq_true rfl) ?_
  intro p e R s m args below meth c A b
  refine z_iload_n b dX11_debt_0 rfl rfl ?_
  refine z_iload_n b dX11_debt_1 rfl rfl ?_
  refine z_calli b (z_runS (As := [.int 2, .int p0]) (st := []) b (c_X11_arePair_4 S p0 ) cf_X11_arePair wm_X11_84 ws_X11_arePair dX11_debt_2 rfl (Nat.le_of_ble_eq_true rfl) ⟨by decide, by decide, by decide, by decide⟩) (fun r963 u964 h962 => ?_)
  rcases h962 with ⟨c965, rfl, rfl⟩ | ⟨c966, rfl, rfl⟩
  · refine z_if_eq_t (tgt := 17) b dX11_debt_5 (by decide) (by decide) ?_
    refine z_iconst (v := 0) b dX11_debt_17 (by decide) ?_
    exact z_zret (u := S) b rfl (by decide) dX11_debt_18 ⟨rfl, rfl⟩ rfl (by decide) (by decide)
  · exfalso; omega

set_option maxHeartbeats 4000000 in
set_option maxRecDepth 100000 in
theorem c_X12_debt_7 {l : Launch} {D : va_G} {cy : Nat → ClassId} {T0 tB tE : Nat} {a : Nat → Nat} (S : GS) (p0 : Int32) (p1 : Int32)  (hr_p0 : (-2147483648) ≤ p0.toInt ∧ p0.toInt ≤ (-1)) : Ct l D cy T0 tB tE yX12_debt cX12_debt 4 (some .boolean) 2 42 0 0 (mw cy a S) [.ref (a 0), .int 2, .int p0, .int p1] (QI D (U := GS) (fun r u => 0 = r ∧ S = u) (mw cy a)) := by
  refine Ct.ofZ RX12 "debt" [(0, .ref (a 0)), (1, .int 2), (2, .int p0), (3, .int p1)] rfl rfl rfl rfl (Nat.le_of_ble_eq_true rfl) ?_
  intro p e R s m args below meth c A b
  refine z_iload_n b dX12_debt_0 rfl rfl ?_
  refine z_calli b (z_runS (As := [.int 2]) (st := []) b (c_X12_isOne_4 S ) cf_X12_isOne wm_X12_170 ws_X12_isOne dX12_debt_1 rfl (Nat.le_of_ble_eq_true rfl) ⟨by decide, by decide, by decide, by decide⟩) (fun r968 u969 h967 => ?_)
  obtain ⟨rfl, rfl⟩ := h967
  refine z_if_eq_f (tgt := 29) b dX12_debt_4 (by decide) (by decide) ?_
  refine z_iload_n b dX12_debt_7 rfl rfl ?_
  refine z_calli b (z_runS (As := [.int p0]) (st := []) b (c_X12_isOne S p0 ) cf_X12_isOne wm_X12_170 ws_X12_isOne dX12_debt_8 rfl (Nat.le_of_ble_eq_true rfl) ⟨by decide, by decide, by decide, by decide⟩) (fun r971 u972 h970 => ?_)
  rcases h970 with ⟨c973, rfl, rfl⟩ | ⟨c974, rfl, rfl⟩
  · refine z_if_eq_t (tgt := 29) b dX12_debt_11 (by decide) (by decide) ?_
    refine z_iconst (v := 0) b dX12_debt_29 (by decide) ?_
    exact z_zret (u := S) b rfl (by decide) dX12_debt_30 ⟨rfl, rfl⟩ rfl (by decide) (by decide)
  · exfalso; omega

set_option maxHeartbeats 4000000 in
set_option maxRecDepth 100000 in
theorem c_X11_debt_8 {l : Launch} {D : va_G} {cy : Nat → ClassId} {T0 tB tE : Nat} {a : Nat → Nat} {rw : Nat → Option Nat} (S : GS) (p0 : Int32) (p1 : Int32)  (hr_p0 : 3 ≤ p0.toInt ∧ p0.toInt ≤ 2147483647) : Ct l D cy T0 tB tE yX11_debt cX11_debt 4 (some .boolean) 2 41 0 0 (cw cy tE a rw S) [.ref (a 0), .int 2, .int p0, .int p1] (QI D (U := GS) (fun r u => 0 = r ∧ S = u) (cw cy tE a rw)) := by
  refine Ct.ofZ RX11 "debt" [(0, .ref (a 0)), (1, .int 2), (2, .int p0), (3, .int p1)] rfl rfl rfl rfl (Nat.le_of_ble_eq_true rfl) ?_
  intro p e R s m args below meth c A b
  refine z_iload_n b dX11_debt_0 rfl rfl ?_
  refine z_iload_n b dX11_debt_1 rfl rfl ?_
  refine z_calli b (z_runS (As := [.int 2, .int p0]) (st := []) b (c_X11_arePair_4 S p0 ) cf_X11_arePair wm_X11_84 ws_X11_arePair dX11_debt_2 rfl (Nat.le_of_ble_eq_true rfl) ⟨by decide, by decide, by decide, by decide⟩) (fun r976 u977 h975 => ?_)
  rcases h975 with ⟨c978, rfl, rfl⟩ | ⟨c979, rfl, rfl⟩
  · refine z_if_eq_t (tgt := 17) b dX11_debt_5 (by decide) (by decide) ?_
    refine z_iconst (v := 0) b dX11_debt_17 (by decide) ?_
    exact z_zret (u := S) b rfl (by decide) dX11_debt_18 ⟨rfl, rfl⟩ rfl (by decide) (by decide)
  · exfalso; omega

set_option maxHeartbeats 4000000 in
set_option maxRecDepth 100000 in
theorem c_X12_debt_8 {l : Launch} {D : va_G} {cy : Nat → ClassId} {T0 tB tE : Nat} {a : Nat → Nat} (S : GS) (p0 : Int32) (p1 : Int32)  (hr_p0 : 3 ≤ p0.toInt ∧ p0.toInt ≤ 2147483647) : Ct l D cy T0 tB tE yX12_debt cX12_debt 4 (some .boolean) 2 42 0 0 (mw cy a S) [.ref (a 0), .int 2, .int p0, .int p1] (QI D (U := GS) (fun r u => 0 = r ∧ S = u) (mw cy a)) := by
  refine Ct.ofZ RX12 "debt" [(0, .ref (a 0)), (1, .int 2), (2, .int p0), (3, .int p1)] rfl rfl rfl rfl (Nat.le_of_ble_eq_true rfl) ?_
  intro p e R s m args below meth c A b
  refine z_iload_n b dX12_debt_0 rfl rfl ?_
  refine z_calli b (z_runS (As := [.int 2]) (st := []) b (c_X12_isOne_4 S ) cf_X12_isOne wm_X12_170 ws_X12_isOne dX12_debt_1 rfl (Nat.le_of_ble_eq_true rfl) ⟨by decide, by decide, by decide, by decide⟩) (fun r981 u982 h980 => ?_)
  obtain ⟨rfl, rfl⟩ := h980
  refine z_if_eq_f (tgt := 29) b dX12_debt_4 (by decide) (by decide) ?_
  refine z_iload_n b dX12_debt_7 rfl rfl ?_
  refine z_calli b (z_runS (As := [.int p0]) (st := []) b (c_X12_isOne S p0 ) cf_X12_isOne wm_X12_170 ws_X12_isOne dX12_debt_8 rfl (Nat.le_of_ble_eq_true rfl) ⟨by decide, by decide, by decide, by decide⟩) (fun r984 u985 h983 => ?_)
  rcases h983 with ⟨c986, rfl, rfl⟩ | ⟨c987, rfl, rfl⟩
  · refine z_if_eq_t (tgt := 29) b dX12_debt_11 (by decide) (by decide) ?_
    refine z_iconst (v := 0) b dX12_debt_29 (by decide) ?_
    exact z_zret (u := S) b rfl (by decide) dX12_debt_30 ⟨rfl, rfl⟩ rfl (by decide) (by decide)
  · exfalso; omega

set_option maxHeartbeats 4000000 in
set_option maxRecDepth 100000 in
theorem c_X11_arePair_5 {l : Launch} {D : va_G} {cy : Nat → ClassId} {T0 tB tE : Nat} {a : Nat → Nat} {rw : Nat → Option Nat} (S : GS)   : Ct l D cy T0 tB tE yX11_arePair cX11_arePair 2 (some .boolean) 1 20 0 0 (cw cy tE a rw S) [.int 0, .int 0] (QI D (U := GS) (fun r u => 0 = r ∧ S = u) (cw cy tE a rw)) := by
  refine Ct.ofZ RX11 "arePair" [(0, .int 0), (1, .int 0)] rfl rfl rfl rfl (Nat.le_of_ble_eq_true rfl) ?_
  intro p e R s m args below meth c A b
  refine z_iload_n b dX11_arePair_0 rfl rfl ?_
  refine z_calli b (z_runS (As := [.int 0]) (st := []) b (c_X11_isPerson_2 S ) cf_X11_isPerson wm_X11_69 ws_X11_isPerson dX11_arePair_1 rfl (Nat.le_of_ble_eq_true rfl) ⟨by decide, by decide, by decide, by decide⟩) (fun r989 u990 h988 => ?_)
  obtain ⟨rfl, rfl⟩ := h988
  refine z_if_eq_f (tgt := 23) b dX11_arePair_4 (by decide) (by decide) ?_
  refine z_iload_n b dX11_arePair_7 rfl rfl ?_
  refine z_calli b (z_runS (As := [.int 0]) (st := []) b (c_X11_isPerson_2 S ) cf_X11_isPerson wm_X11_69 ws_X11_isPerson dX11_arePair_8 rfl (Nat.le_of_ble_eq_true rfl) ⟨by decide, by decide, by decide, by decide⟩) (fun r992 u993 h991 => ?_)
  obtain ⟨rfl, rfl⟩ := h991
  refine z_if_eq_f (tgt := 23) b dX11_arePair_11 (by decide) (by decide) ?_
  refine z_iload_n b dX11_arePair_14 rfl rfl ?_
  refine z_iload_n b dX11_arePair_15 rfl rfl ?_
  refine z_icmp_eq_t (tgt := 23) b dX11_arePair_16 (by decide) (by decide) ?_
  refine z_iconst (v := 0) b dX11_arePair_23 (by decide) ?_
  exact z_zret (u := S) b rfl (by decide) dX11_arePair_24 ⟨rfl, rfl⟩ rfl (by decide) (by decide)

set_option maxHeartbeats 4000000 in
set_option maxRecDepth 100000 in
theorem c_X11_debt_9 {l : Launch} {D : va_G} {cy : Nat → ClassId} {T0 tB tE : Nat} {a : Nat → Nat} {rw : Nat → Option Nat} (S : GS) (p0 : Int32)  : Ct l D cy T0 tB tE yX11_debt cX11_debt 4 (some .boolean) 2 41 0 0 (cw cy tE a rw S) [.ref (a 0), .int 0, .int 0, .int p0] (QI D (U := GS) (fun r u => 0 = r ∧ S = u) (cw cy tE a rw)) := by
  refine Ct.ofZ RX11 "debt" [(0, .ref (a 0)), (1, .int 0), (2, .int 0), (3, .int p0)] rfl rfl rfl rfl (Nat.le_of_ble_eq_true rfl) ?_
  intro p e R s m args below meth c A b
  refine z_iload_n b dX11_debt_0 rfl rfl ?_
  refine z_iload_n b dX11_debt_1 rfl rfl ?_
  refine z_calli b (z_runS (As := [.int 0, .int 0]) (st := []) b (c_X11_arePair_5 S ) cf_X11_arePair wm_X11_84 ws_X11_arePair dX11_debt_2 rfl (Nat.le_of_ble_eq_true rfl) ⟨by decide, by decide, by decide, by decide⟩) (fun r995 u996 h994 => ?_)
  obtain ⟨rfl, rfl⟩ := h994
  refine z_if_eq_t (tgt := 17) b dX11_debt_5 (by decide) (by decide) ?_
  refine z_iconst (v := 0) b dX11_debt_17 (by decide) ?_
  exact z_zret (u := S) b rfl (by decide) dX11_debt_18 ⟨rfl, rfl⟩ rfl (by decide) (by decide)

set_option maxHeartbeats 4000000 in
set_option maxRecDepth 100000 in
theorem c_X12_debt_9 {l : Launch} {D : va_G} {cy : Nat → ClassId} {T0 tB tE : Nat} {a : Nat → Nat} (S : GS) (p0 : Int32)  : Ct l D cy T0 tB tE yX12_debt cX12_debt 4 (some .boolean) 2 42 0 0 (mw cy a S) [.ref (a 0), .int 0, .int 0, .int p0] (QI D (U := GS) (fun r u => 0 = r ∧ S = u) (mw cy a)) := by
  refine Ct.ofZ RX12 "debt" [(0, .ref (a 0)), (1, .int 0), (2, .int 0), (3, .int p0)] rfl rfl rfl rfl (Nat.le_of_ble_eq_true rfl) ?_
  intro p e R s m args below meth c A b
  refine z_iload_n b dX12_debt_0 rfl rfl ?_
  refine z_calli b (z_runS (As := [.int 0]) (st := []) b (c_X12_isOne_2 S ) cf_X12_isOne wm_X12_170 ws_X12_isOne dX12_debt_1 rfl (Nat.le_of_ble_eq_true rfl) ⟨by decide, by decide, by decide, by decide⟩) (fun r998 u999 h997 => ?_)
  obtain ⟨rfl, rfl⟩ := h997
  refine z_if_eq_f (tgt := 29) b dX12_debt_4 (by decide) (by decide) ?_
  refine z_iload_n b dX12_debt_7 rfl rfl ?_
  refine z_calli b (z_runS (As := [.int 0]) (st := []) b (c_X12_isOne_2 S ) cf_X12_isOne wm_X12_170 ws_X12_isOne dX12_debt_8 rfl (Nat.le_of_ble_eq_true rfl) ⟨by decide, by decide, by decide, by decide⟩) (fun r1001 u1002 h1000 => ?_)
  obtain ⟨rfl, rfl⟩ := h1000
  refine z_if_eq_f (tgt := 29) b dX12_debt_11 (by decide) (by decide) ?_
  refine z_iload_n b dX12_debt_14 rfl rfl ?_
  refine z_iload_n b dX12_debt_15 rfl rfl ?_
  refine z_icmp_eq_t (tgt := 29) b dX12_debt_16 (by decide) (by decide) ?_
  refine z_iconst (v := 0) b dX12_debt_29 (by decide) ?_
  exact z_zret (u := S) b rfl (by decide) dX12_debt_30 ⟨rfl, rfl⟩ rfl (by decide) (by decide)

set_option maxHeartbeats 4000000 in
set_option maxRecDepth 100000 in
theorem c_X11_arePair_6 {l : Launch} {D : va_G} {cy : Nat → ClassId} {T0 tB tE : Nat} {a : Nat → Nat} {rw : Nat → Option Nat} (S : GS)   : Ct l D cy T0 tB tE yX11_arePair cX11_arePair 2 (some .boolean) 1 20 0 0 (cw cy tE a rw S) [.int 1, .int 1] (QI D (U := GS) (fun r u => 0 = r ∧ S = u) (cw cy tE a rw)) := by
  refine Ct.ofZ RX11 "arePair" [(0, .int 1), (1, .int 1)] rfl rfl rfl rfl (Nat.le_of_ble_eq_true rfl) ?_
  intro p e R s m args below meth c A b
  refine z_iload_n b dX11_arePair_0 rfl rfl ?_
  refine z_calli b (z_runS (As := [.int 1]) (st := []) b (c_X11_isPerson_3 S ) cf_X11_isPerson wm_X11_69 ws_X11_isPerson dX11_arePair_1 rfl (Nat.le_of_ble_eq_true rfl) ⟨by decide, by decide, by decide, by decide⟩) (fun r1004 u1005 h1003 => ?_)
  obtain ⟨rfl, rfl⟩ := h1003
  refine z_if_eq_f (tgt := 23) b dX11_arePair_4 (by decide) (by decide) ?_
  refine z_iload_n b dX11_arePair_7 rfl rfl ?_
  refine z_calli b (z_runS (As := [.int 1]) (st := []) b (c_X11_isPerson_3 S ) cf_X11_isPerson wm_X11_69 ws_X11_isPerson dX11_arePair_8 rfl (Nat.le_of_ble_eq_true rfl) ⟨by decide, by decide, by decide, by decide⟩) (fun r1007 u1008 h1006 => ?_)
  obtain ⟨rfl, rfl⟩ := h1006
  refine z_if_eq_f (tgt := 23) b dX11_arePair_11 (by decide) (by decide) ?_
  refine z_iload_n b dX11_arePair_14 rfl rfl ?_
  refine z_iload_n b dX11_arePair_15 rfl rfl ?_
  refine z_icmp_eq_t (tgt := 23) b dX11_arePair_16 (by decide) (by decide) ?_
  refine z_iconst (v := 0) b dX11_arePair_23 (by decide) ?_
  exact z_zret (u := S) b rfl (by decide) dX11_arePair_24 ⟨rfl, rfl⟩ rfl (by decide) (by decide)

set_option maxHeartbeats 4000000 in
set_option maxRecDepth 100000 in
theorem c_X11_debt_10 {l : Launch} {D : va_G} {cy : Nat → ClassId} {T0 tB tE : Nat} {a : Nat → Nat} {rw : Nat → Option Nat} (S : GS) (p0 : Int32)  : Ct l D cy T0 tB tE yX11_debt cX11_debt 4 (some .boolean) 2 41 0 0 (cw cy tE a rw S) [.ref (a 0), .int 1, .int 1, .int p0] (QI D (U := GS) (fun r u => 0 = r ∧ S = u) (cw cy tE a rw)) := by
  refine Ct.ofZ RX11 "debt" [(0, .ref (a 0)), (1, .int 1), (2, .int 1), (3, .int p0)] rfl rfl rfl rfl (Nat.le_of_ble_eq_true rfl) ?_
  intro p e R s m args below meth c A b
  refine z_iload_n b dX11_debt_0 rfl rfl ?_
  refine z_iload_n b dX11_debt_1 rfl rfl ?_
  refine z_calli b (z_runS (As := [.int 1, .int 1]) (st := []) b (c_X11_arePair_6 S ) cf_X11_arePair wm_X11_84 ws_X11_arePair dX11_debt_2 rfl (Nat.le_of_ble_eq_true rfl) ⟨by decide, by decide, by decide, by decide⟩) (fun r1010 u1011 h1009 => ?_)
  obtain ⟨rfl, rfl⟩ := h1009
  refine z_if_eq_t (tgt := 17) b dX11_debt_5 (by decide) (by decide) ?_
  refine z_iconst (v := 0) b dX11_debt_17 (by decide) ?_
  exact z_zret (u := S) b rfl (by decide) dX11_debt_18 ⟨rfl, rfl⟩ rfl (by decide) (by decide)

set_option maxHeartbeats 4000000 in
set_option maxRecDepth 100000 in
theorem c_X12_debt_10 {l : Launch} {D : va_G} {cy : Nat → ClassId} {T0 tB tE : Nat} {a : Nat → Nat} (S : GS) (p0 : Int32)  : Ct l D cy T0 tB tE yX12_debt cX12_debt 4 (some .boolean) 2 42 0 0 (mw cy a S) [.ref (a 0), .int 1, .int 1, .int p0] (QI D (U := GS) (fun r u => 0 = r ∧ S = u) (mw cy a)) := by
  refine Ct.ofZ RX12 "debt" [(0, .ref (a 0)), (1, .int 1), (2, .int 1), (3, .int p0)] rfl rfl rfl rfl (Nat.le_of_ble_eq_true rfl) ?_
  intro p e R s m args below meth c A b
  refine z_iload_n b dX12_debt_0 rfl rfl ?_
  refine z_calli b (z_runS (As := [.int 1]) (st := []) b (c_X12_isOne_3 S ) cf_X12_isOne wm_X12_170 ws_X12_isOne dX12_debt_1 rfl (Nat.le_of_ble_eq_true rfl) ⟨by decide, by decide, by decide, by decide⟩) (fun r1013 u1014 h1012 => ?_)
  obtain ⟨rfl, rfl⟩ := h1012
  refine z_if_eq_f (tgt := 29) b dX12_debt_4 (by decide) (by decide) ?_
  refine z_iload_n b dX12_debt_7 rfl rfl ?_
  refine z_calli b (z_runS (As := [.int 1]) (st := []) b (c_X12_isOne_3 S ) cf_X12_isOne wm_X12_170 ws_X12_isOne dX12_debt_8 rfl (Nat.le_of_ble_eq_true rfl) ⟨by decide, by decide, by decide, by decide⟩) (fun r1016 u1017 h1015 => ?_)
  obtain ⟨rfl, rfl⟩ := h1015
  refine z_if_eq_f (tgt := 29) b dX12_debt_11 (by decide) (by decide) ?_
  refine z_iload_n b dX12_debt_14 rfl rfl ?_
  refine z_iload_n b dX12_debt_15 rfl rfl ?_
  refine z_icmp_eq_t (tgt := 29) b dX12_debt_16 (by decide) (by decide) ?_
  refine z_iconst (v := 0) b dX12_debt_29 (by decide) ?_
  exact z_zret (u := S) b rfl (by decide) dX12_debt_30 ⟨rfl, rfl⟩ rfl (by decide) (by decide)

set_option maxHeartbeats 4000000 in
set_option maxRecDepth 100000 in
theorem c_X11_arePair_7 {l : Launch} {D : va_G} {cy : Nat → ClassId} {T0 tB tE : Nat} {a : Nat → Nat} {rw : Nat → Option Nat} (S : GS)   : Ct l D cy T0 tB tE yX11_arePair cX11_arePair 2 (some .boolean) 1 20 0 0 (cw cy tE a rw S) [.int 2, .int 2] (QI D (U := GS) (fun r u => 0 = r ∧ S = u) (cw cy tE a rw)) := by
  refine Ct.ofZ RX11 "arePair" [(0, .int 2), (1, .int 2)] rfl rfl rfl rfl (Nat.le_of_ble_eq_true rfl) ?_
  intro p e R s m args below meth c A b
  refine z_iload_n b dX11_arePair_0 rfl rfl ?_
  refine z_calli b (z_runS (As := [.int 2]) (st := []) b (c_X11_isPerson_4 S ) cf_X11_isPerson wm_X11_69 ws_X11_isPerson dX11_arePair_1 rfl (Nat.le_of_ble_eq_true rfl) ⟨by decide, by decide, by decide, by decide⟩) (fun r1019 u1020 h1018 => ?_)
  obtain ⟨rfl, rfl⟩ := h1018
  refine z_if_eq_f (tgt := 23) b dX11_arePair_4 (by decide) (by decide) ?_
  refine z_iload_n b dX11_arePair_7 rfl rfl ?_
  refine z_calli b (z_runS (As := [.int 2]) (st := []) b (c_X11_isPerson_4 S ) cf_X11_isPerson wm_X11_69 ws_X11_isPerson dX11_arePair_8 rfl (Nat.le_of_ble_eq_true rfl) ⟨by decide, by decide, by decide, by decide⟩) (fun r1022 u1023 h1021 => ?_)
  obtain ⟨rfl, rfl⟩ := h1021
  refine z_if_eq_f (tgt := 23) b dX11_arePair_11 (by decide) (by decide) ?_
  refine z_iload_n b dX11_arePair_14 rfl rfl ?_
  refine z_iload_n b dX11_arePair_15 rfl rfl ?_
  refine z_icmp_eq_t (tgt := 23) b dX11_arePair_16 (by decide) (by decide) ?_
  refine z_iconst (v := 0) b dX11_arePair_23 (by decide) ?_
  exact z_zret (u := S) b rfl (by decide) dX11_arePair_24 ⟨rfl, rfl⟩ rfl (by decide) (by decide)

set_option maxHeartbeats 4000000 in
set_option maxRecDepth 100000 in
theorem c_X11_debt_11 {l : Launch} {D : va_G} {cy : Nat → ClassId} {T0 tB tE : Nat} {a : Nat → Nat} {rw : Nat → Option Nat} (S : GS) (p0 : Int32)  : Ct l D cy T0 tB tE yX11_debt cX11_debt 4 (some .boolean) 2 41 0 0 (cw cy tE a rw S) [.ref (a 0), .int 2, .int 2, .int p0] (QI D (U := GS) (fun r u => 0 = r ∧ S = u) (cw cy tE a rw)) := by
  refine Ct.ofZ RX11 "debt" [(0, .ref (a 0)), (1, .int 2), (2, .int 2), (3, .int p0)] rfl rfl rfl rfl (Nat.le_of_ble_eq_true rfl) ?_
  intro p e R s m args below meth c A b
  refine z_iload_n b dX11_debt_0 rfl rfl ?_
  refine z_iload_n b dX11_debt_1 rfl rfl ?_
  refine z_calli b (z_runS (As := [.int 2, .int 2]) (st := []) b (c_X11_arePair_7 S ) cf_X11_arePair wm_X11_84 ws_X11_arePair dX11_debt_2 rfl (Nat.le_of_ble_eq_true rfl) ⟨by decide, by decide, by decide, by decide⟩) (fun r1025 u1026 h1024 => ?_)
  obtain ⟨rfl, rfl⟩ := h1024
  refine z_if_eq_t (tgt := 17) b dX11_debt_5 (by decide) (by decide) ?_
  refine z_iconst (v := 0) b dX11_debt_17 (by decide) ?_
  exact z_zret (u := S) b rfl (by decide) dX11_debt_18 ⟨rfl, rfl⟩ rfl (by decide) (by decide)

set_option maxHeartbeats 4000000 in
set_option maxRecDepth 100000 in
theorem c_X12_debt_11 {l : Launch} {D : va_G} {cy : Nat → ClassId} {T0 tB tE : Nat} {a : Nat → Nat} (S : GS) (p0 : Int32)  : Ct l D cy T0 tB tE yX12_debt cX12_debt 4 (some .boolean) 2 42 0 0 (mw cy a S) [.ref (a 0), .int 2, .int 2, .int p0] (QI D (U := GS) (fun r u => 0 = r ∧ S = u) (mw cy a)) := by
  refine Ct.ofZ RX12 "debt" [(0, .ref (a 0)), (1, .int 2), (2, .int 2), (3, .int p0)] rfl rfl rfl rfl (Nat.le_of_ble_eq_true rfl) ?_
  intro p e R s m args below meth c A b
  refine z_iload_n b dX12_debt_0 rfl rfl ?_
  refine z_calli b (z_runS (As := [.int 2]) (st := []) b (c_X12_isOne_4 S ) cf_X12_isOne wm_X12_170 ws_X12_isOne dX12_debt_1 rfl (Nat.le_of_ble_eq_true rfl) ⟨by decide, by decide, by decide, by decide⟩) (fun r1028 u1029 h1027 => ?_)
  obtain ⟨rfl, rfl⟩ := h1027
  refine z_if_eq_f (tgt := 29) b dX12_debt_4 (by decide) (by decide) ?_
  refine z_iload_n b dX12_debt_7 rfl rfl ?_
  refine z_calli b (z_runS (As := [.int 2]) (st := []) b (c_X12_isOne_4 S ) cf_X12_isOne wm_X12_170 ws_X12_isOne dX12_debt_8 rfl (Nat.le_of_ble_eq_true rfl) ⟨by decide, by decide, by decide, by decide⟩) (fun r1031 u1032 h1030 => ?_)
  obtain ⟨rfl, rfl⟩ := h1030
  refine z_if_eq_f (tgt := 29) b dX12_debt_11 (by decide) (by decide) ?_
  refine z_iload_n b dX12_debt_14 rfl rfl ?_
  refine z_iload_n b dX12_debt_15 rfl rfl ?_
  refine z_icmp_eq_t (tgt := 29) b dX12_debt_16 (by decide) (by decide) ?_
  refine z_iconst (v := 0) b dX12_debt_29 (by decide) ?_
  exact z_zret (u := S) b rfl (by decide) dX12_debt_30 ⟨rfl, rfl⟩ rfl (by decide) (by decide)

set_option maxHeartbeats 4000000 in
set_option maxRecDepth 100000 in
theorem c_X11_arePair_8 {l : Launch} {D : va_G} {cy : Nat → ClassId} {T0 tB tE : Nat} {a : Nat → Nat} {rw : Nat → Option Nat} (S : GS)   : Ct l D cy T0 tB tE yX11_arePair cX11_arePair 2 (some .boolean) 1 20 0 0 (cw cy tE a rw S) [.int 0, .int 1] (QI D (U := GS) (fun r u => 1 = r ∧ S = u) (cw cy tE a rw)) := by
  refine Ct.ofZ RX11 "arePair" [(0, .int 0), (1, .int 1)] rfl rfl rfl rfl (Nat.le_of_ble_eq_true rfl) ?_
  intro p e R s m args below meth c A b
  refine z_iload_n b dX11_arePair_0 rfl rfl ?_
  refine z_calli b (z_runS (As := [.int 0]) (st := []) b (c_X11_isPerson_2 S ) cf_X11_isPerson wm_X11_69 ws_X11_isPerson dX11_arePair_1 rfl (Nat.le_of_ble_eq_true rfl) ⟨by decide, by decide, by decide, by decide⟩) (fun r1034 u1035 h1033 => ?_)
  obtain ⟨rfl, rfl⟩ := h1033
  refine z_if_eq_f (tgt := 23) b dX11_arePair_4 (by decide) (by decide) ?_
  refine z_iload_n b dX11_arePair_7 rfl rfl ?_
  refine z_calli b (z_runS (As := [.int 1]) (st := []) b (c_X11_isPerson_3 S ) cf_X11_isPerson wm_X11_69 ws_X11_isPerson dX11_arePair_8 rfl (Nat.le_of_ble_eq_true rfl) ⟨by decide, by decide, by decide, by decide⟩) (fun r1037 u1038 h1036 => ?_)
  obtain ⟨rfl, rfl⟩ := h1036
  refine z_if_eq_f (tgt := 23) b dX11_arePair_11 (by decide) (by decide) ?_
  refine z_iload_n b dX11_arePair_14 rfl rfl ?_
  refine z_iload_n b dX11_arePair_15 rfl rfl ?_
  refine z_icmp_eq_f (tgt := 23) b dX11_arePair_16 (by decide) (by decide) ?_
  refine z_iconst (v := 1) b dX11_arePair_19 (by decide) ?_
  refine z_goto (tgt := 24) b dX11_arePair_20 (by decide) ?_
  exact z_zret (u := S) b rfl (by decide) dX11_arePair_24 ⟨rfl, rfl⟩ rfl (by decide) (by decide)

set_option maxHeartbeats 4000000 in
set_option maxRecDepth 100000 in
theorem c_X11_isWithin_3 {l : Launch} {D : va_G} {cy : Nat → ClassId} {T0 tB tE : Nat} {a : Nat → Nat} {rw : Nat → Option Nat} (S : GS) (p0 : Int32)  : Ct l D cy T0 tB tE yX11_isWithin cX11_isWithin 2 (some .boolean) 0 0 0 0 (cw cy tE a rw S) [.int p0, .int 7] (QI D (U := GS) (fun r u => ((((p0.toInt < 0)) ∨ ((0 ≤ p0.toInt) ∧ (7 < p0.toInt))) ∧ 0 = r ∧ S = u) ∨ (((0 ≤ p0.toInt) ∧ (p0.toInt ≤ 7)) ∧ 1 = r ∧ S = u)) (cw cy tE a rw)) := by
  refine Ct.ofZ RX11 "isWithin" [(0, .int p0), (1, .int 7)] rfl rfl rfl rfl (Nat.le_of_ble_eq_true rfl) ?_
  intro p e R s m args below meth c A b
  refine z_iload_n b dX11_isWithin_0 rfl rfl ?_
  refine y_if_lt (tgt := 13) (xl := p0.toInt) b rfl dX11_isWithin_1 (by decide) (fun c1042 => ?_) (fun c1042 => ?_)
  · refine z_iconst (v := 0) b dX11_isWithin_13 (by decide) ?_
    exact z_zret (u := S) b rfl (by decide) dX11_isWithin_14 (Or.inl ⟨(Or.inl c1042), rfl, rfl⟩) rfl (by decide) (by decide)
  · refine z_iload_n b dX11_isWithin_4 rfl rfl ?_
    refine z_iload_n b dX11_isWithin_5 rfl rfl ?_
    refine y_icmp_gt (tgt := 13) (xl := p0.toInt) (yl := 7) b rfl (by decide) dX11_isWithin_6 (by decide) (fun c1043 => ?_) (fun c1043 => ?_)
    · refine z_iconst (v := 0) b dX11_isWithin_13 (by decide) ?_
      exact z_zret (u := S) b rfl (by decide) dX11_isWithin_14 (Or.inl ⟨(Or.inr ⟨c1042, c1043⟩), rfl, rfl⟩) rfl (by decide) (by decide)
    · refine z_iconst (v := 1) b dX11_isWithin_9 (by decide) ?_
      refine z_goto (tgt := 14) b dX11_isWithin_10 (by decide) ?_
      exact z_zret (u := S) b rfl (by decide) dX11_isWithin_14 (Or.inr ⟨⟨c1042, c1043⟩, rfl, rfl⟩) rfl (by decide) (by decide)

set_option maxHeartbeats 4000000 in
set_option maxRecDepth 100000 in
theorem c_X11_debt_12 {l : Launch} {D : va_G} {cy : Nat → ClassId} {T0 tB tE : Nat} {a : Nat → Nat} {rw : Nat → Option Nat} (S : GS) (p0 : Int32)  (hr_p0 : (-2147483648) ≤ p0.toInt ∧ p0.toInt ≤ (-1)) : Ct l D cy T0 tB tE yX11_debt cX11_debt 4 (some .boolean) 2 41 0 0 (cw cy tE a rw S) [.ref (a 0), .int 0, .int 1, .int p0] (QI D (U := GS) (fun r u => 0 = r ∧ S = u) (cw cy tE a rw)) := by
  refine Ct.ofZ RX11 "debt" [(0, .ref (a 0)), (1, .int 0), (2, .int 1), (3, .int p0)] rfl rfl rfl rfl (Nat.le_of_ble_eq_true rfl) ?_
  intro p e R s m args below meth c A b
  refine z_iload_n b dX11_debt_0 rfl rfl ?_
  refine z_iload_n b dX11_debt_1 rfl rfl ?_
  refine z_calli b (z_runS (As := [.int 0, .int 1]) (st := []) b (c_X11_arePair_8 S ) cf_X11_arePair wm_X11_84 ws_X11_arePair dX11_debt_2 rfl (Nat.le_of_ble_eq_true rfl) ⟨by decide, by decide, by decide, by decide⟩) (fun r1040 u1041 h1039 => ?_)
  obtain ⟨rfl, rfl⟩ := h1039
  refine z_if_eq_f (tgt := 17) b dX11_debt_5 (by decide) (by decide) ?_
  refine z_iload_n b dX11_debt_8 rfl rfl ?_
  refine z_bipush (v := 7) b dX11_debt_9 (by decide) ?_
  refine z_calli b (z_runS (As := [.int p0, .int 7]) (st := []) b (c_X11_isWithin_3 S p0 ) cf_X11_isWithin wm_X11_73 ws_X11_isWithin dX11_debt_11 rfl (Nat.le_of_ble_eq_true rfl) ⟨by decide, by decide, by decide, by decide⟩) (fun r1045 u1046 h1044 => ?_)
  rcases h1044 with ⟨c1047, rfl, rfl⟩ | ⟨c1048, rfl, rfl⟩
  · refine z_if_ne_f (tgt := 19) b dX11_debt_14 (by decide) (by decide) ?_
    refine z_iconst (v := 0) b dX11_debt_17 (by decide) ?_
    exact z_zret (u := S) b rfl (by decide) dX11_debt_18 ⟨rfl, rfl⟩ rfl (by decide) (by decide)
  · exfalso; omega

set_option maxHeartbeats 4000000 in
set_option maxRecDepth 100000 in
theorem c_X12_isIn_7 {l : Launch} {D : va_G} {cy : Nat → ClassId} {T0 tB tE : Nat} {a : Nat → Nat} (S : GS) (p0 : Int32)  : Ct l D cy T0 tB tE yX12_isIn cX12_isIn 3 (some .boolean) 0 0 0 0 (mw cy a S) [.int p0, .int 0, .int 7] (QI D (U := GS) (fun r u => ((((p0.toInt < 0)) ∨ ((0 ≤ p0.toInt) ∧ (7 < p0.toInt))) ∧ 0 = r ∧ S = u) ∨ (((0 ≤ p0.toInt) ∧ (p0.toInt ≤ 7)) ∧ 1 = r ∧ S = u)) (mw cy a)) := by
  refine Ct.ofZ RX12 "isIn" [(0, .int p0), (1, .int 0), (2, .int 7)] rfl rfl rfl rfl (Nat.le_of_ble_eq_true rfl) ?_
  intro p e R s m args below meth c A b
  refine z_iload_n b dX12_isIn_0 rfl rfl ?_
  refine z_iload_n b dX12_isIn_1 rfl rfl ?_
  refine y_icmp_lt (tgt := 14) (xl := p0.toInt) (yl := 0) b rfl (by decide) dX12_isIn_2 (by decide) (fun c1055 => ?_) (fun c1055 => ?_)
  · refine z_iconst (v := 0) b dX12_isIn_14 (by decide) ?_
    exact z_zret (u := S) b rfl (by decide) dX12_isIn_15 (Or.inl ⟨(Or.inl c1055), rfl, rfl⟩) rfl (by decide) (by decide)
  · refine z_iload_n b dX12_isIn_5 rfl rfl ?_
    refine z_iload_n b dX12_isIn_6 rfl rfl ?_
    refine y_icmp_gt (tgt := 14) (xl := p0.toInt) (yl := 7) b rfl (by decide) dX12_isIn_7 (by decide) (fun c1056 => ?_) (fun c1056 => ?_)
    · refine z_iconst (v := 0) b dX12_isIn_14 (by decide) ?_
      exact z_zret (u := S) b rfl (by decide) dX12_isIn_15 (Or.inl ⟨(Or.inr ⟨c1055, c1056⟩), rfl, rfl⟩) rfl (by decide) (by decide)
    · refine z_iconst (v := 1) b dX12_isIn_10 (by decide) ?_
      refine z_goto (tgt := 15) b dX12_isIn_11 (by decide) ?_
      exact z_zret (u := S) b rfl (by decide) dX12_isIn_15 (Or.inr ⟨⟨c1055, c1056⟩, rfl, rfl⟩) rfl (by decide) (by decide)

set_option maxHeartbeats 4000000 in
set_option maxRecDepth 100000 in
theorem c_X12_debt_12 {l : Launch} {D : va_G} {cy : Nat → ClassId} {T0 tB tE : Nat} {a : Nat → Nat} (S : GS) (p0 : Int32)  (hr_p0 : (-2147483648) ≤ p0.toInt ∧ p0.toInt ≤ (-1)) : Ct l D cy T0 tB tE yX12_debt cX12_debt 4 (some .boolean) 2 42 0 0 (mw cy a S) [.ref (a 0), .int 0, .int 1, .int p0] (QI D (U := GS) (fun r u => 0 = r ∧ S = u) (mw cy a)) := by
  refine Ct.ofZ RX12 "debt" [(0, .ref (a 0)), (1, .int 0), (2, .int 1), (3, .int p0)] rfl rfl rfl rfl (Nat.le_of_ble_eq_true rfl) ?_
  intro p e R s m args below meth c A b
  refine z_iload_n b dX12_debt_0 rfl rfl ?_
  refine z_calli b (z_runS (As := [.int 0]) (st := []) b (c_X12_isOne_2 S ) cf_X12_isOne wm_X12_170 ws_X12_isOne dX12_debt_1 rfl (Nat.le_of_ble_eq_true rfl) ⟨by decide, by decide, by decide, by decide⟩) (fun r1050 u1051 h1049 => ?_)
  obtain ⟨rfl, rfl⟩ := h1049
  refine z_if_eq_f (tgt := 29) b dX12_debt_4 (by decide) (by decide) ?_
  refine z_iload_n b dX12_debt_7 rfl rfl ?_
  refine z_calli b (z_runS (As := [.int 1]) (st := []) b (c_X12_isOne_3 S ) cf_X12_isOne wm_X12_170 ws_X12_isOne dX12_debt_8 rfl (Nat.le_of_ble_eq_true rfl) ⟨by decide, by decide, by decide, by decide⟩) (fun r1053 u1054 h1052 => ?_)
  obtain ⟨rfl, rfl⟩ := h1052
  refine z_if_eq_f (tgt := 29) b dX12_debt_11 (by decide) (by decide) ?_
  refine z_iload_n b dX12_debt_14 rfl rfl ?_
  refine z_iload_n b dX12_debt_15 rfl rfl ?_
  refine z_icmp_eq_f (tgt := 29) b dX12_debt_16 (by decide) (by decide) ?_
  refine z_iload_n b dX12_debt_19 rfl rfl ?_
  refine z_iconst (v := 0) b dX12_debt_20 (by decide) ?_
  refine z_bipush (v := 7) b dX12_debt_21 (by decide) ?_
  refine z_calli b (z_runS (As := [.int p0, .int 0, .int 7]) (st := []) b (c_X12_isIn_7 S p0 ) cf_X12_isIn wm_X12_1 ws_X12_isIn dX12_debt_23 rfl (Nat.le_of_ble_eq_true rfl) ⟨by decide, by decide, by decide, by decide⟩) (fun r1058 u1059 h1057 => ?_)
  rcases h1057 with ⟨c1060, rfl, rfl⟩ | ⟨c1061, rfl, rfl⟩
  · refine z_if_ne_f (tgt := 31) b dX12_debt_26 (by decide) (by decide) ?_
    refine z_iconst (v := 0) b dX12_debt_29 (by decide) ?_
    exact z_zret (u := S) b rfl (by decide) dX12_debt_30 ⟨rfl, rfl⟩ rfl (by decide) (by decide)
  · exfalso; omega

set_option maxHeartbeats 4000000 in
set_option maxRecDepth 100000 in
theorem c_X9_set_8 {l : Launch} {D : va_G} {cy : Nat → ClassId} {T0 tB tE : Nat} {a : Nat → Nat} {rw : Nat → Option Nat} (S : GS) (p0 : Int32)  : Ct l D cy T0 tB tE yX9_set cX9_set 3 none 0 0 0 0 (cw cy tE a rw S) [.ref (a 14), .int 11, .int p0] (QV D (U := GS) (fun u => su S 4 11 p0 = u) (cw cy tE a rw)) := by
  refine Ct.ofZ RX9 "set" [(0, .ref (a 14)), (1, .int 11), (2, .int p0)] rfl rfl rfl rfl (Nat.le_of_ble_eq_true rfl) ?_
  intro p e R s m args below meth c A b
  refine z_iload_n b dX9_set_0 rfl rfl ?_
  refine z_if_lt_f (tgt := 20) b dX9_set_1 (by decide) (by decide) ?_
  refine z_iload_n b dX9_set_4 rfl rfl ?_
  refine z_aload_n b dX9_set_5 rfl rfl ?_
  refine z_get (q0 := 14) (k9 := 0) (v := .ref (a 15)) b (cw_14 cy tE a rw S) rfl in_X9 (by decide) wf_X9_11 rfl dX9_set_6 ?_
  refine z_alen (q0 := 15) (t0 := 0) (v := 51) b (cw_15 cy tE a rw S) rfl rfl dX9_set_9 ?_
  refine z_icmp_ge_f (tgt := 20) b dX9_set_10 (by decide) (by decide) ?_
  refine z_aload_n b dX9_set_13 rfl rfl ?_
  refine z_get (q0 := 14) (k9 := 0) (v := .ref (a 15)) b (cw_14 cy tE a rw S) rfl in_X9 (by decide) wf_X9_11 rfl dX9_set_14 ?_
  refine z_iload_n b dX9_set_17 rfl rfl ?_
  refine z_iload_n b dX9_set_18 rfl rfl ?_
  refine y_iast (q0 := 15) (j := 11) b (cw_15 cy tE a rw S) (by decide) dX9_set_19 (cwa_15 cy tE a rw S 11 p0) ?_
  exact z_vret (u := (su S 4 11 p0)) b rfl dX9_set_20 rfl rfl (by decide) (by decide)

set_option maxHeartbeats 4000000 in
set_option maxRecDepth 100000 in
theorem c_X11_debt_13 {l : Launch} {D : va_G} {cy : Nat → ClassId} {T0 tB tE : Nat} {a : Nat → Nat} {rw : Nat → Option Nat} (S : GS) (p0 : Int32) (h_i_24 : fi S 24 = 0) (hr_p0 : 0 ≤ p0.toInt ∧ p0.toInt ≤ 7) : Ct l D cy T0 tB tE yX11_debt cX11_debt 4 (some .boolean) 2 41 0 0 (cw cy tE a rw S) [.ref (a 0), .int 0, .int 1, .int p0] (QI D (U := GS) (fun r u => (((((p0.toInt < 0)) ∨ ((0 ≤ p0.toInt) ∧ (7 < p0.toInt)))) ∧ 0 = r ∧ S = u) ∨ ((((0 ≤ p0.toInt) ∧ (p0.toInt ≤ 7))) ∧ 1 = r ∧ (su S 4 11 p0) = u)) (cw cy tE a rw)) := by
  refine Ct.ofZ RX11 "debt" [(0, .ref (a 0)), (1, .int 0), (2, .int 1), (3, .int p0)] rfl rfl rfl rfl (Nat.le_of_ble_eq_true rfl) ?_
  intro p e R s m args below meth c A b
  refine z_iload_n b dX11_debt_0 rfl rfl ?_
  refine z_iload_n b dX11_debt_1 rfl rfl ?_
  refine z_calli b (z_runS (As := [.int 0, .int 1]) (st := []) b (c_X11_arePair_8 S ) cf_X11_arePair wm_X11_84 ws_X11_arePair dX11_debt_2 rfl (Nat.le_of_ble_eq_true rfl) ⟨by decide, by decide, by decide, by decide⟩) (fun r1063 u1064 h1062 => ?_)
  obtain ⟨rfl, rfl⟩ := h1062
  refine z_if_eq_f (tgt := 17) b dX11_debt_5 (by decide) (by decide) ?_
  refine z_iload_n b dX11_debt_8 rfl rfl ?_
  refine z_bipush (v := 7) b dX11_debt_9 (by decide) ?_
  refine z_calli b (z_runS (As := [.int p0, .int 7]) (st := []) b (c_X11_isWithin_3 S p0 ) cf_X11_isWithin wm_X11_73 ws_X11_isWithin dX11_debt_11 rfl (Nat.le_of_ble_eq_true rfl) ⟨by decide, by decide, by decide, by decide⟩) (fun r1066 u1067 h1065 => ?_)
  rcases h1065 with ⟨c1068, rfl, rfl⟩ | ⟨c1069, rfl, rfl⟩
  · refine z_if_ne_f (tgt := 19) b dX11_debt_14 (by decide) (by decide) ?_
    refine z_iconst (v := 0) b dX11_debt_17 (by decide) ?_
    exact z_zret (u := S) b rfl (by decide) dX11_debt_18 (Or.inl ⟨c1068, rfl, rfl⟩) rfl (by decide) (by decide)
  · refine z_if_ne_t (tgt := 19) b dX11_debt_14 (by decide) (by decide) ?_
    refine z_aload_n b dX11_debt_19 rfl rfl ?_
    refine z_get (q0 := 0) (k9 := 4) (v := .ref (a 14)) b (cw_0 cy tE a rw S) rfl in_X11 (by decide) wf_X11_34 rfl dX11_debt_20 ?_
    refine z_bipush (v := 10) b dX11_debt_23 (by decide) ?_
    refine z_iconst (v := 3) b dX11_debt_25 (by decide) ?_
    refine z_iload_n b dX11_debt_26 rfl rfl ?_
    refine z_imul (v := 0) b dX11_debt_27 (by decide) ?_
    refine z_iadd (v := 10) b dX11_debt_28 (by decide) ?_
    refine z_iload_n b dX11_debt_29 rfl rfl ?_
    refine z_iadd (v := 11) b dX11_debt_30 (by decide) ?_
    refine z_iload_n b dX11_debt_31 rfl rfl ?_
    refine z_callv b (z_runV (q0 := 14) (As := [.int 11, .int p0]) (st := []) b (c_X9_set_8 S p0 ) cf_X9_set (cw_14 cy tE a rw S) rfl wm_X11_77 wi_X9_set ws_X9_set dX11_debt_32 rfl (Nat.le_of_ble_eq_true rfl) ⟨by decide, by decide, by decide, by decide⟩) (fun u1072 h1070 => ?_)
    obtain rfl := h1070
    refine z_aload_n b dX11_debt_35 rfl rfl ?_
    refine z_get (q0 := 0) (k9 := 6) (v := .ref (a 25)) b (cw_0 cy tE a rw (su S 4 11 p0)) rfl in_X11 (by decide) wf_X11_52 rfl dX11_debt_36 ?_
    refine z_callv b (z_runV (q0 := 25) (As := []) (st := []) b (c_X8_forget (su S 4 11 p0) h_i_24) cf_X8_forget (cw_25 cy tE a rw (su S 4 11 p0)) rfl wm_X11_81 wi_X8_forget ws_X8_forget dX11_debt_39 rfl (Nat.le_of_ble_eq_true rfl) ⟨by decide, by decide, by decide, by decide⟩) (fun u1075 h1073 => ?_)
    obtain rfl := h1073
    refine z_iconst (v := 1) b dX11_debt_42 (by decide) ?_
    exact z_zret (u := (su S 4 11 p0)) b rfl (by decide) dX11_debt_43 (Or.inr ⟨c1069, rfl, rfl⟩) rfl (by decide) (by decide)

set_option maxHeartbeats 4000000 in
set_option maxRecDepth 100000 in
theorem ch_X12_packs_18 {p : Program} {l : Launch} {e : Env} {R : Room} {s : State} {m : MethodId} {args : Array Value} {below : List Frame} {meth : Method} {c : Code} {D : va_G} {cy : Nat → ClassId} {T0 tB tE : Nat} {A : Nat → Prop} {Q : State → Prop} {a : Nat → Nat} (S : GS)  (h_a_0_0 : ar S 0 0 = 0) (h_a_0_1 : ar S 0 1 = 0) (h_a_1_2 : ar S 1 2 = 0) (h_a_2_0 : ar S 2 0 = 3) (h_a_3_1 : ar S 3 1 = 0) (h_a_4_1 : ar S 4 1 = 0) (h_a_4_2 : ar S 4 2 = 0) (h_i_0 : fi S 0 = 0) (b : Bz p R s m args meth c D cy T0 tB tE A 5 cX12_packs RX12 (some .long) "packs" 1 21 0 0) (k : Z p l e R s m args below meth c D A 5 Q 0 0 (mw cy a S) [(3, .int 1), (4, .int 2), (1, .long (((((((48 ||| ((ar S 1 1) : Int32).toInt64) <<< ((1 : Int32).toInt64 &&& 63)) ||| 0) <<< ((3 : Int32).toInt64 &&& 63)) ||| 0) <<< ((1 : Int32).toInt64 &&& 63)) ||| 0)), (0, .ref (a 0))] 22 [.int 0, .long ((((((((48 ||| ((ar S 1 1) : Int32).toInt64) <<< ((1 : Int32).toInt64 &&& 63)) ||| 0) <<< ((3 : Int32).toInt64 &&& 63)) ||| 0) <<< ((1 : Int32).toInt64 &&& 63)) ||| 0) <<< ((4 : Int32).toInt64 &&& 63))]) : Z p l e R s m args below meth c D A 5 Q 0 0 (mw cy a S) [(0, .ref (a 0))] 0 [] := by
  refine z_aload_n b dX12_packs_0 rfl rfl ?_
  refine z_get (q0 := 0) (k9 := 5) (v := .int (fi S 0)) b (mw_0 cy a S) rfl in_X12 (by decide) wf_X12_157 rfl dX12_packs_1 ?_
  refine z_eqi h_i_0 ?_
  refine z_i2l (v := 0) b dX12_packs_4 (by decide) ?_
  refine z_lstore_n (lv' := [(1, .long 0), (0, .ref (a 0))]) b dX12_packs_5 rfl (by decide) rfl ?_
  refine z_iconst (v := 0) b dX12_packs_6 (by decide) ?_
  refine z_istore_n (lv' := [(3, .int 0), (1, .long 0), (0, .ref (a 0))]) b dX12_packs_7 rfl (by decide) rfl ?_
  refine z_iload_n b dX12_packs_8 rfl rfl ?_
  refine z_iconst (v := 3) b dX12_packs_9 (by decide) ?_
  refine z_icmp_ge_f (tgt := 134) b dX12_packs_10 (by decide) (by decide) ?_
  refine z_lload_n b dX12_packs_13 rfl rfl ?_
  refine z_iconst (v := 4) b dX12_packs_14 (by decide) ?_
  refine z_lshl (v := 0) b dX12_packs_15 (by decide) ?_
  refine z_aload_n b dX12_packs_16 rfl rfl ?_
  refine z_get (q0 := 0) (k9 := 0) (v := .ref (a 1)) b (mw_0 cy a S) rfl in_X12 (by decide) wf_X12_13 rfl dX12_packs_17 ?_
  refine z_iload_n b dX12_packs_20 rfl rfl ?_
  refine y_iald (q0 := 1) (j := 0) (v := (ar S 0 0)) b (mw_1 cy a S) (by decide) rfl dX12_packs_21 ?_
  refine z_eqi h_a_0_0 ?_
  refine z_i2l (v := 0) b dX12_packs_22 (by decide) ?_
  refine z_lor (v := 0) b dX12_packs_23 (by decide) ?_
  refine z_lstore_n (lv' := [(1, .long 0), (3, .int 0), (0, .ref (a 0))]) b dX12_packs_24 rfl (by decide) rfl ?_
  refine z_lload_n b dX12_packs_25 rfl rfl ?_
  refine z_iconst (v := 2) b dX12_packs_26 (by decide) ?_
  refine z_lshl (v := 0) b dX12_packs_27 (by decide) ?_
  refine z_aload_n b dX12_packs_28 rfl rfl ?_
  refine z_get (q0 := 0) (k9 := 2) (v := .ref (a 3)) b (mw_0 cy a S) rfl in_X12 (by decide) wf_X12_20 rfl dX12_packs_29 ?_
  refine z_iload_n b dX12_packs_32 rfl rfl ?_
  refine y_iald (q0 := 3) (j := 0) (v := (ar S 2 0)) b (mw_3 cy a S) (by decide) rfl dX12_packs_33 ?_
  refine z_eqi h_a_2_0 ?_
  refine z_i2l (v := 3) b dX12_packs_34 (by decide) ?_
  refine z_lor (v := 3) b dX12_packs_35 (by decide) ?_
  refine z_lstore_n (lv' := [(1, .long 3), (3, .int 0), (0, .ref (a 0))]) b dX12_packs_36 rfl (by decide) rfl ?_
  refine z_lload_n b dX12_packs_37 rfl rfl ?_
  refine z_iconst (v := 1) b dX12_packs_38 (by decide) ?_
  refine z_lshl (v := 6) b dX12_packs_39 (by decide) ?_
  refine z_aload_n b dX12_packs_40 rfl rfl ?_
  refine z_get (q0 := 0) (k9 := 3) (v := .ref (a 4)) b (mw_0 cy a S) rfl in_X12 (by decide) wf_X12_23 rfl dX12_packs_41 ?_
  refine z_iconst (v := 3) b dX12_packs_44 (by decide) ?_
  refine z_iload_n b dX12_packs_45 rfl rfl ?_
  refine z_imul (v := 0) b dX12_packs_46 (by decide) ?_
  refine z_iload_n b dX12_packs_47 rfl rfl ?_
  refine z_iconst (v := 0) b dX12_packs_48 (by decide) ?_
  refine z_calli b (z_runS (As := [.int 0, .int 0]) (st := [.int 0, .ref (a 4), .long 6]) b (c_X12_other_6 S ) cf_X12_other wm_X12_160 ws_X12_other dX12_packs_49 rfl (Nat.le_of_ble_eq_true rfl) ⟨by decide, by decide, by decide, by decide⟩) (fun r1091 u1092 h1090 => ?_)
  obtain ⟨rfl, rfl⟩ := h1090
  refine z_iadd (v := 1) b dX12_packs_52 (by decide) ?_
  refine y_zald (q0 := 4) (j := 1) (v := (ar S 3 1)) b (mw_4 cy a S) (by decide) rfl dX12_packs_53 ?_
  refine z_eqi h_a_3_1 ?_
  refine z_if_eq_t (tgt := 61) b dX12_packs_54 (by decide) (by decide) ?_
  refine z_lconst (v := 0) b dX12_packs_61 (by decide) ?_
  refine z_lor (v := 6) b dX12_packs_62 (by decide) ?_
  refine z_lstore_n (lv' := [(1, .long 6), (3, .int 0), (0, .ref (a 0))]) b dX12_packs_63 rfl (by decide) rfl ?_
  refine z_iconst (v := 0) b dX12_packs_64 (by decide) ?_
  refine z_istore (lv' := [(4, .int 0), (1, .long 6), (3, .int 0), (0, .ref (a 0))]) b dX12_packs_65 (by decide) rfl ?_
  refine z_iload b dX12_packs_67 rfl ?_
  refine z_iconst (v := 2) b dX12_packs_69 (by decide) ?_
  refine z_icmp_ge_f (tgt := 128) b dX12_packs_70 (by decide) (by decide) ?_
  refine z_lload_n b dX12_packs_73 rfl rfl ?_
  refine z_iconst (v := 3) b dX12_packs_74 (by decide) ?_
  refine z_lshl (v := 48) b dX12_packs_75 (by decide) ?_
  refine z_aload_n b dX12_packs_76 rfl rfl ?_
  refine z_get (q0 := 0) (k9 := 1) (v := .ref (a 2)) b (mw_0 cy a S) rfl in_X12 (by decide) wf_X12_17 rfl dX12_packs_77 ?_
  refine z_iconst (v := 3) b dX12_packs_80 (by decide) ?_
  refine z_iload_n b dX12_packs_81 rfl rfl ?_
  refine z_imul (v := 0) b dX12_packs_82 (by decide) ?_
  refine z_iload_n b dX12_packs_83 rfl rfl ?_
  refine z_iload b dX12_packs_84 rfl ?_
  refine z_calli b (z_runS (As := [.int 0, .int 0]) (st := [.int 0, .ref (a 2), .long 48]) b (c_X12_other_6 S ) cf_X12_other wm_X12_160 ws_X12_other dX12_packs_86 rfl (Nat.le_of_ble_eq_true rfl) ⟨by decide, by decide, by decide, by decide⟩) (fun r1094 u1095 h1093 => ?_)
  obtain ⟨rfl, rfl⟩ := h1093
  refine z_iadd (v := 1) b dX12_packs_89 (by decide) ?_
  refine y_iald (q0 := 2) (j := 1) (v := (ar S 1 1)) b (mw_2 cy a S) (by decide) rfl dX12_packs_90 ?_
  refine z_i2l b dX12_packs_91 rfl ?_
  refine z_lor b dX12_packs_92 rfl ?_
  refine z_lstore_n (lv' := [(1, .long (48 ||| ((ar S 1 1) : Int32).toInt64)), (4, .int 0), (3, .int 0), (0, .ref (a 0))]) b dX12_packs_93 rfl (by decide) rfl ?_
  refine z_lload_n b dX12_packs_94 rfl rfl ?_
  refine z_iconst (v := 1) b dX12_packs_95 (by decide) ?_
  refine z_lshl b dX12_packs_96 rfl ?_
  refine z_aload_n b dX12_packs_97 rfl rfl ?_
  refine z_get (q0 := 0) (k9 := 4) (v := .ref (a 5)) b (mw_0 cy a S) rfl in_X12 (by decide) wf_X12_27 rfl dX12_packs_98 ?_
  refine z_iconst (v := 3) b dX12_packs_101 (by decide) ?_
  refine z_iload_n b dX12_packs_102 rfl rfl ?_
  refine z_imul (v := 0) b dX12_packs_103 (by decide) ?_
  refine z_iload_n b dX12_packs_104 rfl rfl ?_
  refine z_iload b dX12_packs_105 rfl ?_
  refine z_calli b (z_runS (As := [.int 0, .int 0]) (st := [.int 0, .ref (a 5), .long ((48 ||| ((ar S 1 1) : Int32).toInt64) <<< ((1 : Int32).toInt64 &&& 63))]) b (c_X12_other_6 S ) cf_X12_other wm_X12_160 ws_X12_other dX12_packs_107 rfl (Nat.le_of_ble_eq_true rfl) ⟨by decide, by decide, by decide, by decide⟩) (fun r1097 u1098 h1096 => ?_)
  obtain ⟨rfl, rfl⟩ := h1096
  refine z_iadd (v := 1) b dX12_packs_110 (by decide) ?_
  refine y_zald (q0 := 5) (j := 1) (v := (ar S 4 1)) b (mw_5 cy a S) (by decide) rfl dX12_packs_111 ?_
  refine z_eqi h_a_4_1 ?_
  refine z_if_eq_t (tgt := 119) b dX12_packs_112 (by decide) (by decide) ?_
  refine z_lconst (v := 0) b dX12_packs_119 (by decide) ?_
  refine z_lor b dX12_packs_120 rfl ?_
  refine z_lstore_n (lv' := [(1, .long (((48 ||| ((ar S 1 1) : Int32).toInt64) <<< ((1 : Int32).toInt64 &&& 63)) ||| 0)), (4, .int 0), (3, .int 0), (0, .ref (a 0))]) b dX12_packs_121 rfl (by decide) rfl ?_
  refine z_iinc (k9 := 1) (v := 1) (lv' := [(4, .int 1), (1, .long (((48 ||| ((ar S 1 1) : Int32).toInt64) <<< ((1 : Int32).toInt64 &&& 63)) ||| 0)), (3, .int 0), (0, .ref (a 0))]) b dX12_packs_122 rfl (by decide) (by decide) rfl ?_
  refine z_goto (tgt := 67) b dX12_packs_125 (by decide) ?_
  refine z_iload b dX12_packs_67 rfl ?_
  refine z_iconst (v := 2) b dX12_packs_69 (by decide) ?_
  refine z_icmp_ge_f (tgt := 128) b dX12_packs_70 (by decide) (by decide) ?_
  refine z_lload_n b dX12_packs_73 rfl rfl ?_
  refine z_iconst (v := 3) b dX12_packs_74 (by decide) ?_
  refine z_lshl b dX12_packs_75 rfl ?_
  refine z_aload_n b dX12_packs_76 rfl rfl ?_
  refine z_get (q0 := 0) (k9 := 1) (v := .ref (a 2)) b (mw_0 cy a S) rfl in_X12 (by decide) wf_X12_17 rfl dX12_packs_77 ?_
  refine z_iconst (v := 3) b dX12_packs_80 (by decide) ?_
  refine z_iload_n b dX12_packs_81 rfl rfl ?_
  refine z_imul (v := 0) b dX12_packs_82 (by decide) ?_
  refine z_iload_n b dX12_packs_83 rfl rfl ?_
  refine z_iload b dX12_packs_84 rfl ?_
  refine z_calli b (z_runS (As := [.int 0, .int 1]) (st := [.int 0, .ref (a 2), .long ((((48 ||| ((ar S 1 1) : Int32).toInt64) <<< ((1 : Int32).toInt64 &&& 63)) ||| 0) <<< ((3 : Int32).toInt64 &&& 63))]) b (c_X12_other_5 S ) cf_X12_other wm_X12_160 ws_X12_other dX12_packs_86 rfl (Nat.le_of_ble_eq_true rfl) ⟨by decide, by decide, by decide, by decide⟩) (fun r1100 u1101 h1099 => ?_)
  obtain ⟨rfl, rfl⟩ := h1099
  refine z_iadd (v := 2) b dX12_packs_89 (by decide) ?_
  refine y_iald (q0 := 2) (j := 2) (v := (ar S 1 2)) b (mw_2 cy a S) (by decide) rfl dX12_packs_90 ?_
  refine z_eqi h_a_1_2 ?_
  refine z_i2l (v := 0) b dX12_packs_91 (by decide) ?_
  refine z_lor b dX12_packs_92 rfl ?_
  refine z_lstore_n (lv' := [(1, .long (((((48 ||| ((ar S 1 1) : Int32).toInt64) <<< ((1 : Int32).toInt64 &&& 63)) ||| 0) <<< ((3 : Int32).toInt64 &&& 63)) ||| 0)), (4, .int 1), (3, .int 0), (0, .ref (a 0))]) b dX12_packs_93 rfl (by decide) rfl ?_
  refine z_lload_n b dX12_packs_94 rfl rfl ?_
  refine z_iconst (v := 1) b dX12_packs_95 (by decide) ?_
  refine z_lshl b dX12_packs_96 rfl ?_
  refine z_aload_n b dX12_packs_97 rfl rfl ?_
  refine z_get (q0 := 0) (k9 := 4) (v := .ref (a 5)) b (mw_0 cy a S) rfl in_X12 (by decide) wf_X12_27 rfl dX12_packs_98 ?_
  refine z_iconst (v := 3) b dX12_packs_101 (by decide) ?_
  refine z_iload_n b dX12_packs_102 rfl rfl ?_
  refine z_imul (v := 0) b dX12_packs_103 (by decide) ?_
  refine z_iload_n b dX12_packs_104 rfl rfl ?_
  refine z_iload b dX12_packs_105 rfl ?_
  refine z_calli b (z_runS (As := [.int 0, .int 1]) (st := [.int 0, .ref (a 5), .long ((((((48 ||| ((ar S 1 1) : Int32).toInt64) <<< ((1 : Int32).toInt64 &&& 63)) ||| 0) <<< ((3 : Int32).toInt64 &&& 63)) ||| 0) <<< ((1 : Int32).toInt64 &&& 63))]) b (c_X12_other_5 S ) cf_X12_other wm_X12_160 ws_X12_other dX12_packs_107 rfl (Nat.le_of_ble_eq_true rfl) ⟨by decide, by decide, by decide, by decide⟩) (fun r1103 u1104 h1102 => ?_)
  obtain ⟨rfl, rfl⟩ := h1102
  refine z_iadd (v := 2) b dX12_packs_110 (by decide) ?_
  refine y_zald (q0 := 5) (j := 2) (v := (ar S 4 2)) b (mw_5 cy a S) (by decide) rfl dX12_packs_111 ?_
  refine z_eqi h_a_4_2 ?_
  refine z_if_eq_t (tgt := 119) b dX12_packs_112 (by decide) (by decide) ?_
  refine z_lconst (v := 0) b dX12_packs_119 (by decide) ?_
  refine z_lor b dX12_packs_120 rfl ?_
  refine z_lstore_n (lv' := [(1, .long (((((((48 ||| ((ar S 1 1) : Int32).toInt64) <<< ((1 : Int32).toInt64 &&& 63)) ||| 0) <<< ((3 : Int32).toInt64 &&& 63)) ||| 0) <<< ((1 : Int32).toInt64 &&& 63)) ||| 0)), (4, .int 1), (3, .int 0), (0, .ref (a 0))]) b dX12_packs_121 rfl (by decide) rfl ?_
  refine z_iinc (k9 := 1) (v := 2) (lv' := [(4, .int 2), (1, .long (((((((48 ||| ((ar S 1 1) : Int32).toInt64) <<< ((1 : Int32).toInt64 &&& 63)) ||| 0) <<< ((3 : Int32).toInt64 &&& 63)) ||| 0) <<< ((1 : Int32).toInt64 &&& 63)) ||| 0)), (3, .int 0), (0, .ref (a 0))]) b dX12_packs_122 rfl (by decide) (by decide) rfl ?_
  refine z_goto (tgt := 67) b dX12_packs_125 (by decide) ?_
  refine z_iload b dX12_packs_67 rfl ?_
  refine z_iconst (v := 2) b dX12_packs_69 (by decide) ?_
  refine z_icmp_ge_t (tgt := 128) b dX12_packs_70 (by decide) (by decide) ?_
  refine z_iinc (k9 := 2) (v := 1) (lv' := [(3, .int 1), (4, .int 2), (1, .long (((((((48 ||| ((ar S 1 1) : Int32).toInt64) <<< ((1 : Int32).toInt64 &&& 63)) ||| 0) <<< ((3 : Int32).toInt64 &&& 63)) ||| 0) <<< ((1 : Int32).toInt64 &&& 63)) ||| 0)), (0, .ref (a 0))]) b dX12_packs_128 rfl (by decide) (by decide) rfl ?_
  refine z_goto (tgt := 8) b dX12_packs_131 (by decide) ?_
  refine z_iload_n b dX12_packs_8 rfl rfl ?_
  refine z_iconst (v := 3) b dX12_packs_9 (by decide) ?_
  refine z_icmp_ge_f (tgt := 134) b dX12_packs_10 (by decide) (by decide) ?_
  refine z_lload_n b dX12_packs_13 rfl rfl ?_
  refine z_iconst (v := 4) b dX12_packs_14 (by decide) ?_
  refine z_lshl b dX12_packs_15 rfl ?_
  refine z_aload_n b dX12_packs_16 rfl rfl ?_
  refine z_get (q0 := 0) (k9 := 0) (v := .ref (a 1)) b (mw_0 cy a S) rfl in_X12 (by decide) wf_X12_13 rfl dX12_packs_17 ?_
  refine z_iload_n b dX12_packs_20 rfl rfl ?_
  refine y_iald (q0 := 1) (j := 1) (v := (ar S 0 1)) b (mw_1 cy a S) (by decide) rfl dX12_packs_21 ?_
  refine z_eqi h_a_0_1 ?_
  exact k

set_option maxHeartbeats 4000000 in
set_option maxRecDepth 100000 in
theorem ch_X12_packs_19 {p : Program} {l : Launch} {e : Env} {R : Room} {s : State} {m : MethodId} {args : Array Value} {below : List Frame} {meth : Method} {c : Code} {D : va_G} {cy : Nat → ClassId} {T0 tB tE : Nat} {A : Nat → Prop} {Q : State → Prop} {a : Nat → Nat} (S : GS)  (h_a_0_2 : ar S 0 2 = 0) (h_a_1_3 : ar S 1 3 = 0) (h_a_1_5 : ar S 1 5 = 0) (h_a_2_1 : ar S 2 1 = 3) (h_a_2_2 : ar S 2 2 = 3) (h_a_3_5 : ar S 3 5 = 0) (h_a_4_3 : ar S 4 3 = 0) (h_a_4_5 : ar S 4 5 = 0) (b : Bz p R s m args meth c D cy T0 tB tE A 5 cX12_packs RX12 (some .long) "packs" 1 21 0 0) (k : Z p l e R s m args below meth c D A 5 Q 0 0 (mw cy a S) [(1, .long (((((((((((((((((((((((((48 ||| ((ar S 1 1) : Int32).toInt64) <<< ((1 : Int32).toInt64 &&& 63)) ||| 0) <<< ((3 : Int32).toInt64 &&& 63)) ||| 0) <<< ((1 : Int32).toInt64 &&& 63)) ||| 0) <<< ((4 : Int32).toInt64 &&& 63)) ||| 0) <<< ((2 : Int32).toInt64 &&& 63)) ||| 3) <<< ((1 : Int32).toInt64 &&& 63)) ||| 0) <<< ((3 : Int32).toInt64 &&& 63)) ||| 0) <<< ((1 : Int32).toInt64 &&& 63)) ||| 0) <<< ((3 : Int32).toInt64 &&& 63)) ||| 0) <<< ((1 : Int32).toInt64 &&& 63)) ||| 0) <<< ((4 : Int32).toInt64 &&& 63)) ||| 0) <<< ((2 : Int32).toInt64 &&& 63)) ||| 3)), (3, .int 2), (4, .int 2), (0, .ref (a 0))] 39 [.int 1, .long (((((((((((((((((((((((((48 ||| ((ar S 1 1) : Int32).toInt64) <<< ((1 : Int32).toInt64 &&& 63)) ||| 0) <<< ((3 : Int32).toInt64 &&& 63)) ||| 0) <<< ((1 : Int32).toInt64 &&& 63)) ||| 0) <<< ((4 : Int32).toInt64 &&& 63)) ||| 0) <<< ((2 : Int32).toInt64 &&& 63)) ||| 3) <<< ((1 : Int32).toInt64 &&& 63)) ||| 0) <<< ((3 : Int32).toInt64 &&& 63)) ||| 0) <<< ((1 : Int32).toInt64 &&& 63)) ||| 0) <<< ((3 : Int32).toInt64 &&& 63)) ||| 0) <<< ((1 : Int32).toInt64 &&& 63)) ||| 0) <<< ((4 : Int32).toInt64 &&& 63)) ||| 0) <<< ((2 : Int32).toInt64 &&& 63)) ||| 3)]) : Z p l e R s m args below meth c D A 5 Q 0 0 (mw cy a S) [(3, .int 1), (4, .int 2), (1, .long (((((((48 ||| ((ar S 1 1) : Int32).toInt64) <<< ((1 : Int32).toInt64 &&& 63)) ||| 0) <<< ((3 : Int32).toInt64 &&& 63)) ||| 0) <<< ((1 : Int32).toInt64 &&& 63)) ||| 0)), (0, .ref (a 0))] 22 [.int 0, .long ((((((((48 ||| ((ar S 1 1) : Int32).toInt64) <<< ((1 : Int32).toInt64 &&& 63)) ||| 0) <<< ((3 : Int32).toInt64 &&& 63)) ||| 0) <<< ((1 : Int32).toInt64 &&& 63)) ||| 0) <<< ((4 : Int32).toInt64 &&& 63))] := by
  refine z_i2l (v := 0) b dX12_packs_22 (by decide) ?_
  refine z_lor b dX12_packs_23 rfl ?_
  refine z_lstore_n (lv' := [(1, .long (((((((((48 ||| ((ar S 1 1) : Int32).toInt64) <<< ((1 : Int32).toInt64 &&& 63)) ||| 0) <<< ((3 : Int32).toInt64 &&& 63)) ||| 0) <<< ((1 : Int32).toInt64 &&& 63)) ||| 0) <<< ((4 : Int32).toInt64 &&& 63)) ||| 0)), (3, .int 1), (4, .int 2), (0, .ref (a 0))]) b dX12_packs_24 rfl (by decide) rfl ?_
  refine z_lload_n b dX12_packs_25 rfl rfl ?_
  refine z_iconst (v := 2) b dX12_packs_26 (by decide) ?_
  refine z_lshl b dX12_packs_27 rfl ?_
  refine z_aload_n b dX12_packs_28 rfl rfl ?_
  refine z_get (q0 := 0) (k9 := 2) (v := .ref (a 3)) b (mw_0 cy a S) rfl in_X12 (by decide) wf_X12_20 rfl dX12_packs_29 ?_
  refine z_iload_n b dX12_packs_32 rfl rfl ?_
  refine y_iald (q0 := 3) (j := 1) (v := (ar S 2 1)) b (mw_3 cy a S) (by decide) rfl dX12_packs_33 ?_
  refine z_eqi h_a_2_1 ?_
  refine z_i2l (v := 3) b dX12_packs_34 (by decide) ?_
  refine z_lor b dX12_packs_35 rfl ?_
  refine z_lstore_n (lv' := [(1, .long (((((((((((48 ||| ((ar S 1 1) : Int32).toInt64) <<< ((1 : Int32).toInt64 &&& 63)) ||| 0) <<< ((3 : Int32).toInt64 &&& 63)) ||| 0) <<< ((1 : Int32).toInt64 &&& 63)) ||| 0) <<< ((4 : Int32).toInt64 &&& 63)) ||| 0) <<< ((2 : Int32).toInt64 &&& 63)) ||| 3)), (3, .int 1), (4, .int 2), (0, .ref (a 0))]) b dX12_packs_36 rfl (by decide) rfl ?_
  refine z_lload_n b dX12_packs_37 rfl rfl ?_
  refine z_iconst (v := 1) b dX12_packs_38 (by decide) ?_
  refine z_lshl b dX12_packs_39 rfl ?_
  refine z_aload_n b dX12_packs_40 rfl rfl ?_
  refine z_get (q0 := 0) (k9 := 3) (v := .ref (a 4)) b (mw_0 cy a S) rfl in_X12 (by decide) wf_X12_23 rfl dX12_packs_41 ?_
  refine z_iconst (v := 3) b dX12_packs_44 (by decide) ?_
  refine z_iload_n b dX12_packs_45 rfl rfl ?_
  refine z_imul (v := 3) b dX12_packs_46 (by decide) ?_
  refine z_iload_n b dX12_packs_47 rfl rfl ?_
  refine z_iconst (v := 0) b dX12_packs_48 (by decide) ?_
  refine z_calli b (z_runS (As := [.int 1, .int 0]) (st := [.int 3, .ref (a 4), .long ((((((((((((48 ||| ((ar S 1 1) : Int32).toInt64) <<< ((1 : Int32).toInt64 &&& 63)) ||| 0) <<< ((3 : Int32).toInt64 &&& 63)) ||| 0) <<< ((1 : Int32).toInt64 &&& 63)) ||| 0) <<< ((4 : Int32).toInt64 &&& 63)) ||| 0) <<< ((2 : Int32).toInt64 &&& 63)) ||| 3) <<< ((1 : Int32).toInt64 &&& 63))]) b (c_X12_other_4 S ) cf_X12_other wm_X12_160 ws_X12_other dX12_packs_49 rfl (Nat.le_of_ble_eq_true rfl) ⟨by decide, by decide, by decide, by decide⟩) (fun r1106 u1107 h1105 => ?_)
  obtain ⟨rfl, rfl⟩ := h1105
  refine z_iadd (v := 5) b dX12_packs_52 (by decide) ?_
  refine y_zald (q0 := 4) (j := 5) (v := (ar S 3 5)) b (mw_4 cy a S) (by decide) rfl dX12_packs_53 ?_
  refine z_eqi h_a_3_5 ?_
  refine z_if_eq_t (tgt := 61) b dX12_packs_54 (by decide) (by decide) ?_
  refine z_lconst (v := 0) b dX12_packs_61 (by decide) ?_
  refine z_lor b dX12_packs_62 rfl ?_
  refine z_lstore_n (lv' := [(1, .long (((((((((((((48 ||| ((ar S 1 1) : Int32).toInt64) <<< ((1 : Int32).toInt64 &&& 63)) ||| 0) <<< ((3 : Int32).toInt64 &&& 63)) ||| 0) <<< ((1 : Int32).toInt64 &&& 63)) ||| 0) <<< ((4 : Int32).toInt64 &&& 63)) ||| 0) <<< ((2 : Int32).toInt64 &&& 63)) ||| 3) <<< ((1 : Int32).toInt64 &&& 63)) ||| 0)), (3, .int 1), (4, .int 2), (0, .ref (a 0))]) b dX12_packs_63 rfl (by decide) rfl ?_
  refine z_iconst (v := 0) b dX12_packs_64 (by decide) ?_
  refine z_istore (lv' := [(4, .int 0), (1, .long (((((((((((((48 ||| ((ar S 1 1) : Int32).toInt64) <<< ((1 : Int32).toInt64 &&& 63)) ||| 0) <<< ((3 : Int32).toInt64 &&& 63)) ||| 0) <<< ((1 : Int32).toInt64 &&& 63)) ||| 0) <<< ((4 : Int32).toInt64 &&& 63)) ||| 0) <<< ((2 : Int32).toInt64 &&& 63)) ||| 3) <<< ((1 : Int32).toInt64 &&& 63)) ||| 0)), (3, .int 1), (0, .ref (a 0))]) b dX12_packs_65 (by decide) rfl ?_
  refine z_iload b dX12_packs_67 rfl ?_
  refine z_iconst (v := 2) b dX12_packs_69 (by decide) ?_
  refine z_icmp_ge_f (tgt := 128) b dX12_packs_70 (by decide) (by decide) ?_
  refine z_lload_n b dX12_packs_73 rfl rfl ?_
  refine z_iconst (v := 3) b dX12_packs_74 (by decide) ?_
  refine z_lshl b dX12_packs_75 rfl ?_
  refine z_aload_n b dX12_packs_76 rfl rfl ?_
  refine z_get (q0 := 0) (k9 := 1) (v := .ref (a 2)) b (mw_0 cy a S) rfl in_X12 (by decide) wf_X12_17 rfl dX12_packs_77 ?_
  refine z_iconst (v := 3) b dX12_packs_80 (by decide) ?_
  refine z_iload_n b dX12_packs_81 rfl rfl ?_
  refine z_imul (v := 3) b dX12_packs_82 (by decide) ?_
  refine z_iload_n b dX12_packs_83 rfl rfl ?_
  refine z_iload b dX12_packs_84 rfl ?_
  refine z_calli b (z_runS (As := [.int 1, .int 0]) (st := [.int 3, .ref (a 2), .long ((((((((((((((48 ||| ((ar S 1 1) : Int32).toInt64) <<< ((1 : Int32).toInt64 &&& 63)) ||| 0) <<< ((3 : Int32).toInt64 &&& 63)) ||| 0) <<< ((1 : Int32).toInt64 &&& 63)) ||| 0) <<< ((4 : Int32).toInt64 &&& 63)) ||| 0) <<< ((2 : Int32).toInt64 &&& 63)) ||| 3) <<< ((1 : Int32).toInt64 &&& 63)) ||| 0) <<< ((3 : Int32).toInt64 &&& 63))]) b (c_X12_other_4 S ) cf_X12_other wm_X12_160 ws_X12_other dX12_packs_86 rfl (Nat.le_of_ble_eq_true rfl) ⟨by decide, by decide, by decide, by decide⟩) (fun r1109 u1110 h1108 => ?_)
  obtain ⟨rfl, rfl⟩ := h1108
  refine z_iadd (v := 5) b dX12_packs_89 (by decide) ?_
  refine y_iald (q0 := 2) (j := 5) (v := (ar S 1 5)) b (mw_2 cy a S) (by decide) rfl dX12_packs_90 ?_
  refine z_eqi h_a_1_5 ?_
  refine z_i2l (v := 0) b dX12_packs_91 (by decide) ?_
  refine z_lor b dX12_packs_92 rfl ?_
  refine z_lstore_n (lv' := [(1, .long (((((((((((((((48 ||| ((ar S 1 1) : Int32).toInt64) <<< ((1 : Int32).toInt64 &&& 63)) ||| 0) <<< ((3 : Int32).toInt64 &&& 63)) ||| 0) <<< ((1 : Int32).toInt64 &&& 63)) ||| 0) <<< ((4 : Int32).toInt64 &&& 63)) ||| 0) <<< ((2 : Int32).toInt64 &&& 63)) ||| 3) <<< ((1 : Int32).toInt64 &&& 63)) ||| 0) <<< ((3 : Int32).toInt64 &&& 63)) ||| 0)), (4, .int 0), (3, .int 1), (0, .ref (a 0))]) b dX12_packs_93 rfl (by decide) rfl ?_
  refine z_lload_n b dX12_packs_94 rfl rfl ?_
  refine z_iconst (v := 1) b dX12_packs_95 (by decide) ?_
  refine z_lshl b dX12_packs_96 rfl ?_
  refine z_aload_n b dX12_packs_97 rfl rfl ?_
  refine z_get (q0 := 0) (k9 := 4) (v := .ref (a 5)) b (mw_0 cy a S) rfl in_X12 (by decide) wf_X12_27 rfl dX12_packs_98 ?_
  refine z_iconst (v := 3) b dX12_packs_101 (by decide) ?_
  refine z_iload_n b dX12_packs_102 rfl rfl ?_
  refine z_imul (v := 3) b dX12_packs_103 (by decide) ?_
  refine z_iload_n b dX12_packs_104 rfl rfl ?_
  refine z_iload b dX12_packs_105 rfl ?_
  refine z_calli b (z_runS (As := [.int 1, .int 0]) (st := [.int 3, .ref (a 5), .long ((((((((((((((((48 ||| ((ar S 1 1) : Int32).toInt64) <<< ((1 : Int32).toInt64 &&& 63)) ||| 0) <<< ((3 : Int32).toInt64 &&& 63)) ||| 0) <<< ((1 : Int32).toInt64 &&& 63)) ||| 0) <<< ((4 : Int32).toInt64 &&& 63)) ||| 0) <<< ((2 : Int32).toInt64 &&& 63)) ||| 3) <<< ((1 : Int32).toInt64 &&& 63)) ||| 0) <<< ((3 : Int32).toInt64 &&& 63)) ||| 0) <<< ((1 : Int32).toInt64 &&& 63))]) b (c_X12_other_4 S ) cf_X12_other wm_X12_160 ws_X12_other dX12_packs_107 rfl (Nat.le_of_ble_eq_true rfl) ⟨by decide, by decide, by decide, by decide⟩) (fun r1112 u1113 h1111 => ?_)
  obtain ⟨rfl, rfl⟩ := h1111
  refine z_iadd (v := 5) b dX12_packs_110 (by decide) ?_
  refine y_zald (q0 := 5) (j := 5) (v := (ar S 4 5)) b (mw_5 cy a S) (by decide) rfl dX12_packs_111 ?_
  refine z_eqi h_a_4_5 ?_
  refine z_if_eq_t (tgt := 119) b dX12_packs_112 (by decide) (by decide) ?_
  refine z_lconst (v := 0) b dX12_packs_119 (by decide) ?_
  refine z_lor b dX12_packs_120 rfl ?_
  refine z_lstore_n (lv' := [(1, .long (((((((((((((((((48 ||| ((ar S 1 1) : Int32).toInt64) <<< ((1 : Int32).toInt64 &&& 63)) ||| 0) <<< ((3 : Int32).toInt64 &&& 63)) ||| 0) <<< ((1 : Int32).toInt64 &&& 63)) ||| 0) <<< ((4 : Int32).toInt64 &&& 63)) ||| 0) <<< ((2 : Int32).toInt64 &&& 63)) ||| 3) <<< ((1 : Int32).toInt64 &&& 63)) ||| 0) <<< ((3 : Int32).toInt64 &&& 63)) ||| 0) <<< ((1 : Int32).toInt64 &&& 63)) ||| 0)), (4, .int 0), (3, .int 1), (0, .ref (a 0))]) b dX12_packs_121 rfl (by decide) rfl ?_
  refine z_iinc (k9 := 1) (v := 1) (lv' := [(4, .int 1), (1, .long (((((((((((((((((48 ||| ((ar S 1 1) : Int32).toInt64) <<< ((1 : Int32).toInt64 &&& 63)) ||| 0) <<< ((3 : Int32).toInt64 &&& 63)) ||| 0) <<< ((1 : Int32).toInt64 &&& 63)) ||| 0) <<< ((4 : Int32).toInt64 &&& 63)) ||| 0) <<< ((2 : Int32).toInt64 &&& 63)) ||| 3) <<< ((1 : Int32).toInt64 &&& 63)) ||| 0) <<< ((3 : Int32).toInt64 &&& 63)) ||| 0) <<< ((1 : Int32).toInt64 &&& 63)) ||| 0)), (3, .int 1), (0, .ref (a 0))]) b dX12_packs_122 rfl (by decide) (by decide) rfl ?_
  refine z_goto (tgt := 67) b dX12_packs_125 (by decide) ?_
  refine z_iload b dX12_packs_67 rfl ?_
  refine z_iconst (v := 2) b dX12_packs_69 (by decide) ?_
  refine z_icmp_ge_f (tgt := 128) b dX12_packs_70 (by decide) (by decide) ?_
  refine z_lload_n b dX12_packs_73 rfl rfl ?_
  refine z_iconst (v := 3) b dX12_packs_74 (by decide) ?_
  refine z_lshl b dX12_packs_75 rfl ?_
  refine z_aload_n b dX12_packs_76 rfl rfl ?_
  refine z_get (q0 := 0) (k9 := 1) (v := .ref (a 2)) b (mw_0 cy a S) rfl in_X12 (by decide) wf_X12_17 rfl dX12_packs_77 ?_
  refine z_iconst (v := 3) b dX12_packs_80 (by decide) ?_
  refine z_iload_n b dX12_packs_81 rfl rfl ?_
  refine z_imul (v := 3) b dX12_packs_82 (by decide) ?_
  refine z_iload_n b dX12_packs_83 rfl rfl ?_
  refine z_iload b dX12_packs_84 rfl ?_
  refine z_calli b (z_runS (As := [.int 1, .int 1]) (st := [.int 3, .ref (a 2), .long ((((((((((((((((((48 ||| ((ar S 1 1) : Int32).toInt64) <<< ((1 : Int32).toInt64 &&& 63)) ||| 0) <<< ((3 : Int32).toInt64 &&& 63)) ||| 0) <<< ((1 : Int32).toInt64 &&& 63)) ||| 0) <<< ((4 : Int32).toInt64 &&& 63)) ||| 0) <<< ((2 : Int32).toInt64 &&& 63)) ||| 3) <<< ((1 : Int32).toInt64 &&& 63)) ||| 0) <<< ((3 : Int32).toInt64 &&& 63)) ||| 0) <<< ((1 : Int32).toInt64 &&& 63)) ||| 0) <<< ((3 : Int32).toInt64 &&& 63))]) b (c_X12_other_3 S ) cf_X12_other wm_X12_160 ws_X12_other dX12_packs_86 rfl (Nat.le_of_ble_eq_true rfl) ⟨by decide, by decide, by decide, by decide⟩) (fun r1115 u1116 h1114 => ?_)
  obtain ⟨rfl, rfl⟩ := h1114
  refine z_iadd (v := 3) b dX12_packs_89 (by decide) ?_
  refine y_iald (q0 := 2) (j := 3) (v := (ar S 1 3)) b (mw_2 cy a S) (by decide) rfl dX12_packs_90 ?_
  refine z_eqi h_a_1_3 ?_
  refine z_i2l (v := 0) b dX12_packs_91 (by decide) ?_
  refine z_lor b dX12_packs_92 rfl ?_
  refine z_lstore_n (lv' := [(1, .long (((((((((((((((((((48 ||| ((ar S 1 1) : Int32).toInt64) <<< ((1 : Int32).toInt64 &&& 63)) ||| 0) <<< ((3 : Int32).toInt64 &&& 63)) ||| 0) <<< ((1 : Int32).toInt64 &&& 63)) ||| 0) <<< ((4 : Int32).toInt64 &&& 63)) ||| 0) <<< ((2 : Int32).toInt64 &&& 63)) ||| 3) <<< ((1 : Int32).toInt64 &&& 63)) ||| 0) <<< ((3 : Int32).toInt64 &&& 63)) ||| 0) <<< ((1 : Int32).toInt64 &&& 63)) ||| 0) <<< ((3 : Int32).toInt64 &&& 63)) ||| 0)), (4, .int 1), (3, .int 1), (0, .ref (a 0))]) b dX12_packs_93 rfl (by decide) rfl ?_
  refine z_lload_n b dX12_packs_94 rfl rfl ?_
  refine z_iconst (v := 1) b dX12_packs_95 (by decide) ?_
  refine z_lshl b dX12_packs_96 rfl ?_
  refine z_aload_n b dX12_packs_97 rfl rfl ?_
  refine z_get (q0 := 0) (k9 := 4) (v := .ref (a 5)) b (mw_0 cy a S) rfl in_X12 (by decide) wf_X12_27 rfl dX12_packs_98 ?_
  refine z_iconst (v := 3) b dX12_packs_101 (by decide) ?_
  refine z_iload_n b dX12_packs_102 rfl rfl ?_
  refine z_imul (v := 3) b dX12_packs_103 (by decide) ?_
  refine z_iload_n b dX12_packs_104 rfl rfl ?_
  refine z_iload b dX12_packs_105 rfl ?_
  refine z_calli b (z_runS (As := [.int 1, .int 1]) (st := [.int 3, .ref (a 5), .long ((((((((((((((((((((48 ||| ((ar S 1 1) : Int32).toInt64) <<< ((1 : Int32).toInt64 &&& 63)) ||| 0) <<< ((3 : Int32).toInt64 &&& 63)) ||| 0) <<< ((1 : Int32).toInt64 &&& 63)) ||| 0) <<< ((4 : Int32).toInt64 &&& 63)) ||| 0) <<< ((2 : Int32).toInt64 &&& 63)) ||| 3) <<< ((1 : Int32).toInt64 &&& 63)) ||| 0) <<< ((3 : Int32).toInt64 &&& 63)) ||| 0) <<< ((1 : Int32).toInt64 &&& 63)) ||| 0) <<< ((3 : Int32).toInt64 &&& 63)) ||| 0) <<< ((1 : Int32).toInt64 &&& 63))]) b (c_X12_other_3 S ) cf_X12_other wm_X12_160 ws_X12_other dX12_packs_107 rfl (Nat.le_of_ble_eq_true rfl) ⟨by decide, by decide, by decide, by decide⟩) (fun r1118 u1119 h1117 => ?_)
  obtain ⟨rfl, rfl⟩ := h1117
  refine z_iadd (v := 3) b dX12_packs_110 (by decide) ?_
  refine y_zald (q0 := 5) (j := 3) (v := (ar S 4 3)) b (mw_5 cy a S) (by decide) rfl dX12_packs_111 ?_
  refine z_eqi h_a_4_3 ?_
  refine z_if_eq_t (tgt := 119) b dX12_packs_112 (by decide) (by decide) ?_
  refine z_lconst (v := 0) b dX12_packs_119 (by decide) ?_
  refine z_lor b dX12_packs_120 rfl ?_
  refine z_lstore_n (lv' := [(1, .long (((((((((((((((((((((48 ||| ((ar S 1 1) : Int32).toInt64) <<< ((1 : Int32).toInt64 &&& 63)) ||| 0) <<< ((3 : Int32).toInt64 &&& 63)) ||| 0) <<< ((1 : Int32).toInt64 &&& 63)) ||| 0) <<< ((4 : Int32).toInt64 &&& 63)) ||| 0) <<< ((2 : Int32).toInt64 &&& 63)) ||| 3) <<< ((1 : Int32).toInt64 &&& 63)) ||| 0) <<< ((3 : Int32).toInt64 &&& 63)) ||| 0) <<< ((1 : Int32).toInt64 &&& 63)) ||| 0) <<< ((3 : Int32).toInt64 &&& 63)) ||| 0) <<< ((1 : Int32).toInt64 &&& 63)) ||| 0)), (4, .int 1), (3, .int 1), (0, .ref (a 0))]) b dX12_packs_121 rfl (by decide) rfl ?_
  refine z_iinc (k9 := 1) (v := 2) (lv' := [(4, .int 2), (1, .long (((((((((((((((((((((48 ||| ((ar S 1 1) : Int32).toInt64) <<< ((1 : Int32).toInt64 &&& 63)) ||| 0) <<< ((3 : Int32).toInt64 &&& 63)) ||| 0) <<< ((1 : Int32).toInt64 &&& 63)) ||| 0) <<< ((4 : Int32).toInt64 &&& 63)) ||| 0) <<< ((2 : Int32).toInt64 &&& 63)) ||| 3) <<< ((1 : Int32).toInt64 &&& 63)) ||| 0) <<< ((3 : Int32).toInt64 &&& 63)) ||| 0) <<< ((1 : Int32).toInt64 &&& 63)) ||| 0) <<< ((3 : Int32).toInt64 &&& 63)) ||| 0) <<< ((1 : Int32).toInt64 &&& 63)) ||| 0)), (3, .int 1), (0, .ref (a 0))]) b dX12_packs_122 rfl (by decide) (by decide) rfl ?_
  refine z_goto (tgt := 67) b dX12_packs_125 (by decide) ?_
  refine z_iload b dX12_packs_67 rfl ?_
  refine z_iconst (v := 2) b dX12_packs_69 (by decide) ?_
  refine z_icmp_ge_t (tgt := 128) b dX12_packs_70 (by decide) (by decide) ?_
  refine z_iinc (k9 := 2) (v := 2) (lv' := [(3, .int 2), (4, .int 2), (1, .long (((((((((((((((((((((48 ||| ((ar S 1 1) : Int32).toInt64) <<< ((1 : Int32).toInt64 &&& 63)) ||| 0) <<< ((3 : Int32).toInt64 &&& 63)) ||| 0) <<< ((1 : Int32).toInt64 &&& 63)) ||| 0) <<< ((4 : Int32).toInt64 &&& 63)) ||| 0) <<< ((2 : Int32).toInt64 &&& 63)) ||| 3) <<< ((1 : Int32).toInt64 &&& 63)) ||| 0) <<< ((3 : Int32).toInt64 &&& 63)) ||| 0) <<< ((1 : Int32).toInt64 &&& 63)) ||| 0) <<< ((3 : Int32).toInt64 &&& 63)) ||| 0) <<< ((1 : Int32).toInt64 &&& 63)) ||| 0)), (0, .ref (a 0))]) b dX12_packs_128 rfl (by decide) (by decide) rfl ?_
  refine z_goto (tgt := 8) b dX12_packs_131 (by decide) ?_
  refine z_iload_n b dX12_packs_8 rfl rfl ?_
  refine z_iconst (v := 3) b dX12_packs_9 (by decide) ?_
  refine z_icmp_ge_f (tgt := 134) b dX12_packs_10 (by decide) (by decide) ?_
  refine z_lload_n b dX12_packs_13 rfl rfl ?_
  refine z_iconst (v := 4) b dX12_packs_14 (by decide) ?_
  refine z_lshl b dX12_packs_15 rfl ?_
  refine z_aload_n b dX12_packs_16 rfl rfl ?_
  refine z_get (q0 := 0) (k9 := 0) (v := .ref (a 1)) b (mw_0 cy a S) rfl in_X12 (by decide) wf_X12_13 rfl dX12_packs_17 ?_
  refine z_iload_n b dX12_packs_20 rfl rfl ?_
  refine y_iald (q0 := 1) (j := 2) (v := (ar S 0 2)) b (mw_1 cy a S) (by decide) rfl dX12_packs_21 ?_
  refine z_eqi h_a_0_2 ?_
  refine z_i2l (v := 0) b dX12_packs_22 (by decide) ?_
  refine z_lor b dX12_packs_23 rfl ?_
  refine z_lstore_n (lv' := [(1, .long (((((((((((((((((((((((48 ||| ((ar S 1 1) : Int32).toInt64) <<< ((1 : Int32).toInt64 &&& 63)) ||| 0) <<< ((3 : Int32).toInt64 &&& 63)) ||| 0) <<< ((1 : Int32).toInt64 &&& 63)) ||| 0) <<< ((4 : Int32).toInt64 &&& 63)) ||| 0) <<< ((2 : Int32).toInt64 &&& 63)) ||| 3) <<< ((1 : Int32).toInt64 &&& 63)) ||| 0) <<< ((3 : Int32).toInt64 &&& 63)) ||| 0) <<< ((1 : Int32).toInt64 &&& 63)) ||| 0) <<< ((3 : Int32).toInt64 &&& 63)) ||| 0) <<< ((1 : Int32).toInt64 &&& 63)) ||| 0) <<< ((4 : Int32).toInt64 &&& 63)) ||| 0)), (3, .int 2), (4, .int 2), (0, .ref (a 0))]) b dX12_packs_24 rfl (by decide) rfl ?_
  refine z_lload_n b dX12_packs_25 rfl rfl ?_
  refine z_iconst (v := 2) b dX12_packs_26 (by decide) ?_
  refine z_lshl b dX12_packs_27 rfl ?_
  refine z_aload_n b dX12_packs_28 rfl rfl ?_
  refine z_get (q0 := 0) (k9 := 2) (v := .ref (a 3)) b (mw_0 cy a S) rfl in_X12 (by decide) wf_X12_20 rfl dX12_packs_29 ?_
  refine z_iload_n b dX12_packs_32 rfl rfl ?_
  refine y_iald (q0 := 3) (j := 2) (v := (ar S 2 2)) b (mw_3 cy a S) (by decide) rfl dX12_packs_33 ?_
  refine z_eqi h_a_2_2 ?_
  refine z_i2l (v := 3) b dX12_packs_34 (by decide) ?_
  refine z_lor b dX12_packs_35 rfl ?_
  refine z_lstore_n (lv' := [(1, .long (((((((((((((((((((((((((48 ||| ((ar S 1 1) : Int32).toInt64) <<< ((1 : Int32).toInt64 &&& 63)) ||| 0) <<< ((3 : Int32).toInt64 &&& 63)) ||| 0) <<< ((1 : Int32).toInt64 &&& 63)) ||| 0) <<< ((4 : Int32).toInt64 &&& 63)) ||| 0) <<< ((2 : Int32).toInt64 &&& 63)) ||| 3) <<< ((1 : Int32).toInt64 &&& 63)) ||| 0) <<< ((3 : Int32).toInt64 &&& 63)) ||| 0) <<< ((1 : Int32).toInt64 &&& 63)) ||| 0) <<< ((3 : Int32).toInt64 &&& 63)) ||| 0) <<< ((1 : Int32).toInt64 &&& 63)) ||| 0) <<< ((4 : Int32).toInt64 &&& 63)) ||| 0) <<< ((2 : Int32).toInt64 &&& 63)) ||| 3)), (3, .int 2), (4, .int 2), (0, .ref (a 0))]) b dX12_packs_36 rfl (by decide) rfl ?_
  refine z_lload_n b dX12_packs_37 rfl rfl ?_
  refine z_iconst (v := 1) b dX12_packs_38 (by decide) ?_
  exact k

set_option maxHeartbeats 4000000 in
set_option maxRecDepth 100000 in
theorem c_X12_packs_8 {l : Launch} {D : va_G} {cy : Nat → ClassId} {T0 tB tE : Nat} {a : Nat → Nat} (S : GS)  (h_i_0 : fi S 0 = 0) (h_a_0_0 : ar S 0 0 = 0) (h_a_2_0 : ar S 2 0 = 3) (h_a_3_1 : ar S 3 1 = 0) (h_a_4_1 : ar S 4 1 = 0) (h_a_1_2 : ar S 1 2 = 0) (h_a_4_2 : ar S 4 2 = 0) (h_a_0_1 : ar S 0 1 = 0) (h_a_2_1 : ar S 2 1 = 3) (h_a_3_5 : ar S 3 5 = 0) (h_a_1_5 : ar S 1 5 = 0) (h_a_4_5 : ar S 4 5 = 0) (h_a_1_3 : ar S 1 3 = 0) (h_a_4_3 : ar S 4 3 = 0) (h_a_0_2 : ar S 0 2 = 0) (h_a_2_2 : ar S 2 2 = 3) (h_a_3_6 : ar S 3 6 = 0) (h_a_1_6 : ar S 1 6 = 0) (h_a_4_6 : ar S 4 6 = 0) (h_a_1_7 : ar S 1 7 = 0) (h_a_4_7 : ar S 4 7 = 0) : Ct l D cy T0 tB tE yX12_packs cX12_packs 5 (some .long) 1 21 0 0 (mw cy a S) [.ref (a 0)] (QL D (U := GS) (fun r u => (((((((((((((((((((((((((((((((((((48 ||| ((ar S 1 1) : Int32).toInt64) <<< ((1 : Int32).toInt64 &&& 63)) ||| 0) <<< ((3 : Int32).toInt64 &&& 63)) ||| 0) <<< ((1 : Int32).toInt64 &&& 63)) ||| 0) <<< ((4 : Int32).toInt64 &&& 63)) ||| 0) <<< ((2 : Int32).toInt64 &&& 63)) ||| 3) <<< ((1 : Int32).toInt64 &&& 63)) ||| 0) <<< ((3 : Int32).toInt64 &&& 63)) ||| 0) <<< ((1 : Int32).toInt64 &&& 63)) ||| 0) <<< ((3 : Int32).toInt64 &&& 63)) ||| 0) <<< ((1 : Int32).toInt64 &&& 63)) ||| 0) <<< ((4 : Int32).toInt64 &&& 63)) ||| 0) <<< ((2 : Int32).toInt64 &&& 63)) ||| 3) <<< ((1 : Int32).toInt64 &&& 63)) ||| 0) <<< ((3 : Int32).toInt64 &&& 63)) ||| 0) <<< ((1 : Int32).toInt64 &&& 63)) ||| 0) <<< ((3 : Int32).toInt64 &&& 63)) ||| 0) <<< ((1 : Int32).toInt64 &&& 63)) ||| 0) = r ∧ S = u) (mw cy a)) := by
  refine Ct.ofZ RX12 "packs" [(0, .ref (a 0))] rfl rfl rfl rfl (Nat.le_of_ble_eq_true rfl) ?_
  intro p e R s m args below meth c A b
  refine ch_X12_packs_18 S  h_a_0_0 h_a_0_1 h_a_1_2 h_a_2_0 h_a_3_1 h_a_4_1 h_a_4_2 h_i_0  b ?_
  refine ch_X12_packs_19 S  h_a_0_2 h_a_1_3 h_a_1_5 h_a_2_1 h_a_2_2 h_a_3_5 h_a_4_3 h_a_4_5  b ?_
  refine z_lshl b dX12_packs_39 rfl ?_
  refine z_aload_n b dX12_packs_40 rfl rfl ?_
  refine z_get (q0 := 0) (k9 := 3) (v := .ref (a 4)) b (mw_0 cy a S) rfl in_X12 (by decide) wf_X12_23 rfl dX12_packs_41 ?_
  refine z_iconst (v := 3) b dX12_packs_44 (by decide) ?_
  refine z_iload_n b dX12_packs_45 rfl rfl ?_
  refine z_imul (v := 6) b dX12_packs_46 (by decide) ?_
  refine z_iload_n b dX12_packs_47 rfl rfl ?_
  refine z_iconst (v := 0) b dX12_packs_48 (by decide) ?_
  refine z_calli b (z_runS (As := [.int 2, .int 0]) (st := [.int 6, .ref (a 4), .long ((((((((((((((((((((((((((48 ||| ((ar S 1 1) : Int32).toInt64) <<< ((1 : Int32).toInt64 &&& 63)) ||| 0) <<< ((3 : Int32).toInt64 &&& 63)) ||| 0) <<< ((1 : Int32).toInt64 &&& 63)) ||| 0) <<< ((4 : Int32).toInt64 &&& 63)) ||| 0) <<< ((2 : Int32).toInt64 &&& 63)) ||| 3) <<< ((1 : Int32).toInt64 &&& 63)) ||| 0) <<< ((3 : Int32).toInt64 &&& 63)) ||| 0) <<< ((1 : Int32).toInt64 &&& 63)) ||| 0) <<< ((3 : Int32).toInt64 &&& 63)) ||| 0) <<< ((1 : Int32).toInt64 &&& 63)) ||| 0) <<< ((4 : Int32).toInt64 &&& 63)) ||| 0) <<< ((2 : Int32).toInt64 &&& 63)) ||| 3) <<< ((1 : Int32).toInt64 &&& 63))]) b (c_X12_other_2 S ) cf_X12_other wm_X12_160 ws_X12_other dX12_packs_49 rfl (Nat.le_of_ble_eq_true rfl) ⟨by decide, by decide, by decide, by decide⟩) (fun r1121 u1122 h1120 => ?_)
  obtain ⟨rfl, rfl⟩ := h1120
  refine z_iadd (v := 6) b dX12_packs_52 (by decide) ?_
  refine y_zald (q0 := 4) (j := 6) (v := (ar S 3 6)) b (mw_4 cy a S) (by decide) rfl dX12_packs_53 ?_
  refine z_eqi h_a_3_6 ?_
  refine z_if_eq_t (tgt := 61) b dX12_packs_54 (by decide) (by decide) ?_
  refine z_lconst (v := 0) b dX12_packs_61 (by decide) ?_
  refine z_lor b dX12_packs_62 rfl ?_
  refine z_lstore_n (lv' := [(1, .long (((((((((((((((((((((((((((48 ||| ((ar S 1 1) : Int32).toInt64) <<< ((1 : Int32).toInt64 &&& 63)) ||| 0) <<< ((3 : Int32).toInt64 &&& 63)) ||| 0) <<< ((1 : Int32).toInt64 &&& 63)) ||| 0) <<< ((4 : Int32).toInt64 &&& 63)) ||| 0) <<< ((2 : Int32).toInt64 &&& 63)) ||| 3) <<< ((1 : Int32).toInt64 &&& 63)) ||| 0) <<< ((3 : Int32).toInt64 &&& 63)) ||| 0) <<< ((1 : Int32).toInt64 &&& 63)) ||| 0) <<< ((3 : Int32).toInt64 &&& 63)) ||| 0) <<< ((1 : Int32).toInt64 &&& 63)) ||| 0) <<< ((4 : Int32).toInt64 &&& 63)) ||| 0) <<< ((2 : Int32).toInt64 &&& 63)) ||| 3) <<< ((1 : Int32).toInt64 &&& 63)) ||| 0)), (3, .int 2), (4, .int 2), (0, .ref (a 0))]) b dX12_packs_63 rfl (by decide) rfl ?_
  refine z_iconst (v := 0) b dX12_packs_64 (by decide) ?_
  refine z_istore (lv' := [(4, .int 0), (1, .long (((((((((((((((((((((((((((48 ||| ((ar S 1 1) : Int32).toInt64) <<< ((1 : Int32).toInt64 &&& 63)) ||| 0) <<< ((3 : Int32).toInt64 &&& 63)) ||| 0) <<< ((1 : Int32).toInt64 &&& 63)) ||| 0) <<< ((4 : Int32).toInt64 &&& 63)) ||| 0) <<< ((2 : Int32).toInt64 &&& 63)) ||| 3) <<< ((1 : Int32).toInt64 &&& 63)) ||| 0) <<< ((3 : Int32).toInt64 &&& 63)) ||| 0) <<< ((1 : Int32).toInt64 &&& 63)) ||| 0) <<< ((3 : Int32).toInt64 &&& 63)) ||| 0) <<< ((1 : Int32).toInt64 &&& 63)) ||| 0) <<< ((4 : Int32).toInt64 &&& 63)) ||| 0) <<< ((2 : Int32).toInt64 &&& 63)) ||| 3) <<< ((1 : Int32).toInt64 &&& 63)) ||| 0)), (3, .int 2), (0, .ref (a 0))]) b dX12_packs_65 (by decide) rfl ?_
  refine z_iload b dX12_packs_67 rfl ?_
  refine z_iconst (v := 2) b dX12_packs_69 (by decide) ?_
  refine z_icmp_ge_f (tgt := 128) b dX12_packs_70 (by decide) (by decide) ?_
  refine z_lload_n b dX12_packs_73 rfl rfl ?_
  refine z_iconst (v := 3) b dX12_packs_74 (by decide) ?_
  refine z_lshl b dX12_packs_75 rfl ?_
  refine z_aload_n b dX12_packs_76 rfl rfl ?_
  refine z_get (q0 := 0) (k9 := 1) (v := .ref (a 2)) b (mw_0 cy a S) rfl in_X12 (by decide) wf_X12_17 rfl dX12_packs_77 ?_
  refine z_iconst (v := 3) b dX12_packs_80 (by decide) ?_
  refine z_iload_n b dX12_packs_81 rfl rfl ?_
  refine z_imul (v := 6) b dX12_packs_82 (by decide) ?_
  refine z_iload_n b dX12_packs_83 rfl rfl ?_
  refine z_iload b dX12_packs_84 rfl ?_
  refine z_calli b (z_runS (As := [.int 2, .int 0]) (st := [.int 6, .ref (a 2), .long ((((((((((((((((((((((((((((48 ||| ((ar S 1 1) : Int32).toInt64) <<< ((1 : Int32).toInt64 &&& 63)) ||| 0) <<< ((3 : Int32).toInt64 &&& 63)) ||| 0) <<< ((1 : Int32).toInt64 &&& 63)) ||| 0) <<< ((4 : Int32).toInt64 &&& 63)) ||| 0) <<< ((2 : Int32).toInt64 &&& 63)) ||| 3) <<< ((1 : Int32).toInt64 &&& 63)) ||| 0) <<< ((3 : Int32).toInt64 &&& 63)) ||| 0) <<< ((1 : Int32).toInt64 &&& 63)) ||| 0) <<< ((3 : Int32).toInt64 &&& 63)) ||| 0) <<< ((1 : Int32).toInt64 &&& 63)) ||| 0) <<< ((4 : Int32).toInt64 &&& 63)) ||| 0) <<< ((2 : Int32).toInt64 &&& 63)) ||| 3) <<< ((1 : Int32).toInt64 &&& 63)) ||| 0) <<< ((3 : Int32).toInt64 &&& 63))]) b (c_X12_other_2 S ) cf_X12_other wm_X12_160 ws_X12_other dX12_packs_86 rfl (Nat.le_of_ble_eq_true rfl) ⟨by decide, by decide, by decide, by decide⟩) (fun r1124 u1125 h1123 => ?_)
  obtain ⟨rfl, rfl⟩ := h1123
  refine z_iadd (v := 6) b dX12_packs_89 (by decide) ?_
  refine y_iald (q0 := 2) (j := 6) (v := (ar S 1 6)) b (mw_2 cy a S) (by decide) rfl dX12_packs_90 ?_
  refine z_eqi h_a_1_6 ?_
  refine z_i2l (v := 0) b dX12_packs_91 (by decide) ?_
  refine z_lor b dX12_packs_92 rfl ?_
  refine z_lstore_n (lv' := [(1, .long (((((((((((((((((((((((((((((48 ||| ((ar S 1 1) : Int32).toInt64) <<< ((1 : Int32).toInt64 &&& 63)) ||| 0) <<< ((3 : Int32).toInt64 &&& 63)) ||| 0) <<< ((1 : Int32).toInt64 &&& 63)) ||| 0) <<< ((4 : Int32).toInt64 &&& 63)) ||| 0) <<< ((2 : Int32).toInt64 &&& 63)) ||| 3) <<< ((1 : Int32).toInt64 &&& 63)) ||| 0) <<< ((3 : Int32).toInt64 &&& 63)) ||| 0) <<< ((1 : Int32).toInt64 &&& 63)) ||| 0) <<< ((3 : Int32).toInt64 &&& 63)) ||| 0) <<< ((1 : Int32).toInt64 &&& 63)) ||| 0) <<< ((4 : Int32).toInt64 &&& 63)) ||| 0) <<< ((2 : Int32).toInt64 &&& 63)) ||| 3) <<< ((1 : Int32).toInt64 &&& 63)) ||| 0) <<< ((3 : Int32).toInt64 &&& 63)) ||| 0)), (4, .int 0), (3, .int 2), (0, .ref (a 0))]) b dX12_packs_93 rfl (by decide) rfl ?_
  refine z_lload_n b dX12_packs_94 rfl rfl ?_
  refine z_iconst (v := 1) b dX12_packs_95 (by decide) ?_
  refine z_lshl b dX12_packs_96 rfl ?_
  refine z_aload_n b dX12_packs_97 rfl rfl ?_
  refine z_get (q0 := 0) (k9 := 4) (v := .ref (a 5)) b (mw_0 cy a S) rfl in_X12 (by decide) wf_X12_27 rfl dX12_packs_98 ?_
  refine z_iconst (v := 3) b dX12_packs_101 (by decide) ?_
  refine z_iload_n b dX12_packs_102 rfl rfl ?_
  refine z_imul (v := 6) b dX12_packs_103 (by decide) ?_
  refine z_iload_n b dX12_packs_104 rfl rfl ?_
  refine z_iload b dX12_packs_105 rfl ?_
  refine z_calli b (z_runS (As := [.int 2, .int 0]) (st := [.int 6, .ref (a 5), .long ((((((((((((((((((((((((((((((48 ||| ((ar S 1 1) : Int32).toInt64) <<< ((1 : Int32).toInt64 &&& 63)) ||| 0) <<< ((3 : Int32).toInt64 &&& 63)) ||| 0) <<< ((1 : Int32).toInt64 &&& 63)) ||| 0) <<< ((4 : Int32).toInt64 &&& 63)) ||| 0) <<< ((2 : Int32).toInt64 &&& 63)) ||| 3) <<< ((1 : Int32).toInt64 &&& 63)) ||| 0) <<< ((3 : Int32).toInt64 &&& 63)) ||| 0) <<< ((1 : Int32).toInt64 &&& 63)) ||| 0) <<< ((3 : Int32).toInt64 &&& 63)) ||| 0) <<< ((1 : Int32).toInt64 &&& 63)) ||| 0) <<< ((4 : Int32).toInt64 &&& 63)) ||| 0) <<< ((2 : Int32).toInt64 &&& 63)) ||| 3) <<< ((1 : Int32).toInt64 &&& 63)) ||| 0) <<< ((3 : Int32).toInt64 &&& 63)) ||| 0) <<< ((1 : Int32).toInt64 &&& 63))]) b (c_X12_other_2 S ) cf_X12_other wm_X12_160 ws_X12_other dX12_packs_107 rfl (Nat.le_of_ble_eq_true rfl) ⟨by decide, by decide, by decide, by decide⟩) (fun r1127 u1128 h1126 => ?_)
  obtain ⟨rfl, rfl⟩ := h1126
  refine z_iadd (v := 6) b dX12_packs_110 (by decide) ?_
  refine y_zald (q0 := 5) (j := 6) (v := (ar S 4 6)) b (mw_5 cy a S) (by decide) rfl dX12_packs_111 ?_
  refine z_eqi h_a_4_6 ?_
  refine z_if_eq_t (tgt := 119) b dX12_packs_112 (by decide) (by decide) ?_
  refine z_lconst (v := 0) b dX12_packs_119 (by decide) ?_
  refine z_lor b dX12_packs_120 rfl ?_
  refine z_lstore_n (lv' := [(1, .long (((((((((((((((((((((((((((((((48 ||| ((ar S 1 1) : Int32).toInt64) <<< ((1 : Int32).toInt64 &&& 63)) ||| 0) <<< ((3 : Int32).toInt64 &&& 63)) ||| 0) <<< ((1 : Int32).toInt64 &&& 63)) ||| 0) <<< ((4 : Int32).toInt64 &&& 63)) ||| 0) <<< ((2 : Int32).toInt64 &&& 63)) ||| 3) <<< ((1 : Int32).toInt64 &&& 63)) ||| 0) <<< ((3 : Int32).toInt64 &&& 63)) ||| 0) <<< ((1 : Int32).toInt64 &&& 63)) ||| 0) <<< ((3 : Int32).toInt64 &&& 63)) ||| 0) <<< ((1 : Int32).toInt64 &&& 63)) ||| 0) <<< ((4 : Int32).toInt64 &&& 63)) ||| 0) <<< ((2 : Int32).toInt64 &&& 63)) ||| 3) <<< ((1 : Int32).toInt64 &&& 63)) ||| 0) <<< ((3 : Int32).toInt64 &&& 63)) ||| 0) <<< ((1 : Int32).toInt64 &&& 63)) ||| 0)), (4, .int 0), (3, .int 2), (0, .ref (a 0))]) b dX12_packs_121 rfl (by decide) rfl ?_
  refine z_iinc (k9 := 1) (v := 1) (lv' := [(4, .int 1), (1, .long (((((((((((((((((((((((((((((((48 ||| ((ar S 1 1) : Int32).toInt64) <<< ((1 : Int32).toInt64 &&& 63)) ||| 0) <<< ((3 : Int32).toInt64 &&& 63)) ||| 0) <<< ((1 : Int32).toInt64 &&& 63)) ||| 0) <<< ((4 : Int32).toInt64 &&& 63)) ||| 0) <<< ((2 : Int32).toInt64 &&& 63)) ||| 3) <<< ((1 : Int32).toInt64 &&& 63)) ||| 0) <<< ((3 : Int32).toInt64 &&& 63)) ||| 0) <<< ((1 : Int32).toInt64 &&& 63)) ||| 0) <<< ((3 : Int32).toInt64 &&& 63)) ||| 0) <<< ((1 : Int32).toInt64 &&& 63)) ||| 0) <<< ((4 : Int32).toInt64 &&& 63)) ||| 0) <<< ((2 : Int32).toInt64 &&& 63)) ||| 3) <<< ((1 : Int32).toInt64 &&& 63)) ||| 0) <<< ((3 : Int32).toInt64 &&& 63)) ||| 0) <<< ((1 : Int32).toInt64 &&& 63)) ||| 0)), (3, .int 2), (0, .ref (a 0))]) b dX12_packs_122 rfl (by decide) (by decide) rfl ?_
  refine z_goto (tgt := 67) b dX12_packs_125 (by decide) ?_
  refine z_iload b dX12_packs_67 rfl ?_
  refine z_iconst (v := 2) b dX12_packs_69 (by decide) ?_
  refine z_icmp_ge_f (tgt := 128) b dX12_packs_70 (by decide) (by decide) ?_
  refine z_lload_n b dX12_packs_73 rfl rfl ?_
  refine z_iconst (v := 3) b dX12_packs_74 (by decide) ?_
  refine z_lshl b dX12_packs_75 rfl ?_
  refine z_aload_n b dX12_packs_76 rfl rfl ?_
  refine z_get (q0 := 0) (k9 := 1) (v := .ref (a 2)) b (mw_0 cy a S) rfl in_X12 (by decide) wf_X12_17 rfl dX12_packs_77 ?_
  refine z_iconst (v := 3) b dX12_packs_80 (by decide) ?_
  refine z_iload_n b dX12_packs_81 rfl rfl ?_
  refine z_imul (v := 6) b dX12_packs_82 (by decide) ?_
  refine z_iload_n b dX12_packs_83 rfl rfl ?_
  refine z_iload b dX12_packs_84 rfl ?_
  refine z_calli b (z_runS (As := [.int 2, .int 1]) (st := [.int 6, .ref (a 2), .long ((((((((((((((((((((((((((((((((48 ||| ((ar S 1 1) : Int32).toInt64) <<< ((1 : Int32).toInt64 &&& 63)) ||| 0) <<< ((3 : Int32).toInt64 &&& 63)) ||| 0) <<< ((1 : Int32).toInt64 &&& 63)) ||| 0) <<< ((4 : Int32).toInt64 &&& 63)) ||| 0) <<< ((2 : Int32).toInt64 &&& 63)) ||| 3) <<< ((1 : Int32).toInt64 &&& 63)) ||| 0) <<< ((3 : Int32).toInt64 &&& 63)) ||| 0) <<< ((1 : Int32).toInt64 &&& 63)) ||| 0) <<< ((3 : Int32).toInt64 &&& 63)) ||| 0) <<< ((1 : Int32).toInt64 &&& 63)) ||| 0) <<< ((4 : Int32).toInt64 &&& 63)) ||| 0) <<< ((2 : Int32).toInt64 &&& 63)) ||| 3) <<< ((1 : Int32).toInt64 &&& 63)) ||| 0) <<< ((3 : Int32).toInt64 &&& 63)) ||| 0) <<< ((1 : Int32).toInt64 &&& 63)) ||| 0) <<< ((3 : Int32).toInt64 &&& 63))]) b (c_X12_other S ) cf_X12_other wm_X12_160 ws_X12_other dX12_packs_86 rfl (Nat.le_of_ble_eq_true rfl) ⟨by decide, by decide, by decide, by decide⟩) (fun r1130 u1131 h1129 => ?_)
  obtain ⟨rfl, rfl⟩ := h1129
  refine z_iadd (v := 7) b dX12_packs_89 (by decide) ?_
  refine y_iald (q0 := 2) (j := 7) (v := (ar S 1 7)) b (mw_2 cy a S) (by decide) rfl dX12_packs_90 ?_
  refine z_eqi h_a_1_7 ?_
  refine z_i2l (v := 0) b dX12_packs_91 (by decide) ?_
  refine z_lor b dX12_packs_92 rfl ?_
  refine z_lstore_n (lv' := [(1, .long (((((((((((((((((((((((((((((((((48 ||| ((ar S 1 1) : Int32).toInt64) <<< ((1 : Int32).toInt64 &&& 63)) ||| 0) <<< ((3 : Int32).toInt64 &&& 63)) ||| 0) <<< ((1 : Int32).toInt64 &&& 63)) ||| 0) <<< ((4 : Int32).toInt64 &&& 63)) ||| 0) <<< ((2 : Int32).toInt64 &&& 63)) ||| 3) <<< ((1 : Int32).toInt64 &&& 63)) ||| 0) <<< ((3 : Int32).toInt64 &&& 63)) ||| 0) <<< ((1 : Int32).toInt64 &&& 63)) ||| 0) <<< ((3 : Int32).toInt64 &&& 63)) ||| 0) <<< ((1 : Int32).toInt64 &&& 63)) ||| 0) <<< ((4 : Int32).toInt64 &&& 63)) ||| 0) <<< ((2 : Int32).toInt64 &&& 63)) ||| 3) <<< ((1 : Int32).toInt64 &&& 63)) ||| 0) <<< ((3 : Int32).toInt64 &&& 63)) ||| 0) <<< ((1 : Int32).toInt64 &&& 63)) ||| 0) <<< ((3 : Int32).toInt64 &&& 63)) ||| 0)), (4, .int 1), (3, .int 2), (0, .ref (a 0))]) b dX12_packs_93 rfl (by decide) rfl ?_
  refine z_lload_n b dX12_packs_94 rfl rfl ?_
  refine z_iconst (v := 1) b dX12_packs_95 (by decide) ?_
  refine z_lshl b dX12_packs_96 rfl ?_
  refine z_aload_n b dX12_packs_97 rfl rfl ?_
  refine z_get (q0 := 0) (k9 := 4) (v := .ref (a 5)) b (mw_0 cy a S) rfl in_X12 (by decide) wf_X12_27 rfl dX12_packs_98 ?_
  refine z_iconst (v := 3) b dX12_packs_101 (by decide) ?_
  refine z_iload_n b dX12_packs_102 rfl rfl ?_
  refine z_imul (v := 6) b dX12_packs_103 (by decide) ?_
  refine z_iload_n b dX12_packs_104 rfl rfl ?_
  refine z_iload b dX12_packs_105 rfl ?_
  refine z_calli b (z_runS (As := [.int 2, .int 1]) (st := [.int 6, .ref (a 5), .long ((((((((((((((((((((((((((((((((((48 ||| ((ar S 1 1) : Int32).toInt64) <<< ((1 : Int32).toInt64 &&& 63)) ||| 0) <<< ((3 : Int32).toInt64 &&& 63)) ||| 0) <<< ((1 : Int32).toInt64 &&& 63)) ||| 0) <<< ((4 : Int32).toInt64 &&& 63)) ||| 0) <<< ((2 : Int32).toInt64 &&& 63)) ||| 3) <<< ((1 : Int32).toInt64 &&& 63)) ||| 0) <<< ((3 : Int32).toInt64 &&& 63)) ||| 0) <<< ((1 : Int32).toInt64 &&& 63)) ||| 0) <<< ((3 : Int32).toInt64 &&& 63)) ||| 0) <<< ((1 : Int32).toInt64 &&& 63)) ||| 0) <<< ((4 : Int32).toInt64 &&& 63)) ||| 0) <<< ((2 : Int32).toInt64 &&& 63)) ||| 3) <<< ((1 : Int32).toInt64 &&& 63)) ||| 0) <<< ((3 : Int32).toInt64 &&& 63)) ||| 0) <<< ((1 : Int32).toInt64 &&& 63)) ||| 0) <<< ((3 : Int32).toInt64 &&& 63)) ||| 0) <<< ((1 : Int32).toInt64 &&& 63))]) b (c_X12_other S ) cf_X12_other wm_X12_160 ws_X12_other dX12_packs_107 rfl (Nat.le_of_ble_eq_true rfl) ⟨by decide, by decide, by decide, by decide⟩) (fun r1133 u1134 h1132 => ?_)
  obtain ⟨rfl, rfl⟩ := h1132
  refine z_iadd (v := 7) b dX12_packs_110 (by decide) ?_
  refine y_zald (q0 := 5) (j := 7) (v := (ar S 4 7)) b (mw_5 cy a S) (by decide) rfl dX12_packs_111 ?_
  refine z_eqi h_a_4_7 ?_
  refine z_if_eq_t (tgt := 119) b dX12_packs_112 (by decide) (by decide) ?_
  refine z_lconst (v := 0) b dX12_packs_119 (by decide) ?_
  refine z_lor b dX12_packs_120 rfl ?_
  refine z_lstore_n (lv' := [(1, .long (((((((((((((((((((((((((((((((((((48 ||| ((ar S 1 1) : Int32).toInt64) <<< ((1 : Int32).toInt64 &&& 63)) ||| 0) <<< ((3 : Int32).toInt64 &&& 63)) ||| 0) <<< ((1 : Int32).toInt64 &&& 63)) ||| 0) <<< ((4 : Int32).toInt64 &&& 63)) ||| 0) <<< ((2 : Int32).toInt64 &&& 63)) ||| 3) <<< ((1 : Int32).toInt64 &&& 63)) ||| 0) <<< ((3 : Int32).toInt64 &&& 63)) ||| 0) <<< ((1 : Int32).toInt64 &&& 63)) ||| 0) <<< ((3 : Int32).toInt64 &&& 63)) ||| 0) <<< ((1 : Int32).toInt64 &&& 63)) ||| 0) <<< ((4 : Int32).toInt64 &&& 63)) ||| 0) <<< ((2 : Int32).toInt64 &&& 63)) ||| 3) <<< ((1 : Int32).toInt64 &&& 63)) ||| 0) <<< ((3 : Int32).toInt64 &&& 63)) ||| 0) <<< ((1 : Int32).toInt64 &&& 63)) ||| 0) <<< ((3 : Int32).toInt64 &&& 63)) ||| 0) <<< ((1 : Int32).toInt64 &&& 63)) ||| 0)), (4, .int 1), (3, .int 2), (0, .ref (a 0))]) b dX12_packs_121 rfl (by decide) rfl ?_
  refine z_iinc (k9 := 1) (v := 2) (lv' := [(4, .int 2), (1, .long (((((((((((((((((((((((((((((((((((48 ||| ((ar S 1 1) : Int32).toInt64) <<< ((1 : Int32).toInt64 &&& 63)) ||| 0) <<< ((3 : Int32).toInt64 &&& 63)) ||| 0) <<< ((1 : Int32).toInt64 &&& 63)) ||| 0) <<< ((4 : Int32).toInt64 &&& 63)) ||| 0) <<< ((2 : Int32).toInt64 &&& 63)) ||| 3) <<< ((1 : Int32).toInt64 &&& 63)) ||| 0) <<< ((3 : Int32).toInt64 &&& 63)) ||| 0) <<< ((1 : Int32).toInt64 &&& 63)) ||| 0) <<< ((3 : Int32).toInt64 &&& 63)) ||| 0) <<< ((1 : Int32).toInt64 &&& 63)) ||| 0) <<< ((4 : Int32).toInt64 &&& 63)) ||| 0) <<< ((2 : Int32).toInt64 &&& 63)) ||| 3) <<< ((1 : Int32).toInt64 &&& 63)) ||| 0) <<< ((3 : Int32).toInt64 &&& 63)) ||| 0) <<< ((1 : Int32).toInt64 &&& 63)) ||| 0) <<< ((3 : Int32).toInt64 &&& 63)) ||| 0) <<< ((1 : Int32).toInt64 &&& 63)) ||| 0)), (3, .int 2), (0, .ref (a 0))]) b dX12_packs_122 rfl (by decide) (by decide) rfl ?_
  refine z_goto (tgt := 67) b dX12_packs_125 (by decide) ?_
  refine z_iload b dX12_packs_67 rfl ?_
  refine z_iconst (v := 2) b dX12_packs_69 (by decide) ?_
  refine z_icmp_ge_t (tgt := 128) b dX12_packs_70 (by decide) (by decide) ?_
  refine z_iinc (k9 := 2) (v := 3) (lv' := [(3, .int 3), (4, .int 2), (1, .long (((((((((((((((((((((((((((((((((((48 ||| ((ar S 1 1) : Int32).toInt64) <<< ((1 : Int32).toInt64 &&& 63)) ||| 0) <<< ((3 : Int32).toInt64 &&& 63)) ||| 0) <<< ((1 : Int32).toInt64 &&& 63)) ||| 0) <<< ((4 : Int32).toInt64 &&& 63)) ||| 0) <<< ((2 : Int32).toInt64 &&& 63)) ||| 3) <<< ((1 : Int32).toInt64 &&& 63)) ||| 0) <<< ((3 : Int32).toInt64 &&& 63)) ||| 0) <<< ((1 : Int32).toInt64 &&& 63)) ||| 0) <<< ((3 : Int32).toInt64 &&& 63)) ||| 0) <<< ((1 : Int32).toInt64 &&& 63)) ||| 0) <<< ((4 : Int32).toInt64 &&& 63)) ||| 0) <<< ((2 : Int32).toInt64 &&& 63)) ||| 3) <<< ((1 : Int32).toInt64 &&& 63)) ||| 0) <<< ((3 : Int32).toInt64 &&& 63)) ||| 0) <<< ((1 : Int32).toInt64 &&& 63)) ||| 0) <<< ((3 : Int32).toInt64 &&& 63)) ||| 0) <<< ((1 : Int32).toInt64 &&& 63)) ||| 0)), (0, .ref (a 0))]) b dX12_packs_128 rfl (by decide) (by decide) rfl ?_
  refine z_goto (tgt := 8) b dX12_packs_131 (by decide) ?_
  refine z_iload_n b dX12_packs_8 rfl rfl ?_
  refine z_iconst (v := 3) b dX12_packs_9 (by decide) ?_
  refine z_icmp_ge_t (tgt := 134) b dX12_packs_10 (by decide) (by decide) ?_
  refine z_lload_n b dX12_packs_134 rfl rfl ?_
  exact z_lret (u := S) b rfl dX12_packs_135 ⟨rfl, rfl⟩ rfl (by decide) (by decide)

set_option maxHeartbeats 4000000 in
set_option maxRecDepth 100000 in
theorem c_X12_told_8 {l : Launch} {D : va_G} {cy : Nat → ClassId} {T0 tB tE : Nat} {a : Nat → Nat} (S : GS)  (h_i_0 : fi S 0 = 0) (h_a_0_0 : ar S 0 0 = 0) (h_a_2_0 : ar S 2 0 = 3) (h_a_3_1 : ar S 3 1 = 0) (h_a_4_1 : ar S 4 1 = 0) (h_a_1_2 : ar S 1 2 = 0) (h_a_4_2 : ar S 4 2 = 0) (h_a_0_1 : ar S 0 1 = 0) (h_a_2_1 : ar S 2 1 = 3) (h_a_3_5 : ar S 3 5 = 0) (h_a_1_5 : ar S 1 5 = 0) (h_a_4_5 : ar S 4 5 = 0) (h_a_1_3 : ar S 1 3 = 0) (h_a_4_3 : ar S 4 3 = 0) (h_a_0_2 : ar S 0 2 = 0) (h_a_2_2 : ar S 2 2 = 3) (h_a_3_6 : ar S 3 6 = 0) (h_a_1_6 : ar S 1 6 = 0) (h_a_4_6 : ar S 4 6 = 0) (h_a_1_7 : ar S 1 7 = 0) (h_a_4_7 : ar S 4 7 = 0) : Ct l D cy T0 tB tE yX12_told cX12_told 1 (some .boolean) 2 45 0 0 (mw cy a S) [.ref (a 0)] (QI D (U := GS) (fun r u => 1 = r ∧ sl S 0 (((((((((((((((((((((((((((((((((((48 ||| ((ar S 1 1) : Int32).toInt64) <<< ((1 : Int32).toInt64 &&& 63)) ||| 0) <<< ((3 : Int32).toInt64 &&& 63)) ||| 0) <<< ((1 : Int32).toInt64 &&& 63)) ||| 0) <<< ((4 : Int32).toInt64 &&& 63)) ||| 0) <<< ((2 : Int32).toInt64 &&& 63)) ||| 3) <<< ((1 : Int32).toInt64 &&& 63)) ||| 0) <<< ((3 : Int32).toInt64 &&& 63)) ||| 0) <<< ((1 : Int32).toInt64 &&& 63)) ||| 0) <<< ((3 : Int32).toInt64 &&& 63)) ||| 0) <<< ((1 : Int32).toInt64 &&& 63)) ||| 0) <<< ((4 : Int32).toInt64 &&& 63)) ||| 0) <<< ((2 : Int32).toInt64 &&& 63)) ||| 3) <<< ((1 : Int32).toInt64 &&& 63)) ||| 0) <<< ((3 : Int32).toInt64 &&& 63)) ||| 0) <<< ((1 : Int32).toInt64 &&& 63)) ||| 0) <<< ((3 : Int32).toInt64 &&& 63)) ||| 0) <<< ((1 : Int32).toInt64 &&& 63)) ||| 0) = u) (mw cy a)) := by
  refine Ct.ofZ RX12 "told" [(0, .ref (a 0))] rfl rfl rfl rfl (Nat.le_of_ble_eq_true rfl) ?_
  intro p e R s m args below meth c A b
  refine z_aload_n b dX12_told_0 rfl rfl ?_
  refine z_aload_n b dX12_told_1 rfl rfl ?_
  refine z_calll b (z_runV (q0 := 0) (As := []) (st := [.ref (a 0)]) b (c_X12_packs_8 S h_i_0 h_a_0_0 h_a_2_0 h_a_3_1 h_a_4_1 h_a_1_2 h_a_4_2 h_a_0_1 h_a_2_1 h_a_3_5 h_a_1_5 h_a_4_5 h_a_1_3 h_a_4_3 h_a_0_2 h_a_2_2 h_a_3_6 h_a_1_6 h_a_4_6 h_a_1_7 h_a_4_7) cf_X12_packs (mw_0 cy a S) rfl wm_X12_149 wi_X12_packs ws_X12_packs dX12_told_2 rfl (Nat.le_of_ble_eq_true rfl) ⟨by decide, by decide, by decide, by decide⟩) (fun r1136 u1137 h1135 => ?_)
  obtain ⟨rfl, rfl⟩ := h1135
  refine z_put (q0 := 0) (k9 := 6) tyX12 b (mw_0 cy a S) rfl in_X12 tyX12_ok nmX12 (by decide) wf_X12_153 rfl rfl rfl rfl (Nat.le_of_ble_eq_true rfl) dX12_told_5 (mwp_0_6 cy a S (((((((((((((((((((((((((((((((((((48 ||| ((ar S 1 1) : Int32).toInt64) <<< ((1 : Int32).toInt64 &&& 63)) ||| 0) <<< ((3 : Int32).toInt64 &&& 63)) ||| 0) <<< ((1 : Int32).toInt64 &&& 63)) ||| 0) <<< ((4 : Int32).toInt64 &&& 63)) ||| 0) <<< ((2 : Int32).toInt64 &&& 63)) ||| 3) <<< ((1 : Int32).toInt64 &&& 63)) ||| 0) <<< ((3 : Int32).toInt64 &&& 63)) ||| 0) <<< ((1 : Int32).toInt64 &&& 63)) ||| 0) <<< ((3 : Int32).toInt64 &&& 63)) ||| 0) <<< ((1 : Int32).toInt64 &&& 63)) ||| 0) <<< ((4 : Int32).toInt64 &&& 63)) ||| 0) <<< ((2 : Int32).toInt64 &&& 63)) ||| 3) <<< ((1 : Int32).toInt64 &&& 63)) ||| 0) <<< ((3 : Int32).toInt64 &&& 63)) ||| 0) <<< ((1 : Int32).toInt64 &&& 63)) ||| 0) <<< ((3 : Int32).toInt64 &&& 63)) ||| 0) <<< ((1 : Int32).toInt64 &&& 63)) ||| 0)) ?_
  refine z_iconst (v := 1) b dX12_told_8 (by decide) ?_
  exact z_zret (u := (sl S 0 (((((((((((((((((((((((((((((((((((48 ||| ((ar S 1 1) : Int32).toInt64) <<< ((1 : Int32).toInt64 &&& 63)) ||| 0) <<< ((3 : Int32).toInt64 &&& 63)) ||| 0) <<< ((1 : Int32).toInt64 &&& 63)) ||| 0) <<< ((4 : Int32).toInt64 &&& 63)) ||| 0) <<< ((2 : Int32).toInt64 &&& 63)) ||| 3) <<< ((1 : Int32).toInt64 &&& 63)) ||| 0) <<< ((3 : Int32).toInt64 &&& 63)) ||| 0) <<< ((1 : Int32).toInt64 &&& 63)) ||| 0) <<< ((3 : Int32).toInt64 &&& 63)) ||| 0) <<< ((1 : Int32).toInt64 &&& 63)) ||| 0) <<< ((4 : Int32).toInt64 &&& 63)) ||| 0) <<< ((2 : Int32).toInt64 &&& 63)) ||| 3) <<< ((1 : Int32).toInt64 &&& 63)) ||| 0) <<< ((3 : Int32).toInt64 &&& 63)) ||| 0) <<< ((1 : Int32).toInt64 &&& 63)) ||| 0) <<< ((3 : Int32).toInt64 &&& 63)) ||| 0) <<< ((1 : Int32).toInt64 &&& 63)) ||| 0))) b rfl (by decide) dX12_told_9 ⟨rfl, rfl⟩ rfl (by decide) (by decide)

set_option maxHeartbeats 4000000 in
set_option maxRecDepth 100000 in
theorem c_X12_debt_13 {l : Launch} {D : va_G} {cy : Nat → ClassId} {T0 tB tE : Nat} {a : Nat → Nat} (S : GS) (p0 : Int32) (h_l_0 : fl S 0 = 1649317774848) (h_a_4_7 : ar S 4 7 = 0) (h_a_1_7 : ar S 1 7 = 0) (h_a_4_6 : ar S 4 6 = 0) (h_a_1_6 : ar S 1 6 = 0) (h_a_3_6 : ar S 3 6 = 0) (h_a_3_2 : ar S 3 2 = 0) (h_a_2_2 : ar S 2 2 = 3) (h_a_0_2 : ar S 0 2 = 0) (h_a_4_3 : ar S 4 3 = 0) (h_a_1_3 : ar S 1 3 = 0) (h_a_4_5 : ar S 4 5 = 0) (h_a_1_5 : ar S 1 5 = 0) (h_a_3_5 : ar S 3 5 = 0) (h_a_3_7 : ar S 3 7 = 0) (h_a_2_1 : ar S 2 1 = 3) (h_a_0_1 : ar S 0 1 = 0) (h_a_4_2 : ar S 4 2 = 0) (h_a_1_2 : ar S 1 2 = 0) (h_a_4_1 : ar S 4 1 = 0) (h_a_1_1 : ar S 1 1 = 0) (h_a_3_1 : ar S 3 1 = 0) (h_a_3_3 : ar S 3 3 = 0) (h_a_2_0 : ar S 2 0 = 3) (h_a_0_0 : ar S 0 0 = 0) (h_i_0 : fi S 0 = 0) (hr_p0 : 0 ≤ p0.toInt ∧ p0.toInt ≤ 7) : Ct l D cy T0 tB tE yX12_debt cX12_debt 4 (some .boolean) 3 65 0 0 (mw cy a S) [.ref (a 0), .int 0, .int 1, .int p0] (QI D (U := GS) (fun r u => (((((p0.toInt < 0)) ∨ ((0 ≤ p0.toInt) ∧ (7 < p0.toInt)))) ∧ 0 = r ∧ S = u) ∨ ((((0 ≤ p0.toInt) ∧ (p0.toInt ≤ 7))) ∧ 1 = r ∧ sl (su S 1 1 p0) 0 (((((((((((((((((((((((((((((((((((48 ||| ((ar (su S 1 1 p0) 1 1) : Int32).toInt64) <<< ((1 : Int32).toInt64 &&& 63)) ||| 0) <<< ((3 : Int32).toInt64 &&& 63)) ||| 0) <<< ((1 : Int32).toInt64 &&& 63)) ||| 0) <<< ((4 : Int32).toInt64 &&& 63)) ||| 0) <<< ((2 : Int32).toInt64 &&& 63)) ||| 3) <<< ((1 : Int32).toInt64 &&& 63)) ||| 0) <<< ((3 : Int32).toInt64 &&& 63)) ||| 0) <<< ((1 : Int32).toInt64 &&& 63)) ||| 0) <<< ((3 : Int32).toInt64 &&& 63)) ||| 0) <<< ((1 : Int32).toInt64 &&& 63)) ||| 0) <<< ((4 : Int32).toInt64 &&& 63)) ||| 0) <<< ((2 : Int32).toInt64 &&& 63)) ||| 3) <<< ((1 : Int32).toInt64 &&& 63)) ||| 0) <<< ((3 : Int32).toInt64 &&& 63)) ||| 0) <<< ((1 : Int32).toInt64 &&& 63)) ||| 0) <<< ((3 : Int32).toInt64 &&& 63)) ||| 0) <<< ((1 : Int32).toInt64 &&& 63)) ||| 0) = u)) (mw cy a)) := by
  refine Ct.ofZ RX12 "debt" [(0, .ref (a 0)), (1, .int 0), (2, .int 1), (3, .int p0)] rfl rfl rfl rfl (Nat.le_of_ble_eq_true rfl) ?_
  intro p e R s m args below meth c A b
  refine z_iload_n b dX12_debt_0 rfl rfl ?_
  refine z_calli b (z_runS (As := [.int 0]) (st := []) b (c_X12_isOne_2 S ) cf_X12_isOne wm_X12_170 ws_X12_isOne dX12_debt_1 rfl (Nat.le_of_ble_eq_true rfl) ⟨by decide, by decide, by decide, by decide⟩) (fun r1077 u1078 h1076 => ?_)
  obtain ⟨rfl, rfl⟩ := h1076
  refine z_if_eq_f (tgt := 29) b dX12_debt_4 (by decide) (by decide) ?_
  refine z_iload_n b dX12_debt_7 rfl rfl ?_
  refine z_calli b (z_runS (As := [.int 1]) (st := []) b (c_X12_isOne_3 S ) cf_X12_isOne wm_X12_170 ws_X12_isOne dX12_debt_8 rfl (Nat.le_of_ble_eq_true rfl) ⟨by decide, by decide, by decide, by decide⟩) (fun r1080 u1081 h1079 => ?_)
  obtain ⟨rfl, rfl⟩ := h1079
  refine z_if_eq_f (tgt := 29) b dX12_debt_11 (by decide) (by decide) ?_
  refine z_iload_n b dX12_debt_14 rfl rfl ?_
  refine z_iload_n b dX12_debt_15 rfl rfl ?_
  refine z_icmp_eq_f (tgt := 29) b dX12_debt_16 (by decide) (by decide) ?_
  refine z_iload_n b dX12_debt_19 rfl rfl ?_
  refine z_iconst (v := 0) b dX12_debt_20 (by decide) ?_
  refine z_bipush (v := 7) b dX12_debt_21 (by decide) ?_
  refine z_calli b (z_runS (As := [.int p0, .int 0, .int 7]) (st := []) b (c_X12_isIn_7 S p0 ) cf_X12_isIn wm_X12_1 ws_X12_isIn dX12_debt_23 rfl (Nat.le_of_ble_eq_true rfl) ⟨by decide, by decide, by decide, by decide⟩) (fun r1083 u1084 h1082 => ?_)
  rcases h1082 with ⟨c1085, rfl, rfl⟩ | ⟨c1086, rfl, rfl⟩
  · refine z_if_ne_f (tgt := 31) b dX12_debt_26 (by decide) (by decide) ?_
    refine z_iconst (v := 0) b dX12_debt_29 (by decide) ?_
    exact z_zret (u := S) b rfl (by decide) dX12_debt_30 (Or.inl ⟨c1085, rfl, rfl⟩) rfl (by decide) (by decide)
  · refine z_if_ne_t (tgt := 31) b dX12_debt_26 (by decide) (by decide) ?_
    refine z_aload_n b dX12_debt_31 rfl rfl ?_
    refine z_aload_n b dX12_debt_32 rfl rfl ?_
    refine z_get (q0 := 0) (k9 := 6) (v := .long (fl S 0)) b (mw_0 cy a S) rfl in_X12 (by decide) wf_X12_153 rfl dX12_debt_33 ?_
    refine z_eql h_l_0 ?_
    refine z_callv b (z_runV (q0 := 0) (As := [.long 1649317774848]) (st := []) b (c_X12_takes S h_a_4_7 h_a_1_7 h_a_4_6 h_a_1_6 h_a_3_6 h_a_3_2 h_a_2_2 h_a_0_2 h_a_4_3 h_a_1_3 h_a_4_5 h_a_1_5 h_a_3_5 h_a_3_7 h_a_2_1 h_a_0_1 h_a_4_2 h_a_1_2 h_a_4_1 h_a_1_1 h_a_3_1 h_a_3_3 h_a_2_0 h_a_0_0 h_i_0) cf_X12_takes (mw_0 cy a S) rfl wm_X12_174 wi_X12_takes ws_X12_takes dX12_debt_36 rfl (Nat.le_of_ble_eq_true rfl) ⟨by decide, by decide, by decide, by decide⟩) (fun u1089 h1087 => ?_)
    obtain rfl := h1087
    refine z_aload_n b dX12_debt_39 rfl rfl ?_
    refine z_get (q0 := 0) (k9 := 1) (v := .ref (a 2)) b (mw_0 cy a S) rfl in_X12 (by decide) wf_X12_17 rfl dX12_debt_40 ?_
    refine z_iconst (v := 3) b dX12_debt_43 (by decide) ?_
    refine z_iload_n b dX12_debt_44 rfl rfl ?_
    refine z_imul (v := 0) b dX12_debt_45 (by decide) ?_
    refine z_iload_n b dX12_debt_46 rfl rfl ?_
    refine z_iadd (v := 1) b dX12_debt_47 (by decide) ?_
    refine z_iload_n b dX12_debt_48 rfl rfl ?_
    refine y_iast (q0 := 2) (j := 1) b (mw_2 cy a S) (by decide) dX12_debt_49 (mwa_2 cy a S 1 p0) ?_
    refine z_aload_n b dX12_debt_50 rfl rfl ?_
    refine z_calli b (z_runV (q0 := 0) (As := []) (st := []) b (c_X12_told_8 (su S 1 1 p0) h_i_0 h_a_0_0 h_a_2_0 h_a_3_1 h_a_4_1 h_a_1_2 h_a_4_2 h_a_0_1 h_a_2_1 h_a_3_5 h_a_1_5 h_a_4_5 h_a_1_3 h_a_4_3 h_a_0_2 h_a_2_2 h_a_3_6 h_a_1_6 h_a_4_6 h_a_1_7 h_a_4_7) cf_X12_told (mw_0 cy a (su S 1 1 p0)) rfl wm_X12_178 wi_X12_told ws_X12_told dX12_debt_51 rfl (Nat.le_of_ble_eq_true rfl) ⟨by decide, by decide, by decide, by decide⟩) (fun r1139 u1140 h1138 => ?_)
    obtain ⟨rfl, rfl⟩ := h1138
    exact z_zret (u := (sl (su S 1 1 p0) 0 (((((((((((((((((((((((((((((((((((48 ||| ((ar (su S 1 1 p0) 1 1) : Int32).toInt64) <<< ((1 : Int32).toInt64 &&& 63)) ||| 0) <<< ((3 : Int32).toInt64 &&& 63)) ||| 0) <<< ((1 : Int32).toInt64 &&& 63)) ||| 0) <<< ((4 : Int32).toInt64 &&& 63)) ||| 0) <<< ((2 : Int32).toInt64 &&& 63)) ||| 3) <<< ((1 : Int32).toInt64 &&& 63)) ||| 0) <<< ((3 : Int32).toInt64 &&& 63)) ||| 0) <<< ((1 : Int32).toInt64 &&& 63)) ||| 0) <<< ((3 : Int32).toInt64 &&& 63)) ||| 0) <<< ((1 : Int32).toInt64 &&& 63)) ||| 0) <<< ((4 : Int32).toInt64 &&& 63)) ||| 0) <<< ((2 : Int32).toInt64 &&& 63)) ||| 3) <<< ((1 : Int32).toInt64 &&& 63)) ||| 0) <<< ((3 : Int32).toInt64 &&& 63)) ||| 0) <<< ((1 : Int32).toInt64 &&& 63)) ||| 0) <<< ((3 : Int32).toInt64 &&& 63)) ||| 0) <<< ((1 : Int32).toInt64 &&& 63)) ||| 0))) b rfl (by decide) dX12_debt_54 (Or.inr ⟨c1086, rfl, rfl⟩) rfl (by decide) (by decide)

set_option maxHeartbeats 4000000 in
set_option maxRecDepth 100000 in
theorem c_X11_debt_14 {l : Launch} {D : va_G} {cy : Nat → ClassId} {T0 tB tE : Nat} {a : Nat → Nat} {rw : Nat → Option Nat} (S : GS) (p0 : Int32)  (hr_p0 : 8 ≤ p0.toInt ∧ p0.toInt ≤ 2147483647) : Ct l D cy T0 tB tE yX11_debt cX11_debt 4 (some .boolean) 2 41 0 0 (cw cy tE a rw S) [.ref (a 0), .int 0, .int 1, .int p0] (QI D (U := GS) (fun r u => 0 = r ∧ S = u) (cw cy tE a rw)) := by
  refine Ct.ofZ RX11 "debt" [(0, .ref (a 0)), (1, .int 0), (2, .int 1), (3, .int p0)] rfl rfl rfl rfl (Nat.le_of_ble_eq_true rfl) ?_
  intro p e R s m args below meth c A b
  refine z_iload_n b dX11_debt_0 rfl rfl ?_
  refine z_iload_n b dX11_debt_1 rfl rfl ?_
  refine z_calli b (z_runS (As := [.int 0, .int 1]) (st := []) b (c_X11_arePair_8 S ) cf_X11_arePair wm_X11_84 ws_X11_arePair dX11_debt_2 rfl (Nat.le_of_ble_eq_true rfl) ⟨by decide, by decide, by decide, by decide⟩) (fun r1142 u1143 h1141 => ?_)
  obtain ⟨rfl, rfl⟩ := h1141
  refine z_if_eq_f (tgt := 17) b dX11_debt_5 (by decide) (by decide) ?_
  refine z_iload_n b dX11_debt_8 rfl rfl ?_
  refine z_bipush (v := 7) b dX11_debt_9 (by decide) ?_
  refine z_calli b (z_runS (As := [.int p0, .int 7]) (st := []) b (c_X11_isWithin_3 S p0 ) cf_X11_isWithin wm_X11_73 ws_X11_isWithin dX11_debt_11 rfl (Nat.le_of_ble_eq_true rfl) ⟨by decide, by decide, by decide, by decide⟩) (fun r1145 u1146 h1144 => ?_)
  rcases h1144 with ⟨c1147, rfl, rfl⟩ | ⟨c1148, rfl, rfl⟩
  · refine z_if_ne_f (tgt := 19) b dX11_debt_14 (by decide) (by decide) ?_
    refine z_iconst (v := 0) b dX11_debt_17 (by decide) ?_
    exact z_zret (u := S) b rfl (by decide) dX11_debt_18 ⟨rfl, rfl⟩ rfl (by decide) (by decide)
  · exfalso; omega

set_option maxHeartbeats 4000000 in
set_option maxRecDepth 100000 in
theorem c_X12_debt_14 {l : Launch} {D : va_G} {cy : Nat → ClassId} {T0 tB tE : Nat} {a : Nat → Nat} (S : GS) (p0 : Int32)  (hr_p0 : 8 ≤ p0.toInt ∧ p0.toInt ≤ 2147483647) : Ct l D cy T0 tB tE yX12_debt cX12_debt 4 (some .boolean) 2 42 0 0 (mw cy a S) [.ref (a 0), .int 0, .int 1, .int p0] (QI D (U := GS) (fun r u => 0 = r ∧ S = u) (mw cy a)) := by
  refine Ct.ofZ RX12 "debt" [(0, .ref (a 0)), (1, .int 0), (2, .int 1), (3, .int p0)] rfl rfl rfl rfl (Nat.le_of_ble_eq_true rfl) ?_
  intro p e R s m args below meth c A b
  refine z_iload_n b dX12_debt_0 rfl rfl ?_
  refine z_calli b (z_runS (As := [.int 0]) (st := []) b (c_X12_isOne_2 S ) cf_X12_isOne wm_X12_170 ws_X12_isOne dX12_debt_1 rfl (Nat.le_of_ble_eq_true rfl) ⟨by decide, by decide, by decide, by decide⟩) (fun r1150 u1151 h1149 => ?_)
  obtain ⟨rfl, rfl⟩ := h1149
  refine z_if_eq_f (tgt := 29) b dX12_debt_4 (by decide) (by decide) ?_
  refine z_iload_n b dX12_debt_7 rfl rfl ?_
  refine z_calli b (z_runS (As := [.int 1]) (st := []) b (c_X12_isOne_3 S ) cf_X12_isOne wm_X12_170 ws_X12_isOne dX12_debt_8 rfl (Nat.le_of_ble_eq_true rfl) ⟨by decide, by decide, by decide, by decide⟩) (fun r1153 u1154 h1152 => ?_)
  obtain ⟨rfl, rfl⟩ := h1152
  refine z_if_eq_f (tgt := 29) b dX12_debt_11 (by decide) (by decide) ?_
  refine z_iload_n b dX12_debt_14 rfl rfl ?_
  refine z_iload_n b dX12_debt_15 rfl rfl ?_
  refine z_icmp_eq_f (tgt := 29) b dX12_debt_16 (by decide) (by decide) ?_
  refine z_iload_n b dX12_debt_19 rfl rfl ?_
  refine z_iconst (v := 0) b dX12_debt_20 (by decide) ?_
  refine z_bipush (v := 7) b dX12_debt_21 (by decide) ?_
  refine z_calli b (z_runS (As := [.int p0, .int 0, .int 7]) (st := []) b (c_X12_isIn_7 S p0 ) cf_X12_isIn wm_X12_1 ws_X12_isIn dX12_debt_23 rfl (Nat.le_of_ble_eq_true rfl) ⟨by decide, by decide, by decide, by decide⟩) (fun r1156 u1157 h1155 => ?_)
  rcases h1155 with ⟨c1158, rfl, rfl⟩ | ⟨c1159, rfl, rfl⟩
  · refine z_if_ne_f (tgt := 31) b dX12_debt_26 (by decide) (by decide) ?_
    refine z_iconst (v := 0) b dX12_debt_29 (by decide) ?_
    exact z_zret (u := S) b rfl (by decide) dX12_debt_30 ⟨rfl, rfl⟩ rfl (by decide) (by decide)
  · exfalso; omega

set_option maxHeartbeats 4000000 in
set_option maxRecDepth 100000 in
theorem c_X11_arePair_9 {l : Launch} {D : va_G} {cy : Nat → ClassId} {T0 tB tE : Nat} {a : Nat → Nat} {rw : Nat → Option Nat} (S : GS)   : Ct l D cy T0 tB tE yX11_arePair cX11_arePair 2 (some .boolean) 1 20 0 0 (cw cy tE a rw S) [.int 0, .int 2] (QI D (U := GS) (fun r u => 1 = r ∧ S = u) (cw cy tE a rw)) := by
  refine Ct.ofZ RX11 "arePair" [(0, .int 0), (1, .int 2)] rfl rfl rfl rfl (Nat.le_of_ble_eq_true rfl) ?_
  intro p e R s m args below meth c A b
  refine z_iload_n b dX11_arePair_0 rfl rfl ?_
  refine z_calli b (z_runS (As := [.int 0]) (st := []) b (c_X11_isPerson_2 S ) cf_X11_isPerson wm_X11_69 ws_X11_isPerson dX11_arePair_1 rfl (Nat.le_of_ble_eq_true rfl) ⟨by decide, by decide, by decide, by decide⟩) (fun r1161 u1162 h1160 => ?_)
  obtain ⟨rfl, rfl⟩ := h1160
  refine z_if_eq_f (tgt := 23) b dX11_arePair_4 (by decide) (by decide) ?_
  refine z_iload_n b dX11_arePair_7 rfl rfl ?_
  refine z_calli b (z_runS (As := [.int 2]) (st := []) b (c_X11_isPerson_4 S ) cf_X11_isPerson wm_X11_69 ws_X11_isPerson dX11_arePair_8 rfl (Nat.le_of_ble_eq_true rfl) ⟨by decide, by decide, by decide, by decide⟩) (fun r1164 u1165 h1163 => ?_)
  obtain ⟨rfl, rfl⟩ := h1163
  refine z_if_eq_f (tgt := 23) b dX11_arePair_11 (by decide) (by decide) ?_
  refine z_iload_n b dX11_arePair_14 rfl rfl ?_
  refine z_iload_n b dX11_arePair_15 rfl rfl ?_
  refine z_icmp_eq_f (tgt := 23) b dX11_arePair_16 (by decide) (by decide) ?_
  refine z_iconst (v := 1) b dX11_arePair_19 (by decide) ?_
  refine z_goto (tgt := 24) b dX11_arePair_20 (by decide) ?_
  exact z_zret (u := S) b rfl (by decide) dX11_arePair_24 ⟨rfl, rfl⟩ rfl (by decide) (by decide)

set_option maxHeartbeats 4000000 in
set_option maxRecDepth 100000 in
theorem c_X11_debt_15 {l : Launch} {D : va_G} {cy : Nat → ClassId} {T0 tB tE : Nat} {a : Nat → Nat} {rw : Nat → Option Nat} (S : GS) (p0 : Int32)  (hr_p0 : (-2147483648) ≤ p0.toInt ∧ p0.toInt ≤ (-1)) : Ct l D cy T0 tB tE yX11_debt cX11_debt 4 (some .boolean) 2 41 0 0 (cw cy tE a rw S) [.ref (a 0), .int 0, .int 2, .int p0] (QI D (U := GS) (fun r u => 0 = r ∧ S = u) (cw cy tE a rw)) := by
  refine Ct.ofZ RX11 "debt" [(0, .ref (a 0)), (1, .int 0), (2, .int 2), (3, .int p0)] rfl rfl rfl rfl (Nat.le_of_ble_eq_true rfl) ?_
  intro p e R s m args below meth c A b
  refine z_iload_n b dX11_debt_0 rfl rfl ?_
  refine z_iload_n b dX11_debt_1 rfl rfl ?_
  refine z_calli b (z_runS (As := [.int 0, .int 2]) (st := []) b (c_X11_arePair_9 S ) cf_X11_arePair wm_X11_84 ws_X11_arePair dX11_debt_2 rfl (Nat.le_of_ble_eq_true rfl) ⟨by decide, by decide, by decide, by decide⟩) (fun r1167 u1168 h1166 => ?_)
  obtain ⟨rfl, rfl⟩ := h1166
  refine z_if_eq_f (tgt := 17) b dX11_debt_5 (by decide) (by decide) ?_
  refine z_iload_n b dX11_debt_8 rfl rfl ?_
  refine z_bipush (v := 7) b dX11_debt_9 (by decide) ?_
  refine z_calli b (z_runS (As := [.int p0, .int 7]) (st := []) b (c_X11_isWithin_3 S p0 ) cf_X11_isWithin wm_X11_73 ws_X11_isWithin dX11_debt_11 rfl (Nat.le_of_ble_eq_true rfl) ⟨by decide, by decide, by decide, by decide⟩) (fun r1170 u1171 h1169 => ?_)
  rcases h1169 with ⟨c1172, rfl, rfl⟩ | ⟨c1173, rfl, rfl⟩
  · refine z_if_ne_f (tgt := 19) b dX11_debt_14 (by decide) (by decide) ?_
    refine z_iconst (v := 0) b dX11_debt_17 (by decide) ?_
    exact z_zret (u := S) b rfl (by decide) dX11_debt_18 ⟨rfl, rfl⟩ rfl (by decide) (by decide)
  · exfalso; omega

set_option maxHeartbeats 4000000 in
set_option maxRecDepth 100000 in
theorem c_X12_debt_15 {l : Launch} {D : va_G} {cy : Nat → ClassId} {T0 tB tE : Nat} {a : Nat → Nat} (S : GS) (p0 : Int32)  (hr_p0 : (-2147483648) ≤ p0.toInt ∧ p0.toInt ≤ (-1)) : Ct l D cy T0 tB tE yX12_debt cX12_debt 4 (some .boolean) 2 42 0 0 (mw cy a S) [.ref (a 0), .int 0, .int 2, .int p0] (QI D (U := GS) (fun r u => 0 = r ∧ S = u) (mw cy a)) := by
  refine Ct.ofZ RX12 "debt" [(0, .ref (a 0)), (1, .int 0), (2, .int 2), (3, .int p0)] rfl rfl rfl rfl (Nat.le_of_ble_eq_true rfl) ?_
  intro p e R s m args below meth c A b
  refine z_iload_n b dX12_debt_0 rfl rfl ?_
  refine z_calli b (z_runS (As := [.int 0]) (st := []) b (c_X12_isOne_2 S ) cf_X12_isOne wm_X12_170 ws_X12_isOne dX12_debt_1 rfl (Nat.le_of_ble_eq_true rfl) ⟨by decide, by decide, by decide, by decide⟩) (fun r1175 u1176 h1174 => ?_)
  obtain ⟨rfl, rfl⟩ := h1174
  refine z_if_eq_f (tgt := 29) b dX12_debt_4 (by decide) (by decide) ?_
  refine z_iload_n b dX12_debt_7 rfl rfl ?_
  refine z_calli b (z_runS (As := [.int 2]) (st := []) b (c_X12_isOne_4 S ) cf_X12_isOne wm_X12_170 ws_X12_isOne dX12_debt_8 rfl (Nat.le_of_ble_eq_true rfl) ⟨by decide, by decide, by decide, by decide⟩) (fun r1178 u1179 h1177 => ?_)
  obtain ⟨rfl, rfl⟩ := h1177
  refine z_if_eq_f (tgt := 29) b dX12_debt_11 (by decide) (by decide) ?_
  refine z_iload_n b dX12_debt_14 rfl rfl ?_
  refine z_iload_n b dX12_debt_15 rfl rfl ?_
  refine z_icmp_eq_f (tgt := 29) b dX12_debt_16 (by decide) (by decide) ?_
  refine z_iload_n b dX12_debt_19 rfl rfl ?_
  refine z_iconst (v := 0) b dX12_debt_20 (by decide) ?_
  refine z_bipush (v := 7) b dX12_debt_21 (by decide) ?_
  refine z_calli b (z_runS (As := [.int p0, .int 0, .int 7]) (st := []) b (c_X12_isIn_7 S p0 ) cf_X12_isIn wm_X12_1 ws_X12_isIn dX12_debt_23 rfl (Nat.le_of_ble_eq_true rfl) ⟨by decide, by decide, by decide, by decide⟩) (fun r1181 u1182 h1180 => ?_)
  rcases h1180 with ⟨c1183, rfl, rfl⟩ | ⟨c1184, rfl, rfl⟩
  · refine z_if_ne_f (tgt := 31) b dX12_debt_26 (by decide) (by decide) ?_
    refine z_iconst (v := 0) b dX12_debt_29 (by decide) ?_
    exact z_zret (u := S) b rfl (by decide) dX12_debt_30 ⟨rfl, rfl⟩ rfl (by decide) (by decide)
  · exfalso; omega

set_option maxHeartbeats 4000000 in
set_option maxRecDepth 100000 in
theorem c_X9_set_9 {l : Launch} {D : va_G} {cy : Nat → ClassId} {T0 tB tE : Nat} {a : Nat → Nat} {rw : Nat → Option Nat} (S : GS) (p0 : Int32)  : Ct l D cy T0 tB tE yX9_set cX9_set 3 none 0 0 0 0 (cw cy tE a rw S) [.ref (a 14), .int 12, .int p0] (QV D (U := GS) (fun u => su S 4 12 p0 = u) (cw cy tE a rw)) := by
  refine Ct.ofZ RX9 "set" [(0, .ref (a 14)), (1, .int 12), (2, .int p0)] rfl rfl rfl rfl (Nat.le_of_ble_eq_true rfl) ?_
  intro p e R s m args below meth c A b
  refine z_iload_n b dX9_set_0 rfl rfl ?_
  refine z_if_lt_f (tgt := 20) b dX9_set_1 (by decide) (by decide) ?_
  refine z_iload_n b dX9_set_4 rfl rfl ?_
  refine z_aload_n b dX9_set_5 rfl rfl ?_
  refine z_get (q0 := 14) (k9 := 0) (v := .ref (a 15)) b (cw_14 cy tE a rw S) rfl in_X9 (by decide) wf_X9_11 rfl dX9_set_6 ?_
  refine z_alen (q0 := 15) (t0 := 0) (v := 51) b (cw_15 cy tE a rw S) rfl rfl dX9_set_9 ?_
  refine z_icmp_ge_f (tgt := 20) b dX9_set_10 (by decide) (by decide) ?_
  refine z_aload_n b dX9_set_13 rfl rfl ?_
  refine z_get (q0 := 14) (k9 := 0) (v := .ref (a 15)) b (cw_14 cy tE a rw S) rfl in_X9 (by decide) wf_X9_11 rfl dX9_set_14 ?_
  refine z_iload_n b dX9_set_17 rfl rfl ?_
  refine z_iload_n b dX9_set_18 rfl rfl ?_
  refine y_iast (q0 := 15) (j := 12) b (cw_15 cy tE a rw S) (by decide) dX9_set_19 (cwa_15 cy tE a rw S 12 p0) ?_
  exact z_vret (u := (su S 4 12 p0)) b rfl dX9_set_20 rfl rfl (by decide) (by decide)

set_option maxHeartbeats 4000000 in
set_option maxRecDepth 100000 in
theorem c_X11_debt_16 {l : Launch} {D : va_G} {cy : Nat → ClassId} {T0 tB tE : Nat} {a : Nat → Nat} {rw : Nat → Option Nat} (S : GS) (p0 : Int32) (h_i_24 : fi S 24 = 0) (hr_p0 : 0 ≤ p0.toInt ∧ p0.toInt ≤ 7) : Ct l D cy T0 tB tE yX11_debt cX11_debt 4 (some .boolean) 2 41 0 0 (cw cy tE a rw S) [.ref (a 0), .int 0, .int 2, .int p0] (QI D (U := GS) (fun r u => (((((p0.toInt < 0)) ∨ ((0 ≤ p0.toInt) ∧ (7 < p0.toInt)))) ∧ 0 = r ∧ S = u) ∨ ((((0 ≤ p0.toInt) ∧ (p0.toInt ≤ 7))) ∧ 1 = r ∧ (su S 4 12 p0) = u)) (cw cy tE a rw)) := by
  refine Ct.ofZ RX11 "debt" [(0, .ref (a 0)), (1, .int 0), (2, .int 2), (3, .int p0)] rfl rfl rfl rfl (Nat.le_of_ble_eq_true rfl) ?_
  intro p e R s m args below meth c A b
  refine z_iload_n b dX11_debt_0 rfl rfl ?_
  refine z_iload_n b dX11_debt_1 rfl rfl ?_
  refine z_calli b (z_runS (As := [.int 0, .int 2]) (st := []) b (c_X11_arePair_9 S ) cf_X11_arePair wm_X11_84 ws_X11_arePair dX11_debt_2 rfl (Nat.le_of_ble_eq_true rfl) ⟨by decide, by decide, by decide, by decide⟩) (fun r1186 u1187 h1185 => ?_)
  obtain ⟨rfl, rfl⟩ := h1185
  refine z_if_eq_f (tgt := 17) b dX11_debt_5 (by decide) (by decide) ?_
  refine z_iload_n b dX11_debt_8 rfl rfl ?_
  refine z_bipush (v := 7) b dX11_debt_9 (by decide) ?_
  refine z_calli b (z_runS (As := [.int p0, .int 7]) (st := []) b (c_X11_isWithin_3 S p0 ) cf_X11_isWithin wm_X11_73 ws_X11_isWithin dX11_debt_11 rfl (Nat.le_of_ble_eq_true rfl) ⟨by decide, by decide, by decide, by decide⟩) (fun r1189 u1190 h1188 => ?_)
  rcases h1188 with ⟨c1191, rfl, rfl⟩ | ⟨c1192, rfl, rfl⟩
  · refine z_if_ne_f (tgt := 19) b dX11_debt_14 (by decide) (by decide) ?_
    refine z_iconst (v := 0) b dX11_debt_17 (by decide) ?_
    exact z_zret (u := S) b rfl (by decide) dX11_debt_18 (Or.inl ⟨c1191, rfl, rfl⟩) rfl (by decide) (by decide)
  · refine z_if_ne_t (tgt := 19) b dX11_debt_14 (by decide) (by decide) ?_
    refine z_aload_n b dX11_debt_19 rfl rfl ?_
    refine z_get (q0 := 0) (k9 := 4) (v := .ref (a 14)) b (cw_0 cy tE a rw S) rfl in_X11 (by decide) wf_X11_34 rfl dX11_debt_20 ?_
    refine z_bipush (v := 10) b dX11_debt_23 (by decide) ?_
    refine z_iconst (v := 3) b dX11_debt_25 (by decide) ?_
    refine z_iload_n b dX11_debt_26 rfl rfl ?_
    refine z_imul (v := 0) b dX11_debt_27 (by decide) ?_
    refine z_iadd (v := 10) b dX11_debt_28 (by decide) ?_
    refine z_iload_n b dX11_debt_29 rfl rfl ?_
    refine z_iadd (v := 12) b dX11_debt_30 (by decide) ?_
    refine z_iload_n b dX11_debt_31 rfl rfl ?_
    refine z_callv b (z_runV (q0 := 14) (As := [.int 12, .int p0]) (st := []) b (c_X9_set_9 S p0 ) cf_X9_set (cw_14 cy tE a rw S) rfl wm_X11_77 wi_X9_set ws_X9_set dX11_debt_32 rfl (Nat.le_of_ble_eq_true rfl) ⟨by decide, by decide, by decide, by decide⟩) (fun u1195 h1193 => ?_)
    obtain rfl := h1193
    refine z_aload_n b dX11_debt_35 rfl rfl ?_
    refine z_get (q0 := 0) (k9 := 6) (v := .ref (a 25)) b (cw_0 cy tE a rw (su S 4 12 p0)) rfl in_X11 (by decide) wf_X11_52 rfl dX11_debt_36 ?_
    refine z_callv b (z_runV (q0 := 25) (As := []) (st := []) b (c_X8_forget (su S 4 12 p0) h_i_24) cf_X8_forget (cw_25 cy tE a rw (su S 4 12 p0)) rfl wm_X11_81 wi_X8_forget ws_X8_forget dX11_debt_39 rfl (Nat.le_of_ble_eq_true rfl) ⟨by decide, by decide, by decide, by decide⟩) (fun u1198 h1196 => ?_)
    obtain rfl := h1196
    refine z_iconst (v := 1) b dX11_debt_42 (by decide) ?_
    exact z_zret (u := (su S 4 12 p0)) b rfl (by decide) dX11_debt_43 (Or.inr ⟨c1192, rfl, rfl⟩) rfl (by decide) (by decide)

set_option maxHeartbeats 4000000 in
set_option maxRecDepth 100000 in
theorem ch_X12_packs_20 {p : Program} {l : Launch} {e : Env} {R : Room} {s : State} {m : MethodId} {args : Array Value} {below : List Frame} {meth : Method} {c : Code} {D : va_G} {cy : Nat → ClassId} {T0 tB tE : Nat} {A : Nat → Prop} {Q : State → Prop} {a : Nat → Nat} (S : GS)  (h_a_0_0 : ar S 0 0 = 0) (h_a_0_1 : ar S 0 1 = 0) (h_a_1_1 : ar S 1 1 = 0) (h_a_2_0 : ar S 2 0 = 3) (h_a_3_1 : ar S 3 1 = 0) (h_a_4_1 : ar S 4 1 = 0) (h_a_4_2 : ar S 4 2 = 0) (h_i_0 : fi S 0 = 0) (b : Bz p R s m args meth c D cy T0 tB tE A 5 cX12_packs RX12 (some .long) "packs" 1 21 0 0) (k : Z p l e R s m args below meth c D A 5 Q 0 0 (mw cy a S) [(3, .int 1), (4, .int 2), (1, .long (((768 ||| ((ar S 1 2) : Int32).toInt64) <<< ((1 : Int32).toInt64 &&& 63)) ||| 0)), (0, .ref (a 0))] 22 [.int 0, .long ((((768 ||| ((ar S 1 2) : Int32).toInt64) <<< ((1 : Int32).toInt64 &&& 63)) ||| 0) <<< ((4 : Int32).toInt64 &&& 63))]) : Z p l e R s m args below meth c D A 5 Q 0 0 (mw cy a S) [(0, .ref (a 0))] 0 [] := by
  refine z_aload_n b dX12_packs_0 rfl rfl ?_
  refine z_get (q0 := 0) (k9 := 5) (v := .int (fi S 0)) b (mw_0 cy a S) rfl in_X12 (by decide) wf_X12_157 rfl dX12_packs_1 ?_
  refine z_eqi h_i_0 ?_
  refine z_i2l (v := 0) b dX12_packs_4 (by decide) ?_
  refine z_lstore_n (lv' := [(1, .long 0), (0, .ref (a 0))]) b dX12_packs_5 rfl (by decide) rfl ?_
  refine z_iconst (v := 0) b dX12_packs_6 (by decide) ?_
  refine z_istore_n (lv' := [(3, .int 0), (1, .long 0), (0, .ref (a 0))]) b dX12_packs_7 rfl (by decide) rfl ?_
  refine z_iload_n b dX12_packs_8 rfl rfl ?_
  refine z_iconst (v := 3) b dX12_packs_9 (by decide) ?_
  refine z_icmp_ge_f (tgt := 134) b dX12_packs_10 (by decide) (by decide) ?_
  refine z_lload_n b dX12_packs_13 rfl rfl ?_
  refine z_iconst (v := 4) b dX12_packs_14 (by decide) ?_
  refine z_lshl (v := 0) b dX12_packs_15 (by decide) ?_
  refine z_aload_n b dX12_packs_16 rfl rfl ?_
  refine z_get (q0 := 0) (k9 := 0) (v := .ref (a 1)) b (mw_0 cy a S) rfl in_X12 (by decide) wf_X12_13 rfl dX12_packs_17 ?_
  refine z_iload_n b dX12_packs_20 rfl rfl ?_
  refine y_iald (q0 := 1) (j := 0) (v := (ar S 0 0)) b (mw_1 cy a S) (by decide) rfl dX12_packs_21 ?_
  refine z_eqi h_a_0_0 ?_
  refine z_i2l (v := 0) b dX12_packs_22 (by decide) ?_
  refine z_lor (v := 0) b dX12_packs_23 (by decide) ?_
  refine z_lstore_n (lv' := [(1, .long 0), (3, .int 0), (0, .ref (a 0))]) b dX12_packs_24 rfl (by decide) rfl ?_
  refine z_lload_n b dX12_packs_25 rfl rfl ?_
  refine z_iconst (v := 2) b dX12_packs_26 (by decide) ?_
  refine z_lshl (v := 0) b dX12_packs_27 (by decide) ?_
  refine z_aload_n b dX12_packs_28 rfl rfl ?_
  refine z_get (q0 := 0) (k9 := 2) (v := .ref (a 3)) b (mw_0 cy a S) rfl in_X12 (by decide) wf_X12_20 rfl dX12_packs_29 ?_
  refine z_iload_n b dX12_packs_32 rfl rfl ?_
  refine y_iald (q0 := 3) (j := 0) (v := (ar S 2 0)) b (mw_3 cy a S) (by decide) rfl dX12_packs_33 ?_
  refine z_eqi h_a_2_0 ?_
  refine z_i2l (v := 3) b dX12_packs_34 (by decide) ?_
  refine z_lor (v := 3) b dX12_packs_35 (by decide) ?_
  refine z_lstore_n (lv' := [(1, .long 3), (3, .int 0), (0, .ref (a 0))]) b dX12_packs_36 rfl (by decide) rfl ?_
  refine z_lload_n b dX12_packs_37 rfl rfl ?_
  refine z_iconst (v := 1) b dX12_packs_38 (by decide) ?_
  refine z_lshl (v := 6) b dX12_packs_39 (by decide) ?_
  refine z_aload_n b dX12_packs_40 rfl rfl ?_
  refine z_get (q0 := 0) (k9 := 3) (v := .ref (a 4)) b (mw_0 cy a S) rfl in_X12 (by decide) wf_X12_23 rfl dX12_packs_41 ?_
  refine z_iconst (v := 3) b dX12_packs_44 (by decide) ?_
  refine z_iload_n b dX12_packs_45 rfl rfl ?_
  refine z_imul (v := 0) b dX12_packs_46 (by decide) ?_
  refine z_iload_n b dX12_packs_47 rfl rfl ?_
  refine z_iconst (v := 0) b dX12_packs_48 (by decide) ?_
  refine z_calli b (z_runS (As := [.int 0, .int 0]) (st := [.int 0, .ref (a 4), .long 6]) b (c_X12_other_6 S ) cf_X12_other wm_X12_160 ws_X12_other dX12_packs_49 rfl (Nat.le_of_ble_eq_true rfl) ⟨by decide, by decide, by decide, by decide⟩) (fun r1214 u1215 h1213 => ?_)
  obtain ⟨rfl, rfl⟩ := h1213
  refine z_iadd (v := 1) b dX12_packs_52 (by decide) ?_
  refine y_zald (q0 := 4) (j := 1) (v := (ar S 3 1)) b (mw_4 cy a S) (by decide) rfl dX12_packs_53 ?_
  refine z_eqi h_a_3_1 ?_
  refine z_if_eq_t (tgt := 61) b dX12_packs_54 (by decide) (by decide) ?_
  refine z_lconst (v := 0) b dX12_packs_61 (by decide) ?_
  refine z_lor (v := 6) b dX12_packs_62 (by decide) ?_
  refine z_lstore_n (lv' := [(1, .long 6), (3, .int 0), (0, .ref (a 0))]) b dX12_packs_63 rfl (by decide) rfl ?_
  refine z_iconst (v := 0) b dX12_packs_64 (by decide) ?_
  refine z_istore (lv' := [(4, .int 0), (1, .long 6), (3, .int 0), (0, .ref (a 0))]) b dX12_packs_65 (by decide) rfl ?_
  refine z_iload b dX12_packs_67 rfl ?_
  refine z_iconst (v := 2) b dX12_packs_69 (by decide) ?_
  refine z_icmp_ge_f (tgt := 128) b dX12_packs_70 (by decide) (by decide) ?_
  refine z_lload_n b dX12_packs_73 rfl rfl ?_
  refine z_iconst (v := 3) b dX12_packs_74 (by decide) ?_
  refine z_lshl (v := 48) b dX12_packs_75 (by decide) ?_
  refine z_aload_n b dX12_packs_76 rfl rfl ?_
  refine z_get (q0 := 0) (k9 := 1) (v := .ref (a 2)) b (mw_0 cy a S) rfl in_X12 (by decide) wf_X12_17 rfl dX12_packs_77 ?_
  refine z_iconst (v := 3) b dX12_packs_80 (by decide) ?_
  refine z_iload_n b dX12_packs_81 rfl rfl ?_
  refine z_imul (v := 0) b dX12_packs_82 (by decide) ?_
  refine z_iload_n b dX12_packs_83 rfl rfl ?_
  refine z_iload b dX12_packs_84 rfl ?_
  refine z_calli b (z_runS (As := [.int 0, .int 0]) (st := [.int 0, .ref (a 2), .long 48]) b (c_X12_other_6 S ) cf_X12_other wm_X12_160 ws_X12_other dX12_packs_86 rfl (Nat.le_of_ble_eq_true rfl) ⟨by decide, by decide, by decide, by decide⟩) (fun r1217 u1218 h1216 => ?_)
  obtain ⟨rfl, rfl⟩ := h1216
  refine z_iadd (v := 1) b dX12_packs_89 (by decide) ?_
  refine y_iald (q0 := 2) (j := 1) (v := (ar S 1 1)) b (mw_2 cy a S) (by decide) rfl dX12_packs_90 ?_
  refine z_eqi h_a_1_1 ?_
  refine z_i2l (v := 0) b dX12_packs_91 (by decide) ?_
  refine z_lor (v := 48) b dX12_packs_92 (by decide) ?_
  refine z_lstore_n (lv' := [(1, .long 48), (4, .int 0), (3, .int 0), (0, .ref (a 0))]) b dX12_packs_93 rfl (by decide) rfl ?_
  refine z_lload_n b dX12_packs_94 rfl rfl ?_
  refine z_iconst (v := 1) b dX12_packs_95 (by decide) ?_
  refine z_lshl (v := 96) b dX12_packs_96 (by decide) ?_
  refine z_aload_n b dX12_packs_97 rfl rfl ?_
  refine z_get (q0 := 0) (k9 := 4) (v := .ref (a 5)) b (mw_0 cy a S) rfl in_X12 (by decide) wf_X12_27 rfl dX12_packs_98 ?_
  refine z_iconst (v := 3) b dX12_packs_101 (by decide) ?_
  refine z_iload_n b dX12_packs_102 rfl rfl ?_
  refine z_imul (v := 0) b dX12_packs_103 (by decide) ?_
  refine z_iload_n b dX12_packs_104 rfl rfl ?_
  refine z_iload b dX12_packs_105 rfl ?_
  refine z_calli b (z_runS (As := [.int 0, .int 0]) (st := [.int 0, .ref (a 5), .long 96]) b (c_X12_other_6 S ) cf_X12_other wm_X12_160 ws_X12_other dX12_packs_107 rfl (Nat.le_of_ble_eq_true rfl) ⟨by decide, by decide, by decide, by decide⟩) (fun r1220 u1221 h1219 => ?_)
  obtain ⟨rfl, rfl⟩ := h1219
  refine z_iadd (v := 1) b dX12_packs_110 (by decide) ?_
  refine y_zald (q0 := 5) (j := 1) (v := (ar S 4 1)) b (mw_5 cy a S) (by decide) rfl dX12_packs_111 ?_
  refine z_eqi h_a_4_1 ?_
  refine z_if_eq_t (tgt := 119) b dX12_packs_112 (by decide) (by decide) ?_
  refine z_lconst (v := 0) b dX12_packs_119 (by decide) ?_
  refine z_lor (v := 96) b dX12_packs_120 (by decide) ?_
  refine z_lstore_n (lv' := [(1, .long 96), (4, .int 0), (3, .int 0), (0, .ref (a 0))]) b dX12_packs_121 rfl (by decide) rfl ?_
  refine z_iinc (k9 := 1) (v := 1) (lv' := [(4, .int 1), (1, .long 96), (3, .int 0), (0, .ref (a 0))]) b dX12_packs_122 rfl (by decide) (by decide) rfl ?_
  refine z_goto (tgt := 67) b dX12_packs_125 (by decide) ?_
  refine z_iload b dX12_packs_67 rfl ?_
  refine z_iconst (v := 2) b dX12_packs_69 (by decide) ?_
  refine z_icmp_ge_f (tgt := 128) b dX12_packs_70 (by decide) (by decide) ?_
  refine z_lload_n b dX12_packs_73 rfl rfl ?_
  refine z_iconst (v := 3) b dX12_packs_74 (by decide) ?_
  refine z_lshl (v := 768) b dX12_packs_75 (by decide) ?_
  refine z_aload_n b dX12_packs_76 rfl rfl ?_
  refine z_get (q0 := 0) (k9 := 1) (v := .ref (a 2)) b (mw_0 cy a S) rfl in_X12 (by decide) wf_X12_17 rfl dX12_packs_77 ?_
  refine z_iconst (v := 3) b dX12_packs_80 (by decide) ?_
  refine z_iload_n b dX12_packs_81 rfl rfl ?_
  refine z_imul (v := 0) b dX12_packs_82 (by decide) ?_
  refine z_iload_n b dX12_packs_83 rfl rfl ?_
  refine z_iload b dX12_packs_84 rfl ?_
  refine z_calli b (z_runS (As := [.int 0, .int 1]) (st := [.int 0, .ref (a 2), .long 768]) b (c_X12_other_5 S ) cf_X12_other wm_X12_160 ws_X12_other dX12_packs_86 rfl (Nat.le_of_ble_eq_true rfl) ⟨by decide, by decide, by decide, by decide⟩) (fun r1223 u1224 h1222 => ?_)
  obtain ⟨rfl, rfl⟩ := h1222
  refine z_iadd (v := 2) b dX12_packs_89 (by decide) ?_
  refine y_iald (q0 := 2) (j := 2) (v := (ar S 1 2)) b (mw_2 cy a S) (by decide) rfl dX12_packs_90 ?_
  refine z_i2l b dX12_packs_91 rfl ?_
  refine z_lor b dX12_packs_92 rfl ?_
  refine z_lstore_n (lv' := [(1, .long (768 ||| ((ar S 1 2) : Int32).toInt64)), (4, .int 1), (3, .int 0), (0, .ref (a 0))]) b dX12_packs_93 rfl (by decide) rfl ?_
  refine z_lload_n b dX12_packs_94 rfl rfl ?_
  refine z_iconst (v := 1) b dX12_packs_95 (by decide) ?_
  refine z_lshl b dX12_packs_96 rfl ?_
  refine z_aload_n b dX12_packs_97 rfl rfl ?_
  refine z_get (q0 := 0) (k9 := 4) (v := .ref (a 5)) b (mw_0 cy a S) rfl in_X12 (by decide) wf_X12_27 rfl dX12_packs_98 ?_
  refine z_iconst (v := 3) b dX12_packs_101 (by decide) ?_
  refine z_iload_n b dX12_packs_102 rfl rfl ?_
  refine z_imul (v := 0) b dX12_packs_103 (by decide) ?_
  refine z_iload_n b dX12_packs_104 rfl rfl ?_
  refine z_iload b dX12_packs_105 rfl ?_
  refine z_calli b (z_runS (As := [.int 0, .int 1]) (st := [.int 0, .ref (a 5), .long ((768 ||| ((ar S 1 2) : Int32).toInt64) <<< ((1 : Int32).toInt64 &&& 63))]) b (c_X12_other_5 S ) cf_X12_other wm_X12_160 ws_X12_other dX12_packs_107 rfl (Nat.le_of_ble_eq_true rfl) ⟨by decide, by decide, by decide, by decide⟩) (fun r1226 u1227 h1225 => ?_)
  obtain ⟨rfl, rfl⟩ := h1225
  refine z_iadd (v := 2) b dX12_packs_110 (by decide) ?_
  refine y_zald (q0 := 5) (j := 2) (v := (ar S 4 2)) b (mw_5 cy a S) (by decide) rfl dX12_packs_111 ?_
  refine z_eqi h_a_4_2 ?_
  refine z_if_eq_t (tgt := 119) b dX12_packs_112 (by decide) (by decide) ?_
  refine z_lconst (v := 0) b dX12_packs_119 (by decide) ?_
  refine z_lor b dX12_packs_120 rfl ?_
  refine z_lstore_n (lv' := [(1, .long (((768 ||| ((ar S 1 2) : Int32).toInt64) <<< ((1 : Int32).toInt64 &&& 63)) ||| 0)), (4, .int 1), (3, .int 0), (0, .ref (a 0))]) b dX12_packs_121 rfl (by decide) rfl ?_
  refine z_iinc (k9 := 1) (v := 2) (lv' := [(4, .int 2), (1, .long (((768 ||| ((ar S 1 2) : Int32).toInt64) <<< ((1 : Int32).toInt64 &&& 63)) ||| 0)), (3, .int 0), (0, .ref (a 0))]) b dX12_packs_122 rfl (by decide) (by decide) rfl ?_
  refine z_goto (tgt := 67) b dX12_packs_125 (by decide) ?_
  refine z_iload b dX12_packs_67 rfl ?_
  refine z_iconst (v := 2) b dX12_packs_69 (by decide) ?_
  refine z_icmp_ge_t (tgt := 128) b dX12_packs_70 (by decide) (by decide) ?_
  refine z_iinc (k9 := 2) (v := 1) (lv' := [(3, .int 1), (4, .int 2), (1, .long (((768 ||| ((ar S 1 2) : Int32).toInt64) <<< ((1 : Int32).toInt64 &&& 63)) ||| 0)), (0, .ref (a 0))]) b dX12_packs_128 rfl (by decide) (by decide) rfl ?_
  refine z_goto (tgt := 8) b dX12_packs_131 (by decide) ?_
  refine z_iload_n b dX12_packs_8 rfl rfl ?_
  refine z_iconst (v := 3) b dX12_packs_9 (by decide) ?_
  refine z_icmp_ge_f (tgt := 134) b dX12_packs_10 (by decide) (by decide) ?_
  refine z_lload_n b dX12_packs_13 rfl rfl ?_
  refine z_iconst (v := 4) b dX12_packs_14 (by decide) ?_
  refine z_lshl b dX12_packs_15 rfl ?_
  refine z_aload_n b dX12_packs_16 rfl rfl ?_
  refine z_get (q0 := 0) (k9 := 0) (v := .ref (a 1)) b (mw_0 cy a S) rfl in_X12 (by decide) wf_X12_13 rfl dX12_packs_17 ?_
  refine z_iload_n b dX12_packs_20 rfl rfl ?_
  refine y_iald (q0 := 1) (j := 1) (v := (ar S 0 1)) b (mw_1 cy a S) (by decide) rfl dX12_packs_21 ?_
  refine z_eqi h_a_0_1 ?_
  exact k

set_option maxHeartbeats 4000000 in
set_option maxRecDepth 100000 in
theorem ch_X12_packs_21 {p : Program} {l : Launch} {e : Env} {R : Room} {s : State} {m : MethodId} {args : Array Value} {below : List Frame} {meth : Method} {c : Code} {D : va_G} {cy : Nat → ClassId} {T0 tB tE : Nat} {A : Nat → Prop} {Q : State → Prop} {a : Nat → Nat} (S : GS)  (h_a_0_2 : ar S 0 2 = 0) (h_a_1_3 : ar S 1 3 = 0) (h_a_1_5 : ar S 1 5 = 0) (h_a_2_1 : ar S 2 1 = 3) (h_a_2_2 : ar S 2 2 = 3) (h_a_3_5 : ar S 3 5 = 0) (h_a_4_3 : ar S 4 3 = 0) (h_a_4_5 : ar S 4 5 = 0) (b : Bz p R s m args meth c D cy T0 tB tE A 5 cX12_packs RX12 (some .long) "packs" 1 21 0 0) (k : Z p l e R s m args below meth c D A 5 Q 0 0 (mw cy a S) [(1, .long (((((((((((((((((((((768 ||| ((ar S 1 2) : Int32).toInt64) <<< ((1 : Int32).toInt64 &&& 63)) ||| 0) <<< ((4 : Int32).toInt64 &&& 63)) ||| 0) <<< ((2 : Int32).toInt64 &&& 63)) ||| 3) <<< ((1 : Int32).toInt64 &&& 63)) ||| 0) <<< ((3 : Int32).toInt64 &&& 63)) ||| 0) <<< ((1 : Int32).toInt64 &&& 63)) ||| 0) <<< ((3 : Int32).toInt64 &&& 63)) ||| 0) <<< ((1 : Int32).toInt64 &&& 63)) ||| 0) <<< ((4 : Int32).toInt64 &&& 63)) ||| 0) <<< ((2 : Int32).toInt64 &&& 63)) ||| 3)), (3, .int 2), (4, .int 2), (0, .ref (a 0))] 39 [.int 1, .long (((((((((((((((((((((768 ||| ((ar S 1 2) : Int32).toInt64) <<< ((1 : Int32).toInt64 &&& 63)) ||| 0) <<< ((4 : Int32).toInt64 &&& 63)) ||| 0) <<< ((2 : Int32).toInt64 &&& 63)) ||| 3) <<< ((1 : Int32).toInt64 &&& 63)) ||| 0) <<< ((3 : Int32).toInt64 &&& 63)) ||| 0) <<< ((1 : Int32).toInt64 &&& 63)) ||| 0) <<< ((3 : Int32).toInt64 &&& 63)) ||| 0) <<< ((1 : Int32).toInt64 &&& 63)) ||| 0) <<< ((4 : Int32).toInt64 &&& 63)) ||| 0) <<< ((2 : Int32).toInt64 &&& 63)) ||| 3)]) : Z p l e R s m args below meth c D A 5 Q 0 0 (mw cy a S) [(3, .int 1), (4, .int 2), (1, .long (((768 ||| ((ar S 1 2) : Int32).toInt64) <<< ((1 : Int32).toInt64 &&& 63)) ||| 0)), (0, .ref (a 0))] 22 [.int 0, .long ((((768 ||| ((ar S 1 2) : Int32).toInt64) <<< ((1 : Int32).toInt64 &&& 63)) ||| 0) <<< ((4 : Int32).toInt64 &&& 63))] := by
  refine z_i2l (v := 0) b dX12_packs_22 (by decide) ?_
  refine z_lor b dX12_packs_23 rfl ?_
  refine z_lstore_n (lv' := [(1, .long (((((768 ||| ((ar S 1 2) : Int32).toInt64) <<< ((1 : Int32).toInt64 &&& 63)) ||| 0) <<< ((4 : Int32).toInt64 &&& 63)) ||| 0)), (3, .int 1), (4, .int 2), (0, .ref (a 0))]) b dX12_packs_24 rfl (by decide) rfl ?_
  refine z_lload_n b dX12_packs_25 rfl rfl ?_
  refine z_iconst (v := 2) b dX12_packs_26 (by decide) ?_
  refine z_lshl b dX12_packs_27 rfl ?_
  refine z_aload_n b dX12_packs_28 rfl rfl ?_
  refine z_get (q0 := 0) (k9 := 2) (v := .ref (a 3)) b (mw_0 cy a S) rfl in_X12 (by decide) wf_X12_20 rfl dX12_packs_29 ?_
  refine z_iload_n b dX12_packs_32 rfl rfl ?_
  refine y_iald (q0 := 3) (j := 1) (v := (ar S 2 1)) b (mw_3 cy a S) (by decide) rfl dX12_packs_33 ?_
  refine z_eqi h_a_2_1 ?_
  refine z_i2l (v := 3) b dX12_packs_34 (by decide) ?_
  refine z_lor b dX12_packs_35 rfl ?_
  refine z_lstore_n (lv' := [(1, .long (((((((768 ||| ((ar S 1 2) : Int32).toInt64) <<< ((1 : Int32).toInt64 &&& 63)) ||| 0) <<< ((4 : Int32).toInt64 &&& 63)) ||| 0) <<< ((2 : Int32).toInt64 &&& 63)) ||| 3)), (3, .int 1), (4, .int 2), (0, .ref (a 0))]) b dX12_packs_36 rfl (by decide) rfl ?_
  refine z_lload_n b dX12_packs_37 rfl rfl ?_
  refine z_iconst (v := 1) b dX12_packs_38 (by decide) ?_
  refine z_lshl b dX12_packs_39 rfl ?_
  refine z_aload_n b dX12_packs_40 rfl rfl ?_
  refine z_get (q0 := 0) (k9 := 3) (v := .ref (a 4)) b (mw_0 cy a S) rfl in_X12 (by decide) wf_X12_23 rfl dX12_packs_41 ?_
  refine z_iconst (v := 3) b dX12_packs_44 (by decide) ?_
  refine z_iload_n b dX12_packs_45 rfl rfl ?_
  refine z_imul (v := 3) b dX12_packs_46 (by decide) ?_
  refine z_iload_n b dX12_packs_47 rfl rfl ?_
  refine z_iconst (v := 0) b dX12_packs_48 (by decide) ?_
  refine z_calli b (z_runS (As := [.int 1, .int 0]) (st := [.int 3, .ref (a 4), .long ((((((((768 ||| ((ar S 1 2) : Int32).toInt64) <<< ((1 : Int32).toInt64 &&& 63)) ||| 0) <<< ((4 : Int32).toInt64 &&& 63)) ||| 0) <<< ((2 : Int32).toInt64 &&& 63)) ||| 3) <<< ((1 : Int32).toInt64 &&& 63))]) b (c_X12_other_4 S ) cf_X12_other wm_X12_160 ws_X12_other dX12_packs_49 rfl (Nat.le_of_ble_eq_true rfl) ⟨by decide, by decide, by decide, by decide⟩) (fun r1229 u1230 h1228 => ?_)
  obtain ⟨rfl, rfl⟩ := h1228
  refine z_iadd (v := 5) b dX12_packs_52 (by decide) ?_
  refine y_zald (q0 := 4) (j := 5) (v := (ar S 3 5)) b (mw_4 cy a S) (by decide) rfl dX12_packs_53 ?_
  refine z_eqi h_a_3_5 ?_
  refine z_if_eq_t (tgt := 61) b dX12_packs_54 (by decide) (by decide) ?_
  refine z_lconst (v := 0) b dX12_packs_61 (by decide) ?_
  refine z_lor b dX12_packs_62 rfl ?_
  refine z_lstore_n (lv' := [(1, .long (((((((((768 ||| ((ar S 1 2) : Int32).toInt64) <<< ((1 : Int32).toInt64 &&& 63)) ||| 0) <<< ((4 : Int32).toInt64 &&& 63)) ||| 0) <<< ((2 : Int32).toInt64 &&& 63)) ||| 3) <<< ((1 : Int32).toInt64 &&& 63)) ||| 0)), (3, .int 1), (4, .int 2), (0, .ref (a 0))]) b dX12_packs_63 rfl (by decide) rfl ?_
  refine z_iconst (v := 0) b dX12_packs_64 (by decide) ?_
  refine z_istore (lv' := [(4, .int 0), (1, .long (((((((((768 ||| ((ar S 1 2) : Int32).toInt64) <<< ((1 : Int32).toInt64 &&& 63)) ||| 0) <<< ((4 : Int32).toInt64 &&& 63)) ||| 0) <<< ((2 : Int32).toInt64 &&& 63)) ||| 3) <<< ((1 : Int32).toInt64 &&& 63)) ||| 0)), (3, .int 1), (0, .ref (a 0))]) b dX12_packs_65 (by decide) rfl ?_
  refine z_iload b dX12_packs_67 rfl ?_
  refine z_iconst (v := 2) b dX12_packs_69 (by decide) ?_
  refine z_icmp_ge_f (tgt := 128) b dX12_packs_70 (by decide) (by decide) ?_
  refine z_lload_n b dX12_packs_73 rfl rfl ?_
  refine z_iconst (v := 3) b dX12_packs_74 (by decide) ?_
  refine z_lshl b dX12_packs_75 rfl ?_
  refine z_aload_n b dX12_packs_76 rfl rfl ?_
  refine z_get (q0 := 0) (k9 := 1) (v := .ref (a 2)) b (mw_0 cy a S) rfl in_X12 (by decide) wf_X12_17 rfl dX12_packs_77 ?_
  refine z_iconst (v := 3) b dX12_packs_80 (by decide) ?_
  refine z_iload_n b dX12_packs_81 rfl rfl ?_
  refine z_imul (v := 3) b dX12_packs_82 (by decide) ?_
  refine z_iload_n b dX12_packs_83 rfl rfl ?_
  refine z_iload b dX12_packs_84 rfl ?_
  refine z_calli b (z_runS (As := [.int 1, .int 0]) (st := [.int 3, .ref (a 2), .long ((((((((((768 ||| ((ar S 1 2) : Int32).toInt64) <<< ((1 : Int32).toInt64 &&& 63)) ||| 0) <<< ((4 : Int32).toInt64 &&& 63)) ||| 0) <<< ((2 : Int32).toInt64 &&& 63)) ||| 3) <<< ((1 : Int32).toInt64 &&& 63)) ||| 0) <<< ((3 : Int32).toInt64 &&& 63))]) b (c_X12_other_4 S ) cf_X12_other wm_X12_160 ws_X12_other dX12_packs_86 rfl (Nat.le_of_ble_eq_true rfl) ⟨by decide, by decide, by decide, by decide⟩) (fun r1232 u1233 h1231 => ?_)
  obtain ⟨rfl, rfl⟩ := h1231
  refine z_iadd (v := 5) b dX12_packs_89 (by decide) ?_
  refine y_iald (q0 := 2) (j := 5) (v := (ar S 1 5)) b (mw_2 cy a S) (by decide) rfl dX12_packs_90 ?_
  refine z_eqi h_a_1_5 ?_
  refine z_i2l (v := 0) b dX12_packs_91 (by decide) ?_
  refine z_lor b dX12_packs_92 rfl ?_
  refine z_lstore_n (lv' := [(1, .long (((((((((((768 ||| ((ar S 1 2) : Int32).toInt64) <<< ((1 : Int32).toInt64 &&& 63)) ||| 0) <<< ((4 : Int32).toInt64 &&& 63)) ||| 0) <<< ((2 : Int32).toInt64 &&& 63)) ||| 3) <<< ((1 : Int32).toInt64 &&& 63)) ||| 0) <<< ((3 : Int32).toInt64 &&& 63)) ||| 0)), (4, .int 0), (3, .int 1), (0, .ref (a 0))]) b dX12_packs_93 rfl (by decide) rfl ?_
  refine z_lload_n b dX12_packs_94 rfl rfl ?_
  refine z_iconst (v := 1) b dX12_packs_95 (by decide) ?_
  refine z_lshl b dX12_packs_96 rfl ?_
  refine z_aload_n b dX12_packs_97 rfl rfl ?_
  refine z_get (q0 := 0) (k9 := 4) (v := .ref (a 5)) b (mw_0 cy a S) rfl in_X12 (by decide) wf_X12_27 rfl dX12_packs_98 ?_
  refine z_iconst (v := 3) b dX12_packs_101 (by decide) ?_
  refine z_iload_n b dX12_packs_102 rfl rfl ?_
  refine z_imul (v := 3) b dX12_packs_103 (by decide) ?_
  refine z_iload_n b dX12_packs_104 rfl rfl ?_
  refine z_iload b dX12_packs_105 rfl ?_
  refine z_calli b (z_runS (As := [.int 1, .int 0]) (st := [.int 3, .ref (a 5), .long ((((((((((((768 ||| ((ar S 1 2) : Int32).toInt64) <<< ((1 : Int32).toInt64 &&& 63)) ||| 0) <<< ((4 : Int32).toInt64 &&& 63)) ||| 0) <<< ((2 : Int32).toInt64 &&& 63)) ||| 3) <<< ((1 : Int32).toInt64 &&& 63)) ||| 0) <<< ((3 : Int32).toInt64 &&& 63)) ||| 0) <<< ((1 : Int32).toInt64 &&& 63))]) b (c_X12_other_4 S ) cf_X12_other wm_X12_160 ws_X12_other dX12_packs_107 rfl (Nat.le_of_ble_eq_true rfl) ⟨by decide, by decide, by decide, by decide⟩) (fun r1235 u1236 h1234 => ?_)
  obtain ⟨rfl, rfl⟩ := h1234
  refine z_iadd (v := 5) b dX12_packs_110 (by decide) ?_
  refine y_zald (q0 := 5) (j := 5) (v := (ar S 4 5)) b (mw_5 cy a S) (by decide) rfl dX12_packs_111 ?_
  refine z_eqi h_a_4_5 ?_
  refine z_if_eq_t (tgt := 119) b dX12_packs_112 (by decide) (by decide) ?_
  refine z_lconst (v := 0) b dX12_packs_119 (by decide) ?_
  refine z_lor b dX12_packs_120 rfl ?_
  refine z_lstore_n (lv' := [(1, .long (((((((((((((768 ||| ((ar S 1 2) : Int32).toInt64) <<< ((1 : Int32).toInt64 &&& 63)) ||| 0) <<< ((4 : Int32).toInt64 &&& 63)) ||| 0) <<< ((2 : Int32).toInt64 &&& 63)) ||| 3) <<< ((1 : Int32).toInt64 &&& 63)) ||| 0) <<< ((3 : Int32).toInt64 &&& 63)) ||| 0) <<< ((1 : Int32).toInt64 &&& 63)) ||| 0)), (4, .int 0), (3, .int 1), (0, .ref (a 0))]) b dX12_packs_121 rfl (by decide) rfl ?_
  refine z_iinc (k9 := 1) (v := 1) (lv' := [(4, .int 1), (1, .long (((((((((((((768 ||| ((ar S 1 2) : Int32).toInt64) <<< ((1 : Int32).toInt64 &&& 63)) ||| 0) <<< ((4 : Int32).toInt64 &&& 63)) ||| 0) <<< ((2 : Int32).toInt64 &&& 63)) ||| 3) <<< ((1 : Int32).toInt64 &&& 63)) ||| 0) <<< ((3 : Int32).toInt64 &&& 63)) ||| 0) <<< ((1 : Int32).toInt64 &&& 63)) ||| 0)), (3, .int 1), (0, .ref (a 0))]) b dX12_packs_122 rfl (by decide) (by decide) rfl ?_
  refine z_goto (tgt := 67) b dX12_packs_125 (by decide) ?_
  refine z_iload b dX12_packs_67 rfl ?_
  refine z_iconst (v := 2) b dX12_packs_69 (by decide) ?_
  refine z_icmp_ge_f (tgt := 128) b dX12_packs_70 (by decide) (by decide) ?_
  refine z_lload_n b dX12_packs_73 rfl rfl ?_
  refine z_iconst (v := 3) b dX12_packs_74 (by decide) ?_
  refine z_lshl b dX12_packs_75 rfl ?_
  refine z_aload_n b dX12_packs_76 rfl rfl ?_
  refine z_get (q0 := 0) (k9 := 1) (v := .ref (a 2)) b (mw_0 cy a S) rfl in_X12 (by decide) wf_X12_17 rfl dX12_packs_77 ?_
  refine z_iconst (v := 3) b dX12_packs_80 (by decide) ?_
  refine z_iload_n b dX12_packs_81 rfl rfl ?_
  refine z_imul (v := 3) b dX12_packs_82 (by decide) ?_
  refine z_iload_n b dX12_packs_83 rfl rfl ?_
  refine z_iload b dX12_packs_84 rfl ?_
  refine z_calli b (z_runS (As := [.int 1, .int 1]) (st := [.int 3, .ref (a 2), .long ((((((((((((((768 ||| ((ar S 1 2) : Int32).toInt64) <<< ((1 : Int32).toInt64 &&& 63)) ||| 0) <<< ((4 : Int32).toInt64 &&& 63)) ||| 0) <<< ((2 : Int32).toInt64 &&& 63)) ||| 3) <<< ((1 : Int32).toInt64 &&& 63)) ||| 0) <<< ((3 : Int32).toInt64 &&& 63)) ||| 0) <<< ((1 : Int32).toInt64 &&& 63)) ||| 0) <<< ((3 : Int32).toInt64 &&& 63))]) b (c_X12_other_3 S ) cf_X12_other wm_X12_160 ws_X12_other dX12_packs_86 rfl (Nat.le_of_ble_eq_true rfl) ⟨by decide, by decide, by decide, by decide⟩) (fun r1238 u1239 h1237 => ?_)
  obtain ⟨rfl, rfl⟩ := h1237
  refine z_iadd (v := 3) b dX12_packs_89 (by decide) ?_
  refine y_iald (q0 := 2) (j := 3) (v := (ar S 1 3)) b (mw_2 cy a S) (by decide) rfl dX12_packs_90 ?_
  refine z_eqi h_a_1_3 ?_
  refine z_i2l (v := 0) b dX12_packs_91 (by decide) ?_
  refine z_lor b dX12_packs_92 rfl ?_
  refine z_lstore_n (lv' := [(1, .long (((((((((((((((768 ||| ((ar S 1 2) : Int32).toInt64) <<< ((1 : Int32).toInt64 &&& 63)) ||| 0) <<< ((4 : Int32).toInt64 &&& 63)) ||| 0) <<< ((2 : Int32).toInt64 &&& 63)) ||| 3) <<< ((1 : Int32).toInt64 &&& 63)) ||| 0) <<< ((3 : Int32).toInt64 &&& 63)) ||| 0) <<< ((1 : Int32).toInt64 &&& 63)) ||| 0) <<< ((3 : Int32).toInt64 &&& 63)) ||| 0)), (4, .int 1), (3, .int 1), (0, .ref (a 0))]) b dX12_packs_93 rfl (by decide) rfl ?_
  refine z_lload_n b dX12_packs_94 rfl rfl ?_
  refine z_iconst (v := 1) b dX12_packs_95 (by decide) ?_
  refine z_lshl b dX12_packs_96 rfl ?_
  refine z_aload_n b dX12_packs_97 rfl rfl ?_
  refine z_get (q0 := 0) (k9 := 4) (v := .ref (a 5)) b (mw_0 cy a S) rfl in_X12 (by decide) wf_X12_27 rfl dX12_packs_98 ?_
  refine z_iconst (v := 3) b dX12_packs_101 (by decide) ?_
  refine z_iload_n b dX12_packs_102 rfl rfl ?_
  refine z_imul (v := 3) b dX12_packs_103 (by decide) ?_
  refine z_iload_n b dX12_packs_104 rfl rfl ?_
  refine z_iload b dX12_packs_105 rfl ?_
  refine z_calli b (z_runS (As := [.int 1, .int 1]) (st := [.int 3, .ref (a 5), .long ((((((((((((((((768 ||| ((ar S 1 2) : Int32).toInt64) <<< ((1 : Int32).toInt64 &&& 63)) ||| 0) <<< ((4 : Int32).toInt64 &&& 63)) ||| 0) <<< ((2 : Int32).toInt64 &&& 63)) ||| 3) <<< ((1 : Int32).toInt64 &&& 63)) ||| 0) <<< ((3 : Int32).toInt64 &&& 63)) ||| 0) <<< ((1 : Int32).toInt64 &&& 63)) ||| 0) <<< ((3 : Int32).toInt64 &&& 63)) ||| 0) <<< ((1 : Int32).toInt64 &&& 63))]) b (c_X12_other_3 S ) cf_X12_other wm_X12_160 ws_X12_other dX12_packs_107 rfl (Nat.le_of_ble_eq_true rfl) ⟨by decide, by decide, by decide, by decide⟩) (fun r1241 u1242 h1240 => ?_)
  obtain ⟨rfl, rfl⟩ := h1240
  refine z_iadd (v := 3) b dX12_packs_110 (by decide) ?_
  refine y_zald (q0 := 5) (j := 3) (v := (ar S 4 3)) b (mw_5 cy a S) (by decide) rfl dX12_packs_111 ?_
  refine z_eqi h_a_4_3 ?_
  refine z_if_eq_t (tgt := 119) b dX12_packs_112 (by decide) (by decide) ?_
  refine z_lconst (v := 0) b dX12_packs_119 (by decide) ?_
  refine z_lor b dX12_packs_120 rfl ?_
  refine z_lstore_n (lv' := [(1, .long (((((((((((((((((768 ||| ((ar S 1 2) : Int32).toInt64) <<< ((1 : Int32).toInt64 &&& 63)) ||| 0) <<< ((4 : Int32).toInt64 &&& 63)) ||| 0) <<< ((2 : Int32).toInt64 &&& 63)) ||| 3) <<< ((1 : Int32).toInt64 &&& 63)) ||| 0) <<< ((3 : Int32).toInt64 &&& 63)) ||| 0) <<< ((1 : Int32).toInt64 &&& 63)) ||| 0) <<< ((3 : Int32).toInt64 &&& 63)) ||| 0) <<< ((1 : Int32).toInt64 &&& 63)) ||| 0)), (4, .int 1), (3, .int 1), (0, .ref (a 0))]) b dX12_packs_121 rfl (by decide) rfl ?_
  refine z_iinc (k9 := 1) (v := 2) (lv' := [(4, .int 2), (1, .long (((((((((((((((((768 ||| ((ar S 1 2) : Int32).toInt64) <<< ((1 : Int32).toInt64 &&& 63)) ||| 0) <<< ((4 : Int32).toInt64 &&& 63)) ||| 0) <<< ((2 : Int32).toInt64 &&& 63)) ||| 3) <<< ((1 : Int32).toInt64 &&& 63)) ||| 0) <<< ((3 : Int32).toInt64 &&& 63)) ||| 0) <<< ((1 : Int32).toInt64 &&& 63)) ||| 0) <<< ((3 : Int32).toInt64 &&& 63)) ||| 0) <<< ((1 : Int32).toInt64 &&& 63)) ||| 0)), (3, .int 1), (0, .ref (a 0))]) b dX12_packs_122 rfl (by decide) (by decide) rfl ?_
  refine z_goto (tgt := 67) b dX12_packs_125 (by decide) ?_
  refine z_iload b dX12_packs_67 rfl ?_
  refine z_iconst (v := 2) b dX12_packs_69 (by decide) ?_
  refine z_icmp_ge_t (tgt := 128) b dX12_packs_70 (by decide) (by decide) ?_
  refine z_iinc (k9 := 2) (v := 2) (lv' := [(3, .int 2), (4, .int 2), (1, .long (((((((((((((((((768 ||| ((ar S 1 2) : Int32).toInt64) <<< ((1 : Int32).toInt64 &&& 63)) ||| 0) <<< ((4 : Int32).toInt64 &&& 63)) ||| 0) <<< ((2 : Int32).toInt64 &&& 63)) ||| 3) <<< ((1 : Int32).toInt64 &&& 63)) ||| 0) <<< ((3 : Int32).toInt64 &&& 63)) ||| 0) <<< ((1 : Int32).toInt64 &&& 63)) ||| 0) <<< ((3 : Int32).toInt64 &&& 63)) ||| 0) <<< ((1 : Int32).toInt64 &&& 63)) ||| 0)), (0, .ref (a 0))]) b dX12_packs_128 rfl (by decide) (by decide) rfl ?_
  refine z_goto (tgt := 8) b dX12_packs_131 (by decide) ?_
  refine z_iload_n b dX12_packs_8 rfl rfl ?_
  refine z_iconst (v := 3) b dX12_packs_9 (by decide) ?_
  refine z_icmp_ge_f (tgt := 134) b dX12_packs_10 (by decide) (by decide) ?_
  refine z_lload_n b dX12_packs_13 rfl rfl ?_
  refine z_iconst (v := 4) b dX12_packs_14 (by decide) ?_
  refine z_lshl b dX12_packs_15 rfl ?_
  refine z_aload_n b dX12_packs_16 rfl rfl ?_
  refine z_get (q0 := 0) (k9 := 0) (v := .ref (a 1)) b (mw_0 cy a S) rfl in_X12 (by decide) wf_X12_13 rfl dX12_packs_17 ?_
  refine z_iload_n b dX12_packs_20 rfl rfl ?_
  refine y_iald (q0 := 1) (j := 2) (v := (ar S 0 2)) b (mw_1 cy a S) (by decide) rfl dX12_packs_21 ?_
  refine z_eqi h_a_0_2 ?_
  refine z_i2l (v := 0) b dX12_packs_22 (by decide) ?_
  refine z_lor b dX12_packs_23 rfl ?_
  refine z_lstore_n (lv' := [(1, .long (((((((((((((((((((768 ||| ((ar S 1 2) : Int32).toInt64) <<< ((1 : Int32).toInt64 &&& 63)) ||| 0) <<< ((4 : Int32).toInt64 &&& 63)) ||| 0) <<< ((2 : Int32).toInt64 &&& 63)) ||| 3) <<< ((1 : Int32).toInt64 &&& 63)) ||| 0) <<< ((3 : Int32).toInt64 &&& 63)) ||| 0) <<< ((1 : Int32).toInt64 &&& 63)) ||| 0) <<< ((3 : Int32).toInt64 &&& 63)) ||| 0) <<< ((1 : Int32).toInt64 &&& 63)) ||| 0) <<< ((4 : Int32).toInt64 &&& 63)) ||| 0)), (3, .int 2), (4, .int 2), (0, .ref (a 0))]) b dX12_packs_24 rfl (by decide) rfl ?_
  refine z_lload_n b dX12_packs_25 rfl rfl ?_
  refine z_iconst (v := 2) b dX12_packs_26 (by decide) ?_
  refine z_lshl b dX12_packs_27 rfl ?_
  refine z_aload_n b dX12_packs_28 rfl rfl ?_
  refine z_get (q0 := 0) (k9 := 2) (v := .ref (a 3)) b (mw_0 cy a S) rfl in_X12 (by decide) wf_X12_20 rfl dX12_packs_29 ?_
  refine z_iload_n b dX12_packs_32 rfl rfl ?_
  refine y_iald (q0 := 3) (j := 2) (v := (ar S 2 2)) b (mw_3 cy a S) (by decide) rfl dX12_packs_33 ?_
  refine z_eqi h_a_2_2 ?_
  refine z_i2l (v := 3) b dX12_packs_34 (by decide) ?_
  refine z_lor b dX12_packs_35 rfl ?_
  refine z_lstore_n (lv' := [(1, .long (((((((((((((((((((((768 ||| ((ar S 1 2) : Int32).toInt64) <<< ((1 : Int32).toInt64 &&& 63)) ||| 0) <<< ((4 : Int32).toInt64 &&& 63)) ||| 0) <<< ((2 : Int32).toInt64 &&& 63)) ||| 3) <<< ((1 : Int32).toInt64 &&& 63)) ||| 0) <<< ((3 : Int32).toInt64 &&& 63)) ||| 0) <<< ((1 : Int32).toInt64 &&& 63)) ||| 0) <<< ((3 : Int32).toInt64 &&& 63)) ||| 0) <<< ((1 : Int32).toInt64 &&& 63)) ||| 0) <<< ((4 : Int32).toInt64 &&& 63)) ||| 0) <<< ((2 : Int32).toInt64 &&& 63)) ||| 3)), (3, .int 2), (4, .int 2), (0, .ref (a 0))]) b dX12_packs_36 rfl (by decide) rfl ?_
  refine z_lload_n b dX12_packs_37 rfl rfl ?_
  refine z_iconst (v := 1) b dX12_packs_38 (by decide) ?_
  exact k

set_option maxHeartbeats 4000000 in
set_option maxRecDepth 100000 in
theorem c_X12_packs_9 {l : Launch} {D : va_G} {cy : Nat → ClassId} {T0 tB tE : Nat} {a : Nat → Nat} (S : GS)  (h_i_0 : fi S 0 = 0) (h_a_0_0 : ar S 0 0 = 0) (h_a_2_0 : ar S 2 0 = 3) (h_a_3_1 : ar S 3 1 = 0) (h_a_1_1 : ar S 1 1 = 0) (h_a_4_1 : ar S 4 1 = 0) (h_a_4_2 : ar S 4 2 = 0) (h_a_0_1 : ar S 0 1 = 0) (h_a_2_1 : ar S 2 1 = 3) (h_a_3_5 : ar S 3 5 = 0) (h_a_1_5 : ar S 1 5 = 0) (h_a_4_5 : ar S 4 5 = 0) (h_a_1_3 : ar S 1 3 = 0) (h_a_4_3 : ar S 4 3 = 0) (h_a_0_2 : ar S 0 2 = 0) (h_a_2_2 : ar S 2 2 = 3) (h_a_3_6 : ar S 3 6 = 0) (h_a_1_6 : ar S 1 6 = 0) (h_a_4_6 : ar S 4 6 = 0) (h_a_1_7 : ar S 1 7 = 0) (h_a_4_7 : ar S 4 7 = 0) : Ct l D cy T0 tB tE yX12_packs cX12_packs 5 (some .long) 1 21 0 0 (mw cy a S) [.ref (a 0)] (QL D (U := GS) (fun r u => (((((((((((((((((((((((((((((((768 ||| ((ar S 1 2) : Int32).toInt64) <<< ((1 : Int32).toInt64 &&& 63)) ||| 0) <<< ((4 : Int32).toInt64 &&& 63)) ||| 0) <<< ((2 : Int32).toInt64 &&& 63)) ||| 3) <<< ((1 : Int32).toInt64 &&& 63)) ||| 0) <<< ((3 : Int32).toInt64 &&& 63)) ||| 0) <<< ((1 : Int32).toInt64 &&& 63)) ||| 0) <<< ((3 : Int32).toInt64 &&& 63)) ||| 0) <<< ((1 : Int32).toInt64 &&& 63)) ||| 0) <<< ((4 : Int32).toInt64 &&& 63)) ||| 0) <<< ((2 : Int32).toInt64 &&& 63)) ||| 3) <<< ((1 : Int32).toInt64 &&& 63)) ||| 0) <<< ((3 : Int32).toInt64 &&& 63)) ||| 0) <<< ((1 : Int32).toInt64 &&& 63)) ||| 0) <<< ((3 : Int32).toInt64 &&& 63)) ||| 0) <<< ((1 : Int32).toInt64 &&& 63)) ||| 0) = r ∧ S = u) (mw cy a)) := by
  refine Ct.ofZ RX12 "packs" [(0, .ref (a 0))] rfl rfl rfl rfl (Nat.le_of_ble_eq_true rfl) ?_
  intro p e R s m args below meth c A b
  refine ch_X12_packs_20 S  h_a_0_0 h_a_0_1 h_a_1_1 h_a_2_0 h_a_3_1 h_a_4_1 h_a_4_2 h_i_0  b ?_
  refine ch_X12_packs_21 S  h_a_0_2 h_a_1_3 h_a_1_5 h_a_2_1 h_a_2_2 h_a_3_5 h_a_4_3 h_a_4_5  b ?_
  refine z_lshl b dX12_packs_39 rfl ?_
  refine z_aload_n b dX12_packs_40 rfl rfl ?_
  refine z_get (q0 := 0) (k9 := 3) (v := .ref (a 4)) b (mw_0 cy a S) rfl in_X12 (by decide) wf_X12_23 rfl dX12_packs_41 ?_
  refine z_iconst (v := 3) b dX12_packs_44 (by decide) ?_
  refine z_iload_n b dX12_packs_45 rfl rfl ?_
  refine z_imul (v := 6) b dX12_packs_46 (by decide) ?_
  refine z_iload_n b dX12_packs_47 rfl rfl ?_
  refine z_iconst (v := 0) b dX12_packs_48 (by decide) ?_
  refine z_calli b (z_runS (As := [.int 2, .int 0]) (st := [.int 6, .ref (a 4), .long ((((((((((((((((((((((768 ||| ((ar S 1 2) : Int32).toInt64) <<< ((1 : Int32).toInt64 &&& 63)) ||| 0) <<< ((4 : Int32).toInt64 &&& 63)) ||| 0) <<< ((2 : Int32).toInt64 &&& 63)) ||| 3) <<< ((1 : Int32).toInt64 &&& 63)) ||| 0) <<< ((3 : Int32).toInt64 &&& 63)) ||| 0) <<< ((1 : Int32).toInt64 &&& 63)) ||| 0) <<< ((3 : Int32).toInt64 &&& 63)) ||| 0) <<< ((1 : Int32).toInt64 &&& 63)) ||| 0) <<< ((4 : Int32).toInt64 &&& 63)) ||| 0) <<< ((2 : Int32).toInt64 &&& 63)) ||| 3) <<< ((1 : Int32).toInt64 &&& 63))]) b (c_X12_other_2 S ) cf_X12_other wm_X12_160 ws_X12_other dX12_packs_49 rfl (Nat.le_of_ble_eq_true rfl) ⟨by decide, by decide, by decide, by decide⟩) (fun r1244 u1245 h1243 => ?_)
  obtain ⟨rfl, rfl⟩ := h1243
  refine z_iadd (v := 6) b dX12_packs_52 (by decide) ?_
  refine y_zald (q0 := 4) (j := 6) (v := (ar S 3 6)) b (mw_4 cy a S) (by decide) rfl dX12_packs_53 ?_
  refine z_eqi h_a_3_6 ?_
  refine z_if_eq_t (tgt := 61) b dX12_packs_54 (by decide) (by decide) ?_
  refine z_lconst (v := 0) b dX12_packs_61 (by decide) ?_
  refine z_lor b dX12_packs_62 rfl ?_
  refine z_lstore_n (lv' := [(1, .long (((((((((((((((((((((((768 ||| ((ar S 1 2) : Int32).toInt64) <<< ((1 : Int32).toInt64 &&& 63)) ||| 0) <<< ((4 : Int32).toInt64 &&& 63)) ||| 0) <<< ((2 : Int32).toInt64 &&& 63)) ||| 3) <<< ((1 : Int32).toInt64 &&& 63)) ||| 0) <<< ((3 : Int32).toInt64 &&& 63)) ||| 0) <<< ((1 : Int32).toInt64 &&& 63)) ||| 0) <<< ((3 : Int32).toInt64 &&& 63)) ||| 0) <<< ((1 : Int32).toInt64 &&& 63)) ||| 0) <<< ((4 : Int32).toInt64 &&& 63)) ||| 0) <<< ((2 : Int32).toInt64 &&& 63)) ||| 3) <<< ((1 : Int32).toInt64 &&& 63)) ||| 0)), (3, .int 2), (4, .int 2), (0, .ref (a 0))]) b dX12_packs_63 rfl (by decide) rfl ?_
  refine z_iconst (v := 0) b dX12_packs_64 (by decide) ?_
  refine z_istore (lv' := [(4, .int 0), (1, .long (((((((((((((((((((((((768 ||| ((ar S 1 2) : Int32).toInt64) <<< ((1 : Int32).toInt64 &&& 63)) ||| 0) <<< ((4 : Int32).toInt64 &&& 63)) ||| 0) <<< ((2 : Int32).toInt64 &&& 63)) ||| 3) <<< ((1 : Int32).toInt64 &&& 63)) ||| 0) <<< ((3 : Int32).toInt64 &&& 63)) ||| 0) <<< ((1 : Int32).toInt64 &&& 63)) ||| 0) <<< ((3 : Int32).toInt64 &&& 63)) ||| 0) <<< ((1 : Int32).toInt64 &&& 63)) ||| 0) <<< ((4 : Int32).toInt64 &&& 63)) ||| 0) <<< ((2 : Int32).toInt64 &&& 63)) ||| 3) <<< ((1 : Int32).toInt64 &&& 63)) ||| 0)), (3, .int 2), (0, .ref (a 0))]) b dX12_packs_65 (by decide) rfl ?_
  refine z_iload b dX12_packs_67 rfl ?_
  refine z_iconst (v := 2) b dX12_packs_69 (by decide) ?_
  refine z_icmp_ge_f (tgt := 128) b dX12_packs_70 (by decide) (by decide) ?_
  refine z_lload_n b dX12_packs_73 rfl rfl ?_
  refine z_iconst (v := 3) b dX12_packs_74 (by decide) ?_
  refine z_lshl b dX12_packs_75 rfl ?_
  refine z_aload_n b dX12_packs_76 rfl rfl ?_
  refine z_get (q0 := 0) (k9 := 1) (v := .ref (a 2)) b (mw_0 cy a S) rfl in_X12 (by decide) wf_X12_17 rfl dX12_packs_77 ?_
  refine z_iconst (v := 3) b dX12_packs_80 (by decide) ?_
  refine z_iload_n b dX12_packs_81 rfl rfl ?_
  refine z_imul (v := 6) b dX12_packs_82 (by decide) ?_
  refine z_iload_n b dX12_packs_83 rfl rfl ?_
  refine z_iload b dX12_packs_84 rfl ?_
  refine z_calli b (z_runS (As := [.int 2, .int 0]) (st := [.int 6, .ref (a 2), .long ((((((((((((((((((((((((768 ||| ((ar S 1 2) : Int32).toInt64) <<< ((1 : Int32).toInt64 &&& 63)) ||| 0) <<< ((4 : Int32).toInt64 &&& 63)) ||| 0) <<< ((2 : Int32).toInt64 &&& 63)) ||| 3) <<< ((1 : Int32).toInt64 &&& 63)) ||| 0) <<< ((3 : Int32).toInt64 &&& 63)) ||| 0) <<< ((1 : Int32).toInt64 &&& 63)) ||| 0) <<< ((3 : Int32).toInt64 &&& 63)) ||| 0) <<< ((1 : Int32).toInt64 &&& 63)) ||| 0) <<< ((4 : Int32).toInt64 &&& 63)) ||| 0) <<< ((2 : Int32).toInt64 &&& 63)) ||| 3) <<< ((1 : Int32).toInt64 &&& 63)) ||| 0) <<< ((3 : Int32).toInt64 &&& 63))]) b (c_X12_other_2 S ) cf_X12_other wm_X12_160 ws_X12_other dX12_packs_86 rfl (Nat.le_of_ble_eq_true rfl) ⟨by decide, by decide, by decide, by decide⟩) (fun r1247 u1248 h1246 => ?_)
  obtain ⟨rfl, rfl⟩ := h1246
  refine z_iadd (v := 6) b dX12_packs_89 (by decide) ?_
  refine y_iald (q0 := 2) (j := 6) (v := (ar S 1 6)) b (mw_2 cy a S) (by decide) rfl dX12_packs_90 ?_
  refine z_eqi h_a_1_6 ?_
  refine z_i2l (v := 0) b dX12_packs_91 (by decide) ?_
  refine z_lor b dX12_packs_92 rfl ?_
  refine z_lstore_n (lv' := [(1, .long (((((((((((((((((((((((((768 ||| ((ar S 1 2) : Int32).toInt64) <<< ((1 : Int32).toInt64 &&& 63)) ||| 0) <<< ((4 : Int32).toInt64 &&& 63)) ||| 0) <<< ((2 : Int32).toInt64 &&& 63)) ||| 3) <<< ((1 : Int32).toInt64 &&& 63)) ||| 0) <<< ((3 : Int32).toInt64 &&& 63)) ||| 0) <<< ((1 : Int32).toInt64 &&& 63)) ||| 0) <<< ((3 : Int32).toInt64 &&& 63)) ||| 0) <<< ((1 : Int32).toInt64 &&& 63)) ||| 0) <<< ((4 : Int32).toInt64 &&& 63)) ||| 0) <<< ((2 : Int32).toInt64 &&& 63)) ||| 3) <<< ((1 : Int32).toInt64 &&& 63)) ||| 0) <<< ((3 : Int32).toInt64 &&& 63)) ||| 0)), (4, .int 0), (3, .int 2), (0, .ref (a 0))]) b dX12_packs_93 rfl (by decide) rfl ?_
  refine z_lload_n b dX12_packs_94 rfl rfl ?_
  refine z_iconst (v := 1) b dX12_packs_95 (by decide) ?_
  refine z_lshl b dX12_packs_96 rfl ?_
  refine z_aload_n b dX12_packs_97 rfl rfl ?_
  refine z_get (q0 := 0) (k9 := 4) (v := .ref (a 5)) b (mw_0 cy a S) rfl in_X12 (by decide) wf_X12_27 rfl dX12_packs_98 ?_
  refine z_iconst (v := 3) b dX12_packs_101 (by decide) ?_
  refine z_iload_n b dX12_packs_102 rfl rfl ?_
  refine z_imul (v := 6) b dX12_packs_103 (by decide) ?_
  refine z_iload_n b dX12_packs_104 rfl rfl ?_
  refine z_iload b dX12_packs_105 rfl ?_
  refine z_calli b (z_runS (As := [.int 2, .int 0]) (st := [.int 6, .ref (a 5), .long ((((((((((((((((((((((((((768 ||| ((ar S 1 2) : Int32).toInt64) <<< ((1 : Int32).toInt64 &&& 63)) ||| 0) <<< ((4 : Int32).toInt64 &&& 63)) ||| 0) <<< ((2 : Int32).toInt64 &&& 63)) ||| 3) <<< ((1 : Int32).toInt64 &&& 63)) ||| 0) <<< ((3 : Int32).toInt64 &&& 63)) ||| 0) <<< ((1 : Int32).toInt64 &&& 63)) ||| 0) <<< ((3 : Int32).toInt64 &&& 63)) ||| 0) <<< ((1 : Int32).toInt64 &&& 63)) ||| 0) <<< ((4 : Int32).toInt64 &&& 63)) ||| 0) <<< ((2 : Int32).toInt64 &&& 63)) ||| 3) <<< ((1 : Int32).toInt64 &&& 63)) ||| 0) <<< ((3 : Int32).toInt64 &&& 63)) ||| 0) <<< ((1 : Int32).toInt64 &&& 63))]) b (c_X12_other_2 S ) cf_X12_other wm_X12_160 ws_X12_other dX12_packs_107 rfl (Nat.le_of_ble_eq_true rfl) ⟨by decide, by decide, by decide, by decide⟩) (fun r1250 u1251 h1249 => ?_)
  obtain ⟨rfl, rfl⟩ := h1249
  refine z_iadd (v := 6) b dX12_packs_110 (by decide) ?_
  refine y_zald (q0 := 5) (j := 6) (v := (ar S 4 6)) b (mw_5 cy a S) (by decide) rfl dX12_packs_111 ?_
  refine z_eqi h_a_4_6 ?_
  refine z_if_eq_t (tgt := 119) b dX12_packs_112 (by decide) (by decide) ?_
  refine z_lconst (v := 0) b dX12_packs_119 (by decide) ?_
  refine z_lor b dX12_packs_120 rfl ?_
  refine z_lstore_n (lv' := [(1, .long (((((((((((((((((((((((((((768 ||| ((ar S 1 2) : Int32).toInt64) <<< ((1 : Int32).toInt64 &&& 63)) ||| 0) <<< ((4 : Int32).toInt64 &&& 63)) ||| 0) <<< ((2 : Int32).toInt64 &&& 63)) ||| 3) <<< ((1 : Int32).toInt64 &&& 63)) ||| 0) <<< ((3 : Int32).toInt64 &&& 63)) ||| 0) <<< ((1 : Int32).toInt64 &&& 63)) ||| 0) <<< ((3 : Int32).toInt64 &&& 63)) ||| 0) <<< ((1 : Int32).toInt64 &&& 63)) ||| 0) <<< ((4 : Int32).toInt64 &&& 63)) ||| 0) <<< ((2 : Int32).toInt64 &&& 63)) ||| 3) <<< ((1 : Int32).toInt64 &&& 63)) ||| 0) <<< ((3 : Int32).toInt64 &&& 63)) ||| 0) <<< ((1 : Int32).toInt64 &&& 63)) ||| 0)), (4, .int 0), (3, .int 2), (0, .ref (a 0))]) b dX12_packs_121 rfl (by decide) rfl ?_
  refine z_iinc (k9 := 1) (v := 1) (lv' := [(4, .int 1), (1, .long (((((((((((((((((((((((((((768 ||| ((ar S 1 2) : Int32).toInt64) <<< ((1 : Int32).toInt64 &&& 63)) ||| 0) <<< ((4 : Int32).toInt64 &&& 63)) ||| 0) <<< ((2 : Int32).toInt64 &&& 63)) ||| 3) <<< ((1 : Int32).toInt64 &&& 63)) ||| 0) <<< ((3 : Int32).toInt64 &&& 63)) ||| 0) <<< ((1 : Int32).toInt64 &&& 63)) ||| 0) <<< ((3 : Int32).toInt64 &&& 63)) ||| 0) <<< ((1 : Int32).toInt64 &&& 63)) ||| 0) <<< ((4 : Int32).toInt64 &&& 63)) ||| 0) <<< ((2 : Int32).toInt64 &&& 63)) ||| 3) <<< ((1 : Int32).toInt64 &&& 63)) ||| 0) <<< ((3 : Int32).toInt64 &&& 63)) ||| 0) <<< ((1 : Int32).toInt64 &&& 63)) ||| 0)), (3, .int 2), (0, .ref (a 0))]) b dX12_packs_122 rfl (by decide) (by decide) rfl ?_
  refine z_goto (tgt := 67) b dX12_packs_125 (by decide) ?_
  refine z_iload b dX12_packs_67 rfl ?_
  refine z_iconst (v := 2) b dX12_packs_69 (by decide) ?_
  refine z_icmp_ge_f (tgt := 128) b dX12_packs_70 (by decide) (by decide) ?_
  refine z_lload_n b dX12_packs_73 rfl rfl ?_
  refine z_iconst (v := 3) b dX12_packs_74 (by decide) ?_
  refine z_lshl b dX12_packs_75 rfl ?_
  refine z_aload_n b dX12_packs_76 rfl rfl ?_
  refine z_get (q0 := 0) (k9 := 1) (v := .ref (a 2)) b (mw_0 cy a S) rfl in_X12 (by decide) wf_X12_17 rfl dX12_packs_77 ?_
  refine z_iconst (v := 3) b dX12_packs_80 (by decide) ?_
  refine z_iload_n b dX12_packs_81 rfl rfl ?_
  refine z_imul (v := 6) b dX12_packs_82 (by decide) ?_
  refine z_iload_n b dX12_packs_83 rfl rfl ?_
  refine z_iload b dX12_packs_84 rfl ?_
  refine z_calli b (z_runS (As := [.int 2, .int 1]) (st := [.int 6, .ref (a 2), .long ((((((((((((((((((((((((((((768 ||| ((ar S 1 2) : Int32).toInt64) <<< ((1 : Int32).toInt64 &&& 63)) ||| 0) <<< ((4 : Int32).toInt64 &&& 63)) ||| 0) <<< ((2 : Int32).toInt64 &&& 63)) ||| 3) <<< ((1 : Int32).toInt64 &&& 63)) ||| 0) <<< ((3 : Int32).toInt64 &&& 63)) ||| 0) <<< ((1 : Int32).toInt64 &&& 63)) ||| 0) <<< ((3 : Int32).toInt64 &&& 63)) ||| 0) <<< ((1 : Int32).toInt64 &&& 63)) ||| 0) <<< ((4 : Int32).toInt64 &&& 63)) ||| 0) <<< ((2 : Int32).toInt64 &&& 63)) ||| 3) <<< ((1 : Int32).toInt64 &&& 63)) ||| 0) <<< ((3 : Int32).toInt64 &&& 63)) ||| 0) <<< ((1 : Int32).toInt64 &&& 63)) ||| 0) <<< ((3 : Int32).toInt64 &&& 63))]) b (c_X12_other S ) cf_X12_other wm_X12_160 ws_X12_other dX12_packs_86 rfl (Nat.le_of_ble_eq_true rfl) ⟨by decide, by decide, by decide, by decide⟩) (fun r1253 u1254 h1252 => ?_)
  obtain ⟨rfl, rfl⟩ := h1252
  refine z_iadd (v := 7) b dX12_packs_89 (by decide) ?_
  refine y_iald (q0 := 2) (j := 7) (v := (ar S 1 7)) b (mw_2 cy a S) (by decide) rfl dX12_packs_90 ?_
  refine z_eqi h_a_1_7 ?_
  refine z_i2l (v := 0) b dX12_packs_91 (by decide) ?_
  refine z_lor b dX12_packs_92 rfl ?_
  refine z_lstore_n (lv' := [(1, .long (((((((((((((((((((((((((((((768 ||| ((ar S 1 2) : Int32).toInt64) <<< ((1 : Int32).toInt64 &&& 63)) ||| 0) <<< ((4 : Int32).toInt64 &&& 63)) ||| 0) <<< ((2 : Int32).toInt64 &&& 63)) ||| 3) <<< ((1 : Int32).toInt64 &&& 63)) ||| 0) <<< ((3 : Int32).toInt64 &&& 63)) ||| 0) <<< ((1 : Int32).toInt64 &&& 63)) ||| 0) <<< ((3 : Int32).toInt64 &&& 63)) ||| 0) <<< ((1 : Int32).toInt64 &&& 63)) ||| 0) <<< ((4 : Int32).toInt64 &&& 63)) ||| 0) <<< ((2 : Int32).toInt64 &&& 63)) ||| 3) <<< ((1 : Int32).toInt64 &&& 63)) ||| 0) <<< ((3 : Int32).toInt64 &&& 63)) ||| 0) <<< ((1 : Int32).toInt64 &&& 63)) ||| 0) <<< ((3 : Int32).toInt64 &&& 63)) ||| 0)), (4, .int 1), (3, .int 2), (0, .ref (a 0))]) b dX12_packs_93 rfl (by decide) rfl ?_
  refine z_lload_n b dX12_packs_94 rfl rfl ?_
  refine z_iconst (v := 1) b dX12_packs_95 (by decide) ?_
  refine z_lshl b dX12_packs_96 rfl ?_
  refine z_aload_n b dX12_packs_97 rfl rfl ?_
  refine z_get (q0 := 0) (k9 := 4) (v := .ref (a 5)) b (mw_0 cy a S) rfl in_X12 (by decide) wf_X12_27 rfl dX12_packs_98 ?_
  refine z_iconst (v := 3) b dX12_packs_101 (by decide) ?_
  refine z_iload_n b dX12_packs_102 rfl rfl ?_
  refine z_imul (v := 6) b dX12_packs_103 (by decide) ?_
  refine z_iload_n b dX12_packs_104 rfl rfl ?_
  refine z_iload b dX12_packs_105 rfl ?_
  refine z_calli b (z_runS (As := [.int 2, .int 1]) (st := [.int 6, .ref (a 5), .long ((((((((((((((((((((((((((((((768 ||| ((ar S 1 2) : Int32).toInt64) <<< ((1 : Int32).toInt64 &&& 63)) ||| 0) <<< ((4 : Int32).toInt64 &&& 63)) ||| 0) <<< ((2 : Int32).toInt64 &&& 63)) ||| 3) <<< ((1 : Int32).toInt64 &&& 63)) ||| 0) <<< ((3 : Int32).toInt64 &&& 63)) ||| 0) <<< ((1 : Int32).toInt64 &&& 63)) ||| 0) <<< ((3 : Int32).toInt64 &&& 63)) ||| 0) <<< ((1 : Int32).toInt64 &&& 63)) ||| 0) <<< ((4 : Int32).toInt64 &&& 63)) ||| 0) <<< ((2 : Int32).toInt64 &&& 63)) ||| 3) <<< ((1 : Int32).toInt64 &&& 63)) ||| 0) <<< ((3 : Int32).toInt64 &&& 63)) ||| 0) <<< ((1 : Int32).toInt64 &&& 63)) ||| 0) <<< ((3 : Int32).toInt64 &&& 63)) ||| 0) <<< ((1 : Int32).toInt64 &&& 63))]) b (c_X12_other S ) cf_X12_other wm_X12_160 ws_X12_other dX12_packs_107 rfl (Nat.le_of_ble_eq_true rfl) ⟨by decide, by decide, by decide, by decide⟩) (fun r1256 u1257 h1255 => ?_)
  obtain ⟨rfl, rfl⟩ := h1255
  refine z_iadd (v := 7) b dX12_packs_110 (by decide) ?_
  refine y_zald (q0 := 5) (j := 7) (v := (ar S 4 7)) b (mw_5 cy a S) (by decide) rfl dX12_packs_111 ?_
  refine z_eqi h_a_4_7 ?_
  refine z_if_eq_t (tgt := 119) b dX12_packs_112 (by decide) (by decide) ?_
  refine z_lconst (v := 0) b dX12_packs_119 (by decide) ?_
  refine z_lor b dX12_packs_120 rfl ?_
  refine z_lstore_n (lv' := [(1, .long (((((((((((((((((((((((((((((((768 ||| ((ar S 1 2) : Int32).toInt64) <<< ((1 : Int32).toInt64 &&& 63)) ||| 0) <<< ((4 : Int32).toInt64 &&& 63)) ||| 0) <<< ((2 : Int32).toInt64 &&& 63)) ||| 3) <<< ((1 : Int32).toInt64 &&& 63)) ||| 0) <<< ((3 : Int32).toInt64 &&& 63)) ||| 0) <<< ((1 : Int32).toInt64 &&& 63)) ||| 0) <<< ((3 : Int32).toInt64 &&& 63)) ||| 0) <<< ((1 : Int32).toInt64 &&& 63)) ||| 0) <<< ((4 : Int32).toInt64 &&& 63)) ||| 0) <<< ((2 : Int32).toInt64 &&& 63)) ||| 3) <<< ((1 : Int32).toInt64 &&& 63)) ||| 0) <<< ((3 : Int32).toInt64 &&& 63)) ||| 0) <<< ((1 : Int32).toInt64 &&& 63)) ||| 0) <<< ((3 : Int32).toInt64 &&& 63)) ||| 0) <<< ((1 : Int32).toInt64 &&& 63)) ||| 0)), (4, .int 1), (3, .int 2), (0, .ref (a 0))]) b dX12_packs_121 rfl (by decide) rfl ?_
  refine z_iinc (k9 := 1) (v := 2) (lv' := [(4, .int 2), (1, .long (((((((((((((((((((((((((((((((768 ||| ((ar S 1 2) : Int32).toInt64) <<< ((1 : Int32).toInt64 &&& 63)) ||| 0) <<< ((4 : Int32).toInt64 &&& 63)) ||| 0) <<< ((2 : Int32).toInt64 &&& 63)) ||| 3) <<< ((1 : Int32).toInt64 &&& 63)) ||| 0) <<< ((3 : Int32).toInt64 &&& 63)) ||| 0) <<< ((1 : Int32).toInt64 &&& 63)) ||| 0) <<< ((3 : Int32).toInt64 &&& 63)) ||| 0) <<< ((1 : Int32).toInt64 &&& 63)) ||| 0) <<< ((4 : Int32).toInt64 &&& 63)) ||| 0) <<< ((2 : Int32).toInt64 &&& 63)) ||| 3) <<< ((1 : Int32).toInt64 &&& 63)) ||| 0) <<< ((3 : Int32).toInt64 &&& 63)) ||| 0) <<< ((1 : Int32).toInt64 &&& 63)) ||| 0) <<< ((3 : Int32).toInt64 &&& 63)) ||| 0) <<< ((1 : Int32).toInt64 &&& 63)) ||| 0)), (3, .int 2), (0, .ref (a 0))]) b dX12_packs_122 rfl (by decide) (by decide) rfl ?_
  refine z_goto (tgt := 67) b dX12_packs_125 (by decide) ?_
  refine z_iload b dX12_packs_67 rfl ?_
  refine z_iconst (v := 2) b dX12_packs_69 (by decide) ?_
  refine z_icmp_ge_t (tgt := 128) b dX12_packs_70 (by decide) (by decide) ?_
  refine z_iinc (k9 := 2) (v := 3) (lv' := [(3, .int 3), (4, .int 2), (1, .long (((((((((((((((((((((((((((((((768 ||| ((ar S 1 2) : Int32).toInt64) <<< ((1 : Int32).toInt64 &&& 63)) ||| 0) <<< ((4 : Int32).toInt64 &&& 63)) ||| 0) <<< ((2 : Int32).toInt64 &&& 63)) ||| 3) <<< ((1 : Int32).toInt64 &&& 63)) ||| 0) <<< ((3 : Int32).toInt64 &&& 63)) ||| 0) <<< ((1 : Int32).toInt64 &&& 63)) ||| 0) <<< ((3 : Int32).toInt64 &&& 63)) ||| 0) <<< ((1 : Int32).toInt64 &&& 63)) ||| 0) <<< ((4 : Int32).toInt64 &&& 63)) ||| 0) <<< ((2 : Int32).toInt64 &&& 63)) ||| 3) <<< ((1 : Int32).toInt64 &&& 63)) ||| 0) <<< ((3 : Int32).toInt64 &&& 63)) ||| 0) <<< ((1 : Int32).toInt64 &&& 63)) ||| 0) <<< ((3 : Int32).toInt64 &&& 63)) ||| 0) <<< ((1 : Int32).toInt64 &&& 63)) ||| 0)), (0, .ref (a 0))]) b dX12_packs_128 rfl (by decide) (by decide) rfl ?_
  refine z_goto (tgt := 8) b dX12_packs_131 (by decide) ?_
  refine z_iload_n b dX12_packs_8 rfl rfl ?_
  refine z_iconst (v := 3) b dX12_packs_9 (by decide) ?_
  refine z_icmp_ge_t (tgt := 134) b dX12_packs_10 (by decide) (by decide) ?_
  refine z_lload_n b dX12_packs_134 rfl rfl ?_
  exact z_lret (u := S) b rfl dX12_packs_135 ⟨rfl, rfl⟩ rfl (by decide) (by decide)

set_option maxHeartbeats 4000000 in
set_option maxRecDepth 100000 in
theorem c_X12_told_9 {l : Launch} {D : va_G} {cy : Nat → ClassId} {T0 tB tE : Nat} {a : Nat → Nat} (S : GS)  (h_i_0 : fi S 0 = 0) (h_a_0_0 : ar S 0 0 = 0) (h_a_2_0 : ar S 2 0 = 3) (h_a_3_1 : ar S 3 1 = 0) (h_a_1_1 : ar S 1 1 = 0) (h_a_4_1 : ar S 4 1 = 0) (h_a_4_2 : ar S 4 2 = 0) (h_a_0_1 : ar S 0 1 = 0) (h_a_2_1 : ar S 2 1 = 3) (h_a_3_5 : ar S 3 5 = 0) (h_a_1_5 : ar S 1 5 = 0) (h_a_4_5 : ar S 4 5 = 0) (h_a_1_3 : ar S 1 3 = 0) (h_a_4_3 : ar S 4 3 = 0) (h_a_0_2 : ar S 0 2 = 0) (h_a_2_2 : ar S 2 2 = 3) (h_a_3_6 : ar S 3 6 = 0) (h_a_1_6 : ar S 1 6 = 0) (h_a_4_6 : ar S 4 6 = 0) (h_a_1_7 : ar S 1 7 = 0) (h_a_4_7 : ar S 4 7 = 0) : Ct l D cy T0 tB tE yX12_told cX12_told 1 (some .boolean) 2 45 0 0 (mw cy a S) [.ref (a 0)] (QI D (U := GS) (fun r u => 1 = r ∧ sl S 0 (((((((((((((((((((((((((((((((768 ||| ((ar S 1 2) : Int32).toInt64) <<< ((1 : Int32).toInt64 &&& 63)) ||| 0) <<< ((4 : Int32).toInt64 &&& 63)) ||| 0) <<< ((2 : Int32).toInt64 &&& 63)) ||| 3) <<< ((1 : Int32).toInt64 &&& 63)) ||| 0) <<< ((3 : Int32).toInt64 &&& 63)) ||| 0) <<< ((1 : Int32).toInt64 &&& 63)) ||| 0) <<< ((3 : Int32).toInt64 &&& 63)) ||| 0) <<< ((1 : Int32).toInt64 &&& 63)) ||| 0) <<< ((4 : Int32).toInt64 &&& 63)) ||| 0) <<< ((2 : Int32).toInt64 &&& 63)) ||| 3) <<< ((1 : Int32).toInt64 &&& 63)) ||| 0) <<< ((3 : Int32).toInt64 &&& 63)) ||| 0) <<< ((1 : Int32).toInt64 &&& 63)) ||| 0) <<< ((3 : Int32).toInt64 &&& 63)) ||| 0) <<< ((1 : Int32).toInt64 &&& 63)) ||| 0) = u) (mw cy a)) := by
  refine Ct.ofZ RX12 "told" [(0, .ref (a 0))] rfl rfl rfl rfl (Nat.le_of_ble_eq_true rfl) ?_
  intro p e R s m args below meth c A b
  refine z_aload_n b dX12_told_0 rfl rfl ?_
  refine z_aload_n b dX12_told_1 rfl rfl ?_
  refine z_calll b (z_runV (q0 := 0) (As := []) (st := [.ref (a 0)]) b (c_X12_packs_9 S h_i_0 h_a_0_0 h_a_2_0 h_a_3_1 h_a_1_1 h_a_4_1 h_a_4_2 h_a_0_1 h_a_2_1 h_a_3_5 h_a_1_5 h_a_4_5 h_a_1_3 h_a_4_3 h_a_0_2 h_a_2_2 h_a_3_6 h_a_1_6 h_a_4_6 h_a_1_7 h_a_4_7) cf_X12_packs (mw_0 cy a S) rfl wm_X12_149 wi_X12_packs ws_X12_packs dX12_told_2 rfl (Nat.le_of_ble_eq_true rfl) ⟨by decide, by decide, by decide, by decide⟩) (fun r1259 u1260 h1258 => ?_)
  obtain ⟨rfl, rfl⟩ := h1258
  refine z_put (q0 := 0) (k9 := 6) tyX12 b (mw_0 cy a S) rfl in_X12 tyX12_ok nmX12 (by decide) wf_X12_153 rfl rfl rfl rfl (Nat.le_of_ble_eq_true rfl) dX12_told_5 (mwp_0_6 cy a S (((((((((((((((((((((((((((((((768 ||| ((ar S 1 2) : Int32).toInt64) <<< ((1 : Int32).toInt64 &&& 63)) ||| 0) <<< ((4 : Int32).toInt64 &&& 63)) ||| 0) <<< ((2 : Int32).toInt64 &&& 63)) ||| 3) <<< ((1 : Int32).toInt64 &&& 63)) ||| 0) <<< ((3 : Int32).toInt64 &&& 63)) ||| 0) <<< ((1 : Int32).toInt64 &&& 63)) ||| 0) <<< ((3 : Int32).toInt64 &&& 63)) ||| 0) <<< ((1 : Int32).toInt64 &&& 63)) ||| 0) <<< ((4 : Int32).toInt64 &&& 63)) ||| 0) <<< ((2 : Int32).toInt64 &&& 63)) ||| 3) <<< ((1 : Int32).toInt64 &&& 63)) ||| 0) <<< ((3 : Int32).toInt64 &&& 63)) ||| 0) <<< ((1 : Int32).toInt64 &&& 63)) ||| 0) <<< ((3 : Int32).toInt64 &&& 63)) ||| 0) <<< ((1 : Int32).toInt64 &&& 63)) ||| 0)) ?_
  refine z_iconst (v := 1) b dX12_told_8 (by decide) ?_
  exact z_zret (u := (sl S 0 (((((((((((((((((((((((((((((((768 ||| ((ar S 1 2) : Int32).toInt64) <<< ((1 : Int32).toInt64 &&& 63)) ||| 0) <<< ((4 : Int32).toInt64 &&& 63)) ||| 0) <<< ((2 : Int32).toInt64 &&& 63)) ||| 3) <<< ((1 : Int32).toInt64 &&& 63)) ||| 0) <<< ((3 : Int32).toInt64 &&& 63)) ||| 0) <<< ((1 : Int32).toInt64 &&& 63)) ||| 0) <<< ((3 : Int32).toInt64 &&& 63)) ||| 0) <<< ((1 : Int32).toInt64 &&& 63)) ||| 0) <<< ((4 : Int32).toInt64 &&& 63)) ||| 0) <<< ((2 : Int32).toInt64 &&& 63)) ||| 3) <<< ((1 : Int32).toInt64 &&& 63)) ||| 0) <<< ((3 : Int32).toInt64 &&& 63)) ||| 0) <<< ((1 : Int32).toInt64 &&& 63)) ||| 0) <<< ((3 : Int32).toInt64 &&& 63)) ||| 0) <<< ((1 : Int32).toInt64 &&& 63)) ||| 0))) b rfl (by decide) dX12_told_9 ⟨rfl, rfl⟩ rfl (by decide) (by decide)

set_option maxHeartbeats 4000000 in
set_option maxRecDepth 100000 in
theorem c_X12_debt_16 {l : Launch} {D : va_G} {cy : Nat → ClassId} {T0 tB tE : Nat} {a : Nat → Nat} (S : GS) (p0 : Int32) (h_l_0 : fl S 0 = 1649317774848) (h_a_4_7 : ar S 4 7 = 0) (h_a_1_7 : ar S 1 7 = 0) (h_a_4_6 : ar S 4 6 = 0) (h_a_1_6 : ar S 1 6 = 0) (h_a_3_6 : ar S 3 6 = 0) (h_a_3_2 : ar S 3 2 = 0) (h_a_2_2 : ar S 2 2 = 3) (h_a_0_2 : ar S 0 2 = 0) (h_a_4_3 : ar S 4 3 = 0) (h_a_1_3 : ar S 1 3 = 0) (h_a_4_5 : ar S 4 5 = 0) (h_a_1_5 : ar S 1 5 = 0) (h_a_3_5 : ar S 3 5 = 0) (h_a_3_7 : ar S 3 7 = 0) (h_a_2_1 : ar S 2 1 = 3) (h_a_0_1 : ar S 0 1 = 0) (h_a_4_2 : ar S 4 2 = 0) (h_a_1_2 : ar S 1 2 = 0) (h_a_4_1 : ar S 4 1 = 0) (h_a_1_1 : ar S 1 1 = 0) (h_a_3_1 : ar S 3 1 = 0) (h_a_3_3 : ar S 3 3 = 0) (h_a_2_0 : ar S 2 0 = 3) (h_a_0_0 : ar S 0 0 = 0) (h_i_0 : fi S 0 = 0) (hr_p0 : 0 ≤ p0.toInt ∧ p0.toInt ≤ 7) : Ct l D cy T0 tB tE yX12_debt cX12_debt 4 (some .boolean) 3 65 0 0 (mw cy a S) [.ref (a 0), .int 0, .int 2, .int p0] (QI D (U := GS) (fun r u => (((((p0.toInt < 0)) ∨ ((0 ≤ p0.toInt) ∧ (7 < p0.toInt)))) ∧ 0 = r ∧ S = u) ∨ ((((0 ≤ p0.toInt) ∧ (p0.toInt ≤ 7))) ∧ 1 = r ∧ sl (su S 1 2 p0) 0 (((((((((((((((((((((((((((((((768 ||| ((ar (su S 1 2 p0) 1 2) : Int32).toInt64) <<< ((1 : Int32).toInt64 &&& 63)) ||| 0) <<< ((4 : Int32).toInt64 &&& 63)) ||| 0) <<< ((2 : Int32).toInt64 &&& 63)) ||| 3) <<< ((1 : Int32).toInt64 &&& 63)) ||| 0) <<< ((3 : Int32).toInt64 &&& 63)) ||| 0) <<< ((1 : Int32).toInt64 &&& 63)) ||| 0) <<< ((3 : Int32).toInt64 &&& 63)) ||| 0) <<< ((1 : Int32).toInt64 &&& 63)) ||| 0) <<< ((4 : Int32).toInt64 &&& 63)) ||| 0) <<< ((2 : Int32).toInt64 &&& 63)) ||| 3) <<< ((1 : Int32).toInt64 &&& 63)) ||| 0) <<< ((3 : Int32).toInt64 &&& 63)) ||| 0) <<< ((1 : Int32).toInt64 &&& 63)) ||| 0) <<< ((3 : Int32).toInt64 &&& 63)) ||| 0) <<< ((1 : Int32).toInt64 &&& 63)) ||| 0) = u)) (mw cy a)) := by
  refine Ct.ofZ RX12 "debt" [(0, .ref (a 0)), (1, .int 0), (2, .int 2), (3, .int p0)] rfl rfl rfl rfl (Nat.le_of_ble_eq_true rfl) ?_
  intro p e R s m args below meth c A b
  refine z_iload_n b dX12_debt_0 rfl rfl ?_
  refine z_calli b (z_runS (As := [.int 0]) (st := []) b (c_X12_isOne_2 S ) cf_X12_isOne wm_X12_170 ws_X12_isOne dX12_debt_1 rfl (Nat.le_of_ble_eq_true rfl) ⟨by decide, by decide, by decide, by decide⟩) (fun r1200 u1201 h1199 => ?_)
  obtain ⟨rfl, rfl⟩ := h1199
  refine z_if_eq_f (tgt := 29) b dX12_debt_4 (by decide) (by decide) ?_
  refine z_iload_n b dX12_debt_7 rfl rfl ?_
  refine z_calli b (z_runS (As := [.int 2]) (st := []) b (c_X12_isOne_4 S ) cf_X12_isOne wm_X12_170 ws_X12_isOne dX12_debt_8 rfl (Nat.le_of_ble_eq_true rfl) ⟨by decide, by decide, by decide, by decide⟩) (fun r1203 u1204 h1202 => ?_)
  obtain ⟨rfl, rfl⟩ := h1202
  refine z_if_eq_f (tgt := 29) b dX12_debt_11 (by decide) (by decide) ?_
  refine z_iload_n b dX12_debt_14 rfl rfl ?_
  refine z_iload_n b dX12_debt_15 rfl rfl ?_
  refine z_icmp_eq_f (tgt := 29) b dX12_debt_16 (by decide) (by decide) ?_
  refine z_iload_n b dX12_debt_19 rfl rfl ?_
  refine z_iconst (v := 0) b dX12_debt_20 (by decide) ?_
  refine z_bipush (v := 7) b dX12_debt_21 (by decide) ?_
  refine z_calli b (z_runS (As := [.int p0, .int 0, .int 7]) (st := []) b (c_X12_isIn_7 S p0 ) cf_X12_isIn wm_X12_1 ws_X12_isIn dX12_debt_23 rfl (Nat.le_of_ble_eq_true rfl) ⟨by decide, by decide, by decide, by decide⟩) (fun r1206 u1207 h1205 => ?_)
  rcases h1205 with ⟨c1208, rfl, rfl⟩ | ⟨c1209, rfl, rfl⟩
  · refine z_if_ne_f (tgt := 31) b dX12_debt_26 (by decide) (by decide) ?_
    refine z_iconst (v := 0) b dX12_debt_29 (by decide) ?_
    exact z_zret (u := S) b rfl (by decide) dX12_debt_30 (Or.inl ⟨c1208, rfl, rfl⟩) rfl (by decide) (by decide)
  · refine z_if_ne_t (tgt := 31) b dX12_debt_26 (by decide) (by decide) ?_
    refine z_aload_n b dX12_debt_31 rfl rfl ?_
    refine z_aload_n b dX12_debt_32 rfl rfl ?_
    refine z_get (q0 := 0) (k9 := 6) (v := .long (fl S 0)) b (mw_0 cy a S) rfl in_X12 (by decide) wf_X12_153 rfl dX12_debt_33 ?_
    refine z_eql h_l_0 ?_
    refine z_callv b (z_runV (q0 := 0) (As := [.long 1649317774848]) (st := []) b (c_X12_takes S h_a_4_7 h_a_1_7 h_a_4_6 h_a_1_6 h_a_3_6 h_a_3_2 h_a_2_2 h_a_0_2 h_a_4_3 h_a_1_3 h_a_4_5 h_a_1_5 h_a_3_5 h_a_3_7 h_a_2_1 h_a_0_1 h_a_4_2 h_a_1_2 h_a_4_1 h_a_1_1 h_a_3_1 h_a_3_3 h_a_2_0 h_a_0_0 h_i_0) cf_X12_takes (mw_0 cy a S) rfl wm_X12_174 wi_X12_takes ws_X12_takes dX12_debt_36 rfl (Nat.le_of_ble_eq_true rfl) ⟨by decide, by decide, by decide, by decide⟩) (fun u1212 h1210 => ?_)
    obtain rfl := h1210
    refine z_aload_n b dX12_debt_39 rfl rfl ?_
    refine z_get (q0 := 0) (k9 := 1) (v := .ref (a 2)) b (mw_0 cy a S) rfl in_X12 (by decide) wf_X12_17 rfl dX12_debt_40 ?_
    refine z_iconst (v := 3) b dX12_debt_43 (by decide) ?_
    refine z_iload_n b dX12_debt_44 rfl rfl ?_
    refine z_imul (v := 0) b dX12_debt_45 (by decide) ?_
    refine z_iload_n b dX12_debt_46 rfl rfl ?_
    refine z_iadd (v := 2) b dX12_debt_47 (by decide) ?_
    refine z_iload_n b dX12_debt_48 rfl rfl ?_
    refine y_iast (q0 := 2) (j := 2) b (mw_2 cy a S) (by decide) dX12_debt_49 (mwa_2 cy a S 2 p0) ?_
    refine z_aload_n b dX12_debt_50 rfl rfl ?_
    refine z_calli b (z_runV (q0 := 0) (As := []) (st := []) b (c_X12_told_9 (su S 1 2 p0) h_i_0 h_a_0_0 h_a_2_0 h_a_3_1 h_a_1_1 h_a_4_1 h_a_4_2 h_a_0_1 h_a_2_1 h_a_3_5 h_a_1_5 h_a_4_5 h_a_1_3 h_a_4_3 h_a_0_2 h_a_2_2 h_a_3_6 h_a_1_6 h_a_4_6 h_a_1_7 h_a_4_7) cf_X12_told (mw_0 cy a (su S 1 2 p0)) rfl wm_X12_178 wi_X12_told ws_X12_told dX12_debt_51 rfl (Nat.le_of_ble_eq_true rfl) ⟨by decide, by decide, by decide, by decide⟩) (fun r1262 u1263 h1261 => ?_)
    obtain ⟨rfl, rfl⟩ := h1261
    exact z_zret (u := (sl (su S 1 2 p0) 0 (((((((((((((((((((((((((((((((768 ||| ((ar (su S 1 2 p0) 1 2) : Int32).toInt64) <<< ((1 : Int32).toInt64 &&& 63)) ||| 0) <<< ((4 : Int32).toInt64 &&& 63)) ||| 0) <<< ((2 : Int32).toInt64 &&& 63)) ||| 3) <<< ((1 : Int32).toInt64 &&& 63)) ||| 0) <<< ((3 : Int32).toInt64 &&& 63)) ||| 0) <<< ((1 : Int32).toInt64 &&& 63)) ||| 0) <<< ((3 : Int32).toInt64 &&& 63)) ||| 0) <<< ((1 : Int32).toInt64 &&& 63)) ||| 0) <<< ((4 : Int32).toInt64 &&& 63)) ||| 0) <<< ((2 : Int32).toInt64 &&& 63)) ||| 3) <<< ((1 : Int32).toInt64 &&& 63)) ||| 0) <<< ((3 : Int32).toInt64 &&& 63)) ||| 0) <<< ((1 : Int32).toInt64 &&& 63)) ||| 0) <<< ((3 : Int32).toInt64 &&& 63)) ||| 0) <<< ((1 : Int32).toInt64 &&& 63)) ||| 0))) b rfl (by decide) dX12_debt_54 (Or.inr ⟨c1209, rfl, rfl⟩) rfl (by decide) (by decide)

set_option maxHeartbeats 4000000 in
set_option maxRecDepth 100000 in
theorem c_X11_debt_17 {l : Launch} {D : va_G} {cy : Nat → ClassId} {T0 tB tE : Nat} {a : Nat → Nat} {rw : Nat → Option Nat} (S : GS) (p0 : Int32)  (hr_p0 : 8 ≤ p0.toInt ∧ p0.toInt ≤ 2147483647) : Ct l D cy T0 tB tE yX11_debt cX11_debt 4 (some .boolean) 2 41 0 0 (cw cy tE a rw S) [.ref (a 0), .int 0, .int 2, .int p0] (QI D (U := GS) (fun r u => 0 = r ∧ S = u) (cw cy tE a rw)) := by
  refine Ct.ofZ RX11 "debt" [(0, .ref (a 0)), (1, .int 0), (2, .int 2), (3, .int p0)] rfl rfl rfl rfl (Nat.le_of_ble_eq_true rfl) ?_
  intro p e R s m args below meth c A b
  refine z_iload_n b dX11_debt_0 rfl rfl ?_
  refine z_iload_n b dX11_debt_1 rfl rfl ?_
  refine z_calli b (z_runS (As := [.int 0, .int 2]) (st := []) b (c_X11_arePair_9 S ) cf_X11_arePair wm_X11_84 ws_X11_arePair dX11_debt_2 rfl (Nat.le_of_ble_eq_true rfl) ⟨by decide, by decide, by decide, by decide⟩) (fun r1265 u1266 h1264 => ?_)
  obtain ⟨rfl, rfl⟩ := h1264
  refine z_if_eq_f (tgt := 17) b dX11_debt_5 (by decide) (by decide) ?_
  refine z_iload_n b dX11_debt_8 rfl rfl ?_
  refine z_bipush (v := 7) b dX11_debt_9 (by decide) ?_
  refine z_calli b (z_runS (As := [.int p0, .int 7]) (st := []) b (c_X11_isWithin_3 S p0 ) cf_X11_isWithin wm_X11_73 ws_X11_isWithin dX11_debt_11 rfl (Nat.le_of_ble_eq_true rfl) ⟨by decide, by decide, by decide, by decide⟩) (fun r1268 u1269 h1267 => ?_)
  rcases h1267 with ⟨c1270, rfl, rfl⟩ | ⟨c1271, rfl, rfl⟩
  · refine z_if_ne_f (tgt := 19) b dX11_debt_14 (by decide) (by decide) ?_
    refine z_iconst (v := 0) b dX11_debt_17 (by decide) ?_
    exact z_zret (u := S) b rfl (by decide) dX11_debt_18 ⟨rfl, rfl⟩ rfl (by decide) (by decide)
  · exfalso; omega

set_option maxHeartbeats 4000000 in
set_option maxRecDepth 100000 in
theorem c_X12_debt_17 {l : Launch} {D : va_G} {cy : Nat → ClassId} {T0 tB tE : Nat} {a : Nat → Nat} (S : GS) (p0 : Int32)  (hr_p0 : 8 ≤ p0.toInt ∧ p0.toInt ≤ 2147483647) : Ct l D cy T0 tB tE yX12_debt cX12_debt 4 (some .boolean) 2 42 0 0 (mw cy a S) [.ref (a 0), .int 0, .int 2, .int p0] (QI D (U := GS) (fun r u => 0 = r ∧ S = u) (mw cy a)) := by
  refine Ct.ofZ RX12 "debt" [(0, .ref (a 0)), (1, .int 0), (2, .int 2), (3, .int p0)] rfl rfl rfl rfl (Nat.le_of_ble_eq_true rfl) ?_
  intro p e R s m args below meth c A b
  refine z_iload_n b dX12_debt_0 rfl rfl ?_
  refine z_calli b (z_runS (As := [.int 0]) (st := []) b (c_X12_isOne_2 S ) cf_X12_isOne wm_X12_170 ws_X12_isOne dX12_debt_1 rfl (Nat.le_of_ble_eq_true rfl) ⟨by decide, by decide, by decide, by decide⟩) (fun r1273 u1274 h1272 => ?_)
  obtain ⟨rfl, rfl⟩ := h1272
  refine z_if_eq_f (tgt := 29) b dX12_debt_4 (by decide) (by decide) ?_
  refine z_iload_n b dX12_debt_7 rfl rfl ?_
  refine z_calli b (z_runS (As := [.int 2]) (st := []) b (c_X12_isOne_4 S ) cf_X12_isOne wm_X12_170 ws_X12_isOne dX12_debt_8 rfl (Nat.le_of_ble_eq_true rfl) ⟨by decide, by decide, by decide, by decide⟩) (fun r1276 u1277 h1275 => ?_)
  obtain ⟨rfl, rfl⟩ := h1275
  refine z_if_eq_f (tgt := 29) b dX12_debt_11 (by decide) (by decide) ?_
  refine z_iload_n b dX12_debt_14 rfl rfl ?_
  refine z_iload_n b dX12_debt_15 rfl rfl ?_
  refine z_icmp_eq_f (tgt := 29) b dX12_debt_16 (by decide) (by decide) ?_
  refine z_iload_n b dX12_debt_19 rfl rfl ?_
  refine z_iconst (v := 0) b dX12_debt_20 (by decide) ?_
  refine z_bipush (v := 7) b dX12_debt_21 (by decide) ?_
  refine z_calli b (z_runS (As := [.int p0, .int 0, .int 7]) (st := []) b (c_X12_isIn_7 S p0 ) cf_X12_isIn wm_X12_1 ws_X12_isIn dX12_debt_23 rfl (Nat.le_of_ble_eq_true rfl) ⟨by decide, by decide, by decide, by decide⟩) (fun r1279 u1280 h1278 => ?_)
  rcases h1278 with ⟨c1281, rfl, rfl⟩ | ⟨c1282, rfl, rfl⟩
  · refine z_if_ne_f (tgt := 31) b dX12_debt_26 (by decide) (by decide) ?_
    refine z_iconst (v := 0) b dX12_debt_29 (by decide) ?_
    exact z_zret (u := S) b rfl (by decide) dX12_debt_30 ⟨rfl, rfl⟩ rfl (by decide) (by decide)
  · exfalso; omega

set_option maxHeartbeats 4000000 in
set_option maxRecDepth 100000 in
theorem c_X11_arePair_10 {l : Launch} {D : va_G} {cy : Nat → ClassId} {T0 tB tE : Nat} {a : Nat → Nat} {rw : Nat → Option Nat} (S : GS)   : Ct l D cy T0 tB tE yX11_arePair cX11_arePair 2 (some .boolean) 1 20 0 0 (cw cy tE a rw S) [.int 1, .int 0] (QI D (U := GS) (fun r u => 1 = r ∧ S = u) (cw cy tE a rw)) := by
  refine Ct.ofZ RX11 "arePair" [(0, .int 1), (1, .int 0)] rfl rfl rfl rfl (Nat.le_of_ble_eq_true rfl) ?_
  intro p e R s m args below meth c A b
  refine z_iload_n b dX11_arePair_0 rfl rfl ?_
  refine z_calli b (z_runS (As := [.int 1]) (st := []) b (c_X11_isPerson_3 S ) cf_X11_isPerson wm_X11_69 ws_X11_isPerson dX11_arePair_1 rfl (Nat.le_of_ble_eq_true rfl) ⟨by decide, by decide, by decide, by decide⟩) (fun r1284 u1285 h1283 => ?_)
  obtain ⟨rfl, rfl⟩ := h1283
  refine z_if_eq_f (tgt := 23) b dX11_arePair_4 (by decide) (by decide) ?_
  refine z_iload_n b dX11_arePair_7 rfl rfl ?_
  refine z_calli b (z_runS (As := [.int 0]) (st := []) b (c_X11_isPerson_2 S ) cf_X11_isPerson wm_X11_69 ws_X11_isPerson dX11_arePair_8 rfl (Nat.le_of_ble_eq_true rfl) ⟨by decide, by decide, by decide, by decide⟩) (fun r1287 u1288 h1286 => ?_)
  obtain ⟨rfl, rfl⟩ := h1286
  refine z_if_eq_f (tgt := 23) b dX11_arePair_11 (by decide) (by decide) ?_
  refine z_iload_n b dX11_arePair_14 rfl rfl ?_
  refine z_iload_n b dX11_arePair_15 rfl rfl ?_
  refine z_icmp_eq_f (tgt := 23) b dX11_arePair_16 (by decide) (by decide) ?_
  refine z_iconst (v := 1) b dX11_arePair_19 (by decide) ?_
  refine z_goto (tgt := 24) b dX11_arePair_20 (by decide) ?_
  exact z_zret (u := S) b rfl (by decide) dX11_arePair_24 ⟨rfl, rfl⟩ rfl (by decide) (by decide)

set_option maxHeartbeats 4000000 in
set_option maxRecDepth 100000 in
theorem c_X11_debt_18 {l : Launch} {D : va_G} {cy : Nat → ClassId} {T0 tB tE : Nat} {a : Nat → Nat} {rw : Nat → Option Nat} (S : GS) (p0 : Int32)  (hr_p0 : (-2147483648) ≤ p0.toInt ∧ p0.toInt ≤ (-1)) : Ct l D cy T0 tB tE yX11_debt cX11_debt 4 (some .boolean) 2 41 0 0 (cw cy tE a rw S) [.ref (a 0), .int 1, .int 0, .int p0] (QI D (U := GS) (fun r u => 0 = r ∧ S = u) (cw cy tE a rw)) := by
  refine Ct.ofZ RX11 "debt" [(0, .ref (a 0)), (1, .int 1), (2, .int 0), (3, .int p0)] rfl rfl rfl rfl (Nat.le_of_ble_eq_true rfl) ?_
  intro p e R s m args below meth c A b
  refine z_iload_n b dX11_debt_0 rfl rfl ?_
  refine z_iload_n b dX11_debt_1 rfl rfl ?_
  refine z_calli b (z_runS (As := [.int 1, .int 0]) (st := []) b (c_X11_arePair_10 S ) cf_X11_arePair wm_X11_84 ws_X11_arePair dX11_debt_2 rfl (Nat.le_of_ble_eq_true rfl) ⟨by decide, by decide, by decide, by decide⟩) (fun r1290 u1291 h1289 => ?_)
  obtain ⟨rfl, rfl⟩ := h1289
  refine z_if_eq_f (tgt := 17) b dX11_debt_5 (by decide) (by decide) ?_
  refine z_iload_n b dX11_debt_8 rfl rfl ?_
  refine z_bipush (v := 7) b dX11_debt_9 (by decide) ?_
  refine z_calli b (z_runS (As := [.int p0, .int 7]) (st := []) b (c_X11_isWithin_3 S p0 ) cf_X11_isWithin wm_X11_73 ws_X11_isWithin dX11_debt_11 rfl (Nat.le_of_ble_eq_true rfl) ⟨by decide, by decide, by decide, by decide⟩) (fun r1293 u1294 h1292 => ?_)
  rcases h1292 with ⟨c1295, rfl, rfl⟩ | ⟨c1296, rfl, rfl⟩
  · refine z_if_ne_f (tgt := 19) b dX11_debt_14 (by decide) (by decide) ?_
    refine z_iconst (v := 0) b dX11_debt_17 (by decide) ?_
    exact z_zret (u := S) b rfl (by decide) dX11_debt_18 ⟨rfl, rfl⟩ rfl (by decide) (by decide)
  · exfalso; omega

set_option maxHeartbeats 4000000 in
set_option maxRecDepth 100000 in
theorem c_X12_debt_18 {l : Launch} {D : va_G} {cy : Nat → ClassId} {T0 tB tE : Nat} {a : Nat → Nat} (S : GS) (p0 : Int32)  (hr_p0 : (-2147483648) ≤ p0.toInt ∧ p0.toInt ≤ (-1)) : Ct l D cy T0 tB tE yX12_debt cX12_debt 4 (some .boolean) 2 42 0 0 (mw cy a S) [.ref (a 0), .int 1, .int 0, .int p0] (QI D (U := GS) (fun r u => 0 = r ∧ S = u) (mw cy a)) := by
  refine Ct.ofZ RX12 "debt" [(0, .ref (a 0)), (1, .int 1), (2, .int 0), (3, .int p0)] rfl rfl rfl rfl (Nat.le_of_ble_eq_true rfl) ?_
  intro p e R s m args below meth c A b
  refine z_iload_n b dX12_debt_0 rfl rfl ?_
  refine z_calli b (z_runS (As := [.int 1]) (st := []) b (c_X12_isOne_3 S ) cf_X12_isOne wm_X12_170 ws_X12_isOne dX12_debt_1 rfl (Nat.le_of_ble_eq_true rfl) ⟨by decide, by decide, by decide, by decide⟩) (fun r1298 u1299 h1297 => ?_)
  obtain ⟨rfl, rfl⟩ := h1297
  refine z_if_eq_f (tgt := 29) b dX12_debt_4 (by decide) (by decide) ?_
  refine z_iload_n b dX12_debt_7 rfl rfl ?_
  refine z_calli b (z_runS (As := [.int 0]) (st := []) b (c_X12_isOne_2 S ) cf_X12_isOne wm_X12_170 ws_X12_isOne dX12_debt_8 rfl (Nat.le_of_ble_eq_true rfl) ⟨by decide, by decide, by decide, by decide⟩) (fun r1301 u1302 h1300 => ?_)
  obtain ⟨rfl, rfl⟩ := h1300
  refine z_if_eq_f (tgt := 29) b dX12_debt_11 (by decide) (by decide) ?_
  refine z_iload_n b dX12_debt_14 rfl rfl ?_
  refine z_iload_n b dX12_debt_15 rfl rfl ?_
  refine z_icmp_eq_f (tgt := 29) b dX12_debt_16 (by decide) (by decide) ?_
  refine z_iload_n b dX12_debt_19 rfl rfl ?_
  refine z_iconst (v := 0) b dX12_debt_20 (by decide) ?_
  refine z_bipush (v := 7) b dX12_debt_21 (by decide) ?_
  refine z_calli b (z_runS (As := [.int p0, .int 0, .int 7]) (st := []) b (c_X12_isIn_7 S p0 ) cf_X12_isIn wm_X12_1 ws_X12_isIn dX12_debt_23 rfl (Nat.le_of_ble_eq_true rfl) ⟨by decide, by decide, by decide, by decide⟩) (fun r1304 u1305 h1303 => ?_)
  rcases h1303 with ⟨c1306, rfl, rfl⟩ | ⟨c1307, rfl, rfl⟩
  · refine z_if_ne_f (tgt := 31) b dX12_debt_26 (by decide) (by decide) ?_
    refine z_iconst (v := 0) b dX12_debt_29 (by decide) ?_
    exact z_zret (u := S) b rfl (by decide) dX12_debt_30 ⟨rfl, rfl⟩ rfl (by decide) (by decide)
  · exfalso; omega

set_option maxHeartbeats 4000000 in
set_option maxRecDepth 100000 in
theorem c_X9_set_10 {l : Launch} {D : va_G} {cy : Nat → ClassId} {T0 tB tE : Nat} {a : Nat → Nat} {rw : Nat → Option Nat} (S : GS) (p0 : Int32)  : Ct l D cy T0 tB tE yX9_set cX9_set 3 none 0 0 0 0 (cw cy tE a rw S) [.ref (a 14), .int 13, .int p0] (QV D (U := GS) (fun u => su S 4 13 p0 = u) (cw cy tE a rw)) := by
  refine Ct.ofZ RX9 "set" [(0, .ref (a 14)), (1, .int 13), (2, .int p0)] rfl rfl rfl rfl (Nat.le_of_ble_eq_true rfl) ?_
  intro p e R s m args below meth c A b
  refine z_iload_n b dX9_set_0 rfl rfl ?_
  refine z_if_lt_f (tgt := 20) b dX9_set_1 (by decide) (by decide) ?_
  refine z_iload_n b dX9_set_4 rfl rfl ?_
  refine z_aload_n b dX9_set_5 rfl rfl ?_
  refine z_get (q0 := 14) (k9 := 0) (v := .ref (a 15)) b (cw_14 cy tE a rw S) rfl in_X9 (by decide) wf_X9_11 rfl dX9_set_6 ?_
  refine z_alen (q0 := 15) (t0 := 0) (v := 51) b (cw_15 cy tE a rw S) rfl rfl dX9_set_9 ?_
  refine z_icmp_ge_f (tgt := 20) b dX9_set_10 (by decide) (by decide) ?_
  refine z_aload_n b dX9_set_13 rfl rfl ?_
  refine z_get (q0 := 14) (k9 := 0) (v := .ref (a 15)) b (cw_14 cy tE a rw S) rfl in_X9 (by decide) wf_X9_11 rfl dX9_set_14 ?_
  refine z_iload_n b dX9_set_17 rfl rfl ?_
  refine z_iload_n b dX9_set_18 rfl rfl ?_
  refine y_iast (q0 := 15) (j := 13) b (cw_15 cy tE a rw S) (by decide) dX9_set_19 (cwa_15 cy tE a rw S 13 p0) ?_
  exact z_vret (u := (su S 4 13 p0)) b rfl dX9_set_20 rfl rfl (by decide) (by decide)

set_option maxHeartbeats 4000000 in
set_option maxRecDepth 100000 in
theorem c_X11_debt_19 {l : Launch} {D : va_G} {cy : Nat → ClassId} {T0 tB tE : Nat} {a : Nat → Nat} {rw : Nat → Option Nat} (S : GS) (p0 : Int32) (h_i_24 : fi S 24 = 0) (hr_p0 : 0 ≤ p0.toInt ∧ p0.toInt ≤ 7) : Ct l D cy T0 tB tE yX11_debt cX11_debt 4 (some .boolean) 2 41 0 0 (cw cy tE a rw S) [.ref (a 0), .int 1, .int 0, .int p0] (QI D (U := GS) (fun r u => (((((p0.toInt < 0)) ∨ ((0 ≤ p0.toInt) ∧ (7 < p0.toInt)))) ∧ 0 = r ∧ S = u) ∨ ((((0 ≤ p0.toInt) ∧ (p0.toInt ≤ 7))) ∧ 1 = r ∧ (su S 4 13 p0) = u)) (cw cy tE a rw)) := by
  refine Ct.ofZ RX11 "debt" [(0, .ref (a 0)), (1, .int 1), (2, .int 0), (3, .int p0)] rfl rfl rfl rfl (Nat.le_of_ble_eq_true rfl) ?_
  intro p e R s m args below meth c A b
  refine z_iload_n b dX11_debt_0 rfl rfl ?_
  refine z_iload_n b dX11_debt_1 rfl rfl ?_
  refine z_calli b (z_runS (As := [.int 1, .int 0]) (st := []) b (c_X11_arePair_10 S ) cf_X11_arePair wm_X11_84 ws_X11_arePair dX11_debt_2 rfl (Nat.le_of_ble_eq_true rfl) ⟨by decide, by decide, by decide, by decide⟩) (fun r1309 u1310 h1308 => ?_)
  obtain ⟨rfl, rfl⟩ := h1308
  refine z_if_eq_f (tgt := 17) b dX11_debt_5 (by decide) (by decide) ?_
  refine z_iload_n b dX11_debt_8 rfl rfl ?_
  refine z_bipush (v := 7) b dX11_debt_9 (by decide) ?_
  refine z_calli b (z_runS (As := [.int p0, .int 7]) (st := []) b (c_X11_isWithin_3 S p0 ) cf_X11_isWithin wm_X11_73 ws_X11_isWithin dX11_debt_11 rfl (Nat.le_of_ble_eq_true rfl) ⟨by decide, by decide, by decide, by decide⟩) (fun r1312 u1313 h1311 => ?_)
  rcases h1311 with ⟨c1314, rfl, rfl⟩ | ⟨c1315, rfl, rfl⟩
  · refine z_if_ne_f (tgt := 19) b dX11_debt_14 (by decide) (by decide) ?_
    refine z_iconst (v := 0) b dX11_debt_17 (by decide) ?_
    exact z_zret (u := S) b rfl (by decide) dX11_debt_18 (Or.inl ⟨c1314, rfl, rfl⟩) rfl (by decide) (by decide)
  · refine z_if_ne_t (tgt := 19) b dX11_debt_14 (by decide) (by decide) ?_
    refine z_aload_n b dX11_debt_19 rfl rfl ?_
    refine z_get (q0 := 0) (k9 := 4) (v := .ref (a 14)) b (cw_0 cy tE a rw S) rfl in_X11 (by decide) wf_X11_34 rfl dX11_debt_20 ?_
    refine z_bipush (v := 10) b dX11_debt_23 (by decide) ?_
    refine z_iconst (v := 3) b dX11_debt_25 (by decide) ?_
    refine z_iload_n b dX11_debt_26 rfl rfl ?_
    refine z_imul (v := 3) b dX11_debt_27 (by decide) ?_
    refine z_iadd (v := 13) b dX11_debt_28 (by decide) ?_
    refine z_iload_n b dX11_debt_29 rfl rfl ?_
    refine z_iadd (v := 13) b dX11_debt_30 (by decide) ?_
    refine z_iload_n b dX11_debt_31 rfl rfl ?_
    refine z_callv b (z_runV (q0 := 14) (As := [.int 13, .int p0]) (st := []) b (c_X9_set_10 S p0 ) cf_X9_set (cw_14 cy tE a rw S) rfl wm_X11_77 wi_X9_set ws_X9_set dX11_debt_32 rfl (Nat.le_of_ble_eq_true rfl) ⟨by decide, by decide, by decide, by decide⟩) (fun u1318 h1316 => ?_)
    obtain rfl := h1316
    refine z_aload_n b dX11_debt_35 rfl rfl ?_
    refine z_get (q0 := 0) (k9 := 6) (v := .ref (a 25)) b (cw_0 cy tE a rw (su S 4 13 p0)) rfl in_X11 (by decide) wf_X11_52 rfl dX11_debt_36 ?_
    refine z_callv b (z_runV (q0 := 25) (As := []) (st := []) b (c_X8_forget (su S 4 13 p0) h_i_24) cf_X8_forget (cw_25 cy tE a rw (su S 4 13 p0)) rfl wm_X11_81 wi_X8_forget ws_X8_forget dX11_debt_39 rfl (Nat.le_of_ble_eq_true rfl) ⟨by decide, by decide, by decide, by decide⟩) (fun u1321 h1319 => ?_)
    obtain rfl := h1319
    refine z_iconst (v := 1) b dX11_debt_42 (by decide) ?_
    exact z_zret (u := (su S 4 13 p0)) b rfl (by decide) dX11_debt_43 (Or.inr ⟨c1315, rfl, rfl⟩) rfl (by decide) (by decide)

set_option maxHeartbeats 4000000 in
set_option maxRecDepth 100000 in
theorem ch_X12_packs_22 {p : Program} {l : Launch} {e : Env} {R : Room} {s : State} {m : MethodId} {args : Array Value} {below : List Frame} {meth : Method} {c : Code} {D : va_G} {cy : Nat → ClassId} {T0 tB tE : Nat} {A : Nat → Prop} {Q : State → Prop} {a : Nat → Nat} (S : GS)  (h_a_0_0 : ar S 0 0 = 0) (h_a_1_1 : ar S 1 1 = 0) (h_a_1_2 : ar S 1 2 = 0) (h_a_2_0 : ar S 2 0 = 3) (h_a_3_1 : ar S 3 1 = 0) (h_a_4_1 : ar S 4 1 = 0) (h_a_4_2 : ar S 4 2 = 0) (h_i_0 : fi S 0 = 0) (b : Bz p R s m args meth c D cy T0 tB tE A 5 cX12_packs RX12 (some .long) "packs" 1 21 0 0) (k : Z p l e R s m args below meth c D A 5 Q 0 0 (mw cy a S) [(3, .int 1), (4, .int 2), (1, .long 1536), (0, .ref (a 0))] 21 [.int 1, .ref (a 1), .long 24576]) : Z p l e R s m args below meth c D A 5 Q 0 0 (mw cy a S) [(0, .ref (a 0))] 0 [] := by
  refine z_aload_n b dX12_packs_0 rfl rfl ?_
  refine z_get (q0 := 0) (k9 := 5) (v := .int (fi S 0)) b (mw_0 cy a S) rfl in_X12 (by decide) wf_X12_157 rfl dX12_packs_1 ?_
  refine z_eqi h_i_0 ?_
  refine z_i2l (v := 0) b dX12_packs_4 (by decide) ?_
  refine z_lstore_n (lv' := [(1, .long 0), (0, .ref (a 0))]) b dX12_packs_5 rfl (by decide) rfl ?_
  refine z_iconst (v := 0) b dX12_packs_6 (by decide) ?_
  refine z_istore_n (lv' := [(3, .int 0), (1, .long 0), (0, .ref (a 0))]) b dX12_packs_7 rfl (by decide) rfl ?_
  refine z_iload_n b dX12_packs_8 rfl rfl ?_
  refine z_iconst (v := 3) b dX12_packs_9 (by decide) ?_
  refine z_icmp_ge_f (tgt := 134) b dX12_packs_10 (by decide) (by decide) ?_
  refine z_lload_n b dX12_packs_13 rfl rfl ?_
  refine z_iconst (v := 4) b dX12_packs_14 (by decide) ?_
  refine z_lshl (v := 0) b dX12_packs_15 (by decide) ?_
  refine z_aload_n b dX12_packs_16 rfl rfl ?_
  refine z_get (q0 := 0) (k9 := 0) (v := .ref (a 1)) b (mw_0 cy a S) rfl in_X12 (by decide) wf_X12_13 rfl dX12_packs_17 ?_
  refine z_iload_n b dX12_packs_20 rfl rfl ?_
  refine y_iald (q0 := 1) (j := 0) (v := (ar S 0 0)) b (mw_1 cy a S) (by decide) rfl dX12_packs_21 ?_
  refine z_eqi h_a_0_0 ?_
  refine z_i2l (v := 0) b dX12_packs_22 (by decide) ?_
  refine z_lor (v := 0) b dX12_packs_23 (by decide) ?_
  refine z_lstore_n (lv' := [(1, .long 0), (3, .int 0), (0, .ref (a 0))]) b dX12_packs_24 rfl (by decide) rfl ?_
  refine z_lload_n b dX12_packs_25 rfl rfl ?_
  refine z_iconst (v := 2) b dX12_packs_26 (by decide) ?_
  refine z_lshl (v := 0) b dX12_packs_27 (by decide) ?_
  refine z_aload_n b dX12_packs_28 rfl rfl ?_
  refine z_get (q0 := 0) (k9 := 2) (v := .ref (a 3)) b (mw_0 cy a S) rfl in_X12 (by decide) wf_X12_20 rfl dX12_packs_29 ?_
  refine z_iload_n b dX12_packs_32 rfl rfl ?_
  refine y_iald (q0 := 3) (j := 0) (v := (ar S 2 0)) b (mw_3 cy a S) (by decide) rfl dX12_packs_33 ?_
  refine z_eqi h_a_2_0 ?_
  refine z_i2l (v := 3) b dX12_packs_34 (by decide) ?_
  refine z_lor (v := 3) b dX12_packs_35 (by decide) ?_
  refine z_lstore_n (lv' := [(1, .long 3), (3, .int 0), (0, .ref (a 0))]) b dX12_packs_36 rfl (by decide) rfl ?_
  refine z_lload_n b dX12_packs_37 rfl rfl ?_
  refine z_iconst (v := 1) b dX12_packs_38 (by decide) ?_
  refine z_lshl (v := 6) b dX12_packs_39 (by decide) ?_
  refine z_aload_n b dX12_packs_40 rfl rfl ?_
  refine z_get (q0 := 0) (k9 := 3) (v := .ref (a 4)) b (mw_0 cy a S) rfl in_X12 (by decide) wf_X12_23 rfl dX12_packs_41 ?_
  refine z_iconst (v := 3) b dX12_packs_44 (by decide) ?_
  refine z_iload_n b dX12_packs_45 rfl rfl ?_
  refine z_imul (v := 0) b dX12_packs_46 (by decide) ?_
  refine z_iload_n b dX12_packs_47 rfl rfl ?_
  refine z_iconst (v := 0) b dX12_packs_48 (by decide) ?_
  refine z_calli b (z_runS (As := [.int 0, .int 0]) (st := [.int 0, .ref (a 4), .long 6]) b (c_X12_other_6 S ) cf_X12_other wm_X12_160 ws_X12_other dX12_packs_49 rfl (Nat.le_of_ble_eq_true rfl) ⟨by decide, by decide, by decide, by decide⟩) (fun r1337 u1338 h1336 => ?_)
  obtain ⟨rfl, rfl⟩ := h1336
  refine z_iadd (v := 1) b dX12_packs_52 (by decide) ?_
  refine y_zald (q0 := 4) (j := 1) (v := (ar S 3 1)) b (mw_4 cy a S) (by decide) rfl dX12_packs_53 ?_
  refine z_eqi h_a_3_1 ?_
  refine z_if_eq_t (tgt := 61) b dX12_packs_54 (by decide) (by decide) ?_
  refine z_lconst (v := 0) b dX12_packs_61 (by decide) ?_
  refine z_lor (v := 6) b dX12_packs_62 (by decide) ?_
  refine z_lstore_n (lv' := [(1, .long 6), (3, .int 0), (0, .ref (a 0))]) b dX12_packs_63 rfl (by decide) rfl ?_
  refine z_iconst (v := 0) b dX12_packs_64 (by decide) ?_
  refine z_istore (lv' := [(4, .int 0), (1, .long 6), (3, .int 0), (0, .ref (a 0))]) b dX12_packs_65 (by decide) rfl ?_
  refine z_iload b dX12_packs_67 rfl ?_
  refine z_iconst (v := 2) b dX12_packs_69 (by decide) ?_
  refine z_icmp_ge_f (tgt := 128) b dX12_packs_70 (by decide) (by decide) ?_
  refine z_lload_n b dX12_packs_73 rfl rfl ?_
  refine z_iconst (v := 3) b dX12_packs_74 (by decide) ?_
  refine z_lshl (v := 48) b dX12_packs_75 (by decide) ?_
  refine z_aload_n b dX12_packs_76 rfl rfl ?_
  refine z_get (q0 := 0) (k9 := 1) (v := .ref (a 2)) b (mw_0 cy a S) rfl in_X12 (by decide) wf_X12_17 rfl dX12_packs_77 ?_
  refine z_iconst (v := 3) b dX12_packs_80 (by decide) ?_
  refine z_iload_n b dX12_packs_81 rfl rfl ?_
  refine z_imul (v := 0) b dX12_packs_82 (by decide) ?_
  refine z_iload_n b dX12_packs_83 rfl rfl ?_
  refine z_iload b dX12_packs_84 rfl ?_
  refine z_calli b (z_runS (As := [.int 0, .int 0]) (st := [.int 0, .ref (a 2), .long 48]) b (c_X12_other_6 S ) cf_X12_other wm_X12_160 ws_X12_other dX12_packs_86 rfl (Nat.le_of_ble_eq_true rfl) ⟨by decide, by decide, by decide, by decide⟩) (fun r1340 u1341 h1339 => ?_)
  obtain ⟨rfl, rfl⟩ := h1339
  refine z_iadd (v := 1) b dX12_packs_89 (by decide) ?_
  refine y_iald (q0 := 2) (j := 1) (v := (ar S 1 1)) b (mw_2 cy a S) (by decide) rfl dX12_packs_90 ?_
  refine z_eqi h_a_1_1 ?_
  refine z_i2l (v := 0) b dX12_packs_91 (by decide) ?_
  refine z_lor (v := 48) b dX12_packs_92 (by decide) ?_
  refine z_lstore_n (lv' := [(1, .long 48), (4, .int 0), (3, .int 0), (0, .ref (a 0))]) b dX12_packs_93 rfl (by decide) rfl ?_
  refine z_lload_n b dX12_packs_94 rfl rfl ?_
  refine z_iconst (v := 1) b dX12_packs_95 (by decide) ?_
  refine z_lshl (v := 96) b dX12_packs_96 (by decide) ?_
  refine z_aload_n b dX12_packs_97 rfl rfl ?_
  refine z_get (q0 := 0) (k9 := 4) (v := .ref (a 5)) b (mw_0 cy a S) rfl in_X12 (by decide) wf_X12_27 rfl dX12_packs_98 ?_
  refine z_iconst (v := 3) b dX12_packs_101 (by decide) ?_
  refine z_iload_n b dX12_packs_102 rfl rfl ?_
  refine z_imul (v := 0) b dX12_packs_103 (by decide) ?_
  refine z_iload_n b dX12_packs_104 rfl rfl ?_
  refine z_iload b dX12_packs_105 rfl ?_
  refine z_calli b (z_runS (As := [.int 0, .int 0]) (st := [.int 0, .ref (a 5), .long 96]) b (c_X12_other_6 S ) cf_X12_other wm_X12_160 ws_X12_other dX12_packs_107 rfl (Nat.le_of_ble_eq_true rfl) ⟨by decide, by decide, by decide, by decide⟩) (fun r1343 u1344 h1342 => ?_)
  obtain ⟨rfl, rfl⟩ := h1342
  refine z_iadd (v := 1) b dX12_packs_110 (by decide) ?_
  refine y_zald (q0 := 5) (j := 1) (v := (ar S 4 1)) b (mw_5 cy a S) (by decide) rfl dX12_packs_111 ?_
  refine z_eqi h_a_4_1 ?_
  refine z_if_eq_t (tgt := 119) b dX12_packs_112 (by decide) (by decide) ?_
  refine z_lconst (v := 0) b dX12_packs_119 (by decide) ?_
  refine z_lor (v := 96) b dX12_packs_120 (by decide) ?_
  refine z_lstore_n (lv' := [(1, .long 96), (4, .int 0), (3, .int 0), (0, .ref (a 0))]) b dX12_packs_121 rfl (by decide) rfl ?_
  refine z_iinc (k9 := 1) (v := 1) (lv' := [(4, .int 1), (1, .long 96), (3, .int 0), (0, .ref (a 0))]) b dX12_packs_122 rfl (by decide) (by decide) rfl ?_
  refine z_goto (tgt := 67) b dX12_packs_125 (by decide) ?_
  refine z_iload b dX12_packs_67 rfl ?_
  refine z_iconst (v := 2) b dX12_packs_69 (by decide) ?_
  refine z_icmp_ge_f (tgt := 128) b dX12_packs_70 (by decide) (by decide) ?_
  refine z_lload_n b dX12_packs_73 rfl rfl ?_
  refine z_iconst (v := 3) b dX12_packs_74 (by decide) ?_
  refine z_lshl (v := 768) b dX12_packs_75 (by decide) ?_
  refine z_aload_n b dX12_packs_76 rfl rfl ?_
  refine z_get (q0 := 0) (k9 := 1) (v := .ref (a 2)) b (mw_0 cy a S) rfl in_X12 (by decide) wf_X12_17 rfl dX12_packs_77 ?_
  refine z_iconst (v := 3) b dX12_packs_80 (by decide) ?_
  refine z_iload_n b dX12_packs_81 rfl rfl ?_
  refine z_imul (v := 0) b dX12_packs_82 (by decide) ?_
  refine z_iload_n b dX12_packs_83 rfl rfl ?_
  refine z_iload b dX12_packs_84 rfl ?_
  refine z_calli b (z_runS (As := [.int 0, .int 1]) (st := [.int 0, .ref (a 2), .long 768]) b (c_X12_other_5 S ) cf_X12_other wm_X12_160 ws_X12_other dX12_packs_86 rfl (Nat.le_of_ble_eq_true rfl) ⟨by decide, by decide, by decide, by decide⟩) (fun r1346 u1347 h1345 => ?_)
  obtain ⟨rfl, rfl⟩ := h1345
  refine z_iadd (v := 2) b dX12_packs_89 (by decide) ?_
  refine y_iald (q0 := 2) (j := 2) (v := (ar S 1 2)) b (mw_2 cy a S) (by decide) rfl dX12_packs_90 ?_
  refine z_eqi h_a_1_2 ?_
  refine z_i2l (v := 0) b dX12_packs_91 (by decide) ?_
  refine z_lor (v := 768) b dX12_packs_92 (by decide) ?_
  refine z_lstore_n (lv' := [(1, .long 768), (4, .int 1), (3, .int 0), (0, .ref (a 0))]) b dX12_packs_93 rfl (by decide) rfl ?_
  refine z_lload_n b dX12_packs_94 rfl rfl ?_
  refine z_iconst (v := 1) b dX12_packs_95 (by decide) ?_
  refine z_lshl (v := 1536) b dX12_packs_96 (by decide) ?_
  refine z_aload_n b dX12_packs_97 rfl rfl ?_
  refine z_get (q0 := 0) (k9 := 4) (v := .ref (a 5)) b (mw_0 cy a S) rfl in_X12 (by decide) wf_X12_27 rfl dX12_packs_98 ?_
  refine z_iconst (v := 3) b dX12_packs_101 (by decide) ?_
  refine z_iload_n b dX12_packs_102 rfl rfl ?_
  refine z_imul (v := 0) b dX12_packs_103 (by decide) ?_
  refine z_iload_n b dX12_packs_104 rfl rfl ?_
  refine z_iload b dX12_packs_105 rfl ?_
  refine z_calli b (z_runS (As := [.int 0, .int 1]) (st := [.int 0, .ref (a 5), .long 1536]) b (c_X12_other_5 S ) cf_X12_other wm_X12_160 ws_X12_other dX12_packs_107 rfl (Nat.le_of_ble_eq_true rfl) ⟨by decide, by decide, by decide, by decide⟩) (fun r1349 u1350 h1348 => ?_)
  obtain ⟨rfl, rfl⟩ := h1348
  refine z_iadd (v := 2) b dX12_packs_110 (by decide) ?_
  refine y_zald (q0 := 5) (j := 2) (v := (ar S 4 2)) b (mw_5 cy a S) (by decide) rfl dX12_packs_111 ?_
  refine z_eqi h_a_4_2 ?_
  refine z_if_eq_t (tgt := 119) b dX12_packs_112 (by decide) (by decide) ?_
  refine z_lconst (v := 0) b dX12_packs_119 (by decide) ?_
  refine z_lor (v := 1536) b dX12_packs_120 (by decide) ?_
  refine z_lstore_n (lv' := [(1, .long 1536), (4, .int 1), (3, .int 0), (0, .ref (a 0))]) b dX12_packs_121 rfl (by decide) rfl ?_
  refine z_iinc (k9 := 1) (v := 2) (lv' := [(4, .int 2), (1, .long 1536), (3, .int 0), (0, .ref (a 0))]) b dX12_packs_122 rfl (by decide) (by decide) rfl ?_
  refine z_goto (tgt := 67) b dX12_packs_125 (by decide) ?_
  refine z_iload b dX12_packs_67 rfl ?_
  refine z_iconst (v := 2) b dX12_packs_69 (by decide) ?_
  refine z_icmp_ge_t (tgt := 128) b dX12_packs_70 (by decide) (by decide) ?_
  refine z_iinc (k9 := 2) (v := 1) (lv' := [(3, .int 1), (4, .int 2), (1, .long 1536), (0, .ref (a 0))]) b dX12_packs_128 rfl (by decide) (by decide) rfl ?_
  refine z_goto (tgt := 8) b dX12_packs_131 (by decide) ?_
  refine z_iload_n b dX12_packs_8 rfl rfl ?_
  refine z_iconst (v := 3) b dX12_packs_9 (by decide) ?_
  refine z_icmp_ge_f (tgt := 134) b dX12_packs_10 (by decide) (by decide) ?_
  refine z_lload_n b dX12_packs_13 rfl rfl ?_
  refine z_iconst (v := 4) b dX12_packs_14 (by decide) ?_
  refine z_lshl (v := 24576) b dX12_packs_15 (by decide) ?_
  refine z_aload_n b dX12_packs_16 rfl rfl ?_
  refine z_get (q0 := 0) (k9 := 0) (v := .ref (a 1)) b (mw_0 cy a S) rfl in_X12 (by decide) wf_X12_13 rfl dX12_packs_17 ?_
  refine z_iload_n b dX12_packs_20 rfl rfl ?_
  exact k

set_option maxHeartbeats 4000000 in
set_option maxRecDepth 100000 in
theorem ch_X12_packs_23 {p : Program} {l : Launch} {e : Env} {R : Room} {s : State} {m : MethodId} {args : Array Value} {below : List Frame} {meth : Method} {c : Code} {D : va_G} {cy : Nat → ClassId} {T0 tB tE : Nat} {A : Nat → Prop} {Q : State → Prop} {a : Nat → Nat} (S : GS)  (h_a_0_1 : ar S 0 1 = 0) (h_a_0_2 : ar S 0 2 = 0) (h_a_1_5 : ar S 1 5 = 0) (h_a_2_1 : ar S 2 1 = 3) (h_a_2_2 : ar S 2 2 = 3) (h_a_3_5 : ar S 3 5 = 0) (h_a_4_3 : ar S 4 3 = 0) (h_a_4_5 : ar S 4 5 = 0) (b : Bz p R s m args meth c D cy T0 tB tE A 5 cX12_packs RX12 (some .long) "packs" 1 21 0 0) (k : Z p l e R s m args below meth c D A 5 Q 0 0 (mw cy a S) [(1, .long (((((((25166592 ||| ((ar S 1 3) : Int32).toInt64) <<< ((1 : Int32).toInt64 &&& 63)) ||| 0) <<< ((4 : Int32).toInt64 &&& 63)) ||| 0) <<< ((2 : Int32).toInt64 &&& 63)) ||| 3)), (3, .int 2), (4, .int 2), (0, .ref (a 0))] 38 [.long (((((((25166592 ||| ((ar S 1 3) : Int32).toInt64) <<< ((1 : Int32).toInt64 &&& 63)) ||| 0) <<< ((4 : Int32).toInt64 &&& 63)) ||| 0) <<< ((2 : Int32).toInt64 &&& 63)) ||| 3)]) : Z p l e R s m args below meth c D A 5 Q 0 0 (mw cy a S) [(3, .int 1), (4, .int 2), (1, .long 1536), (0, .ref (a 0))] 21 [.int 1, .ref (a 1), .long 24576] := by
  refine y_iald (q0 := 1) (j := 1) (v := (ar S 0 1)) b (mw_1 cy a S) (by decide) rfl dX12_packs_21 ?_
  refine z_eqi h_a_0_1 ?_
  refine z_i2l (v := 0) b dX12_packs_22 (by decide) ?_
  refine z_lor (v := 24576) b dX12_packs_23 (by decide) ?_
  refine z_lstore_n (lv' := [(1, .long 24576), (3, .int 1), (4, .int 2), (0, .ref (a 0))]) b dX12_packs_24 rfl (by decide) rfl ?_
  refine z_lload_n b dX12_packs_25 rfl rfl ?_
  refine z_iconst (v := 2) b dX12_packs_26 (by decide) ?_
  refine z_lshl (v := 98304) b dX12_packs_27 (by decide) ?_
  refine z_aload_n b dX12_packs_28 rfl rfl ?_
  refine z_get (q0 := 0) (k9 := 2) (v := .ref (a 3)) b (mw_0 cy a S) rfl in_X12 (by decide) wf_X12_20 rfl dX12_packs_29 ?_
  refine z_iload_n b dX12_packs_32 rfl rfl ?_
  refine y_iald (q0 := 3) (j := 1) (v := (ar S 2 1)) b (mw_3 cy a S) (by decide) rfl dX12_packs_33 ?_
  refine z_eqi h_a_2_1 ?_
  refine z_i2l (v := 3) b dX12_packs_34 (by decide) ?_
  refine z_lor (v := 98307) b dX12_packs_35 (by decide) ?_
  refine z_lstore_n (lv' := [(1, .long 98307), (3, .int 1), (4, .int 2), (0, .ref (a 0))]) b dX12_packs_36 rfl (by decide) rfl ?_
  refine z_lload_n b dX12_packs_37 rfl rfl ?_
  refine z_iconst (v := 1) b dX12_packs_38 (by decide) ?_
  refine z_lshl (v := 196614) b dX12_packs_39 (by decide) ?_
  refine z_aload_n b dX12_packs_40 rfl rfl ?_
  refine z_get (q0 := 0) (k9 := 3) (v := .ref (a 4)) b (mw_0 cy a S) rfl in_X12 (by decide) wf_X12_23 rfl dX12_packs_41 ?_
  refine z_iconst (v := 3) b dX12_packs_44 (by decide) ?_
  refine z_iload_n b dX12_packs_45 rfl rfl ?_
  refine z_imul (v := 3) b dX12_packs_46 (by decide) ?_
  refine z_iload_n b dX12_packs_47 rfl rfl ?_
  refine z_iconst (v := 0) b dX12_packs_48 (by decide) ?_
  refine z_calli b (z_runS (As := [.int 1, .int 0]) (st := [.int 3, .ref (a 4), .long 196614]) b (c_X12_other_4 S ) cf_X12_other wm_X12_160 ws_X12_other dX12_packs_49 rfl (Nat.le_of_ble_eq_true rfl) ⟨by decide, by decide, by decide, by decide⟩) (fun r1352 u1353 h1351 => ?_)
  obtain ⟨rfl, rfl⟩ := h1351
  refine z_iadd (v := 5) b dX12_packs_52 (by decide) ?_
  refine y_zald (q0 := 4) (j := 5) (v := (ar S 3 5)) b (mw_4 cy a S) (by decide) rfl dX12_packs_53 ?_
  refine z_eqi h_a_3_5 ?_
  refine z_if_eq_t (tgt := 61) b dX12_packs_54 (by decide) (by decide) ?_
  refine z_lconst (v := 0) b dX12_packs_61 (by decide) ?_
  refine z_lor (v := 196614) b dX12_packs_62 (by decide) ?_
  refine z_lstore_n (lv' := [(1, .long 196614), (3, .int 1), (4, .int 2), (0, .ref (a 0))]) b dX12_packs_63 rfl (by decide) rfl ?_
  refine z_iconst (v := 0) b dX12_packs_64 (by decide) ?_
  refine z_istore (lv' := [(4, .int 0), (1, .long 196614), (3, .int 1), (0, .ref (a 0))]) b dX12_packs_65 (by decide) rfl ?_
  refine z_iload b dX12_packs_67 rfl ?_
  refine z_iconst (v := 2) b dX12_packs_69 (by decide) ?_
  refine z_icmp_ge_f (tgt := 128) b dX12_packs_70 (by decide) (by decide) ?_
  refine z_lload_n b dX12_packs_73 rfl rfl ?_
  refine z_iconst (v := 3) b dX12_packs_74 (by decide) ?_
  refine z_lshl (v := 1572912) b dX12_packs_75 (by decide) ?_
  refine z_aload_n b dX12_packs_76 rfl rfl ?_
  refine z_get (q0 := 0) (k9 := 1) (v := .ref (a 2)) b (mw_0 cy a S) rfl in_X12 (by decide) wf_X12_17 rfl dX12_packs_77 ?_
  refine z_iconst (v := 3) b dX12_packs_80 (by decide) ?_
  refine z_iload_n b dX12_packs_81 rfl rfl ?_
  refine z_imul (v := 3) b dX12_packs_82 (by decide) ?_
  refine z_iload_n b dX12_packs_83 rfl rfl ?_
  refine z_iload b dX12_packs_84 rfl ?_
  refine z_calli b (z_runS (As := [.int 1, .int 0]) (st := [.int 3, .ref (a 2), .long 1572912]) b (c_X12_other_4 S ) cf_X12_other wm_X12_160 ws_X12_other dX12_packs_86 rfl (Nat.le_of_ble_eq_true rfl) ⟨by decide, by decide, by decide, by decide⟩) (fun r1355 u1356 h1354 => ?_)
  obtain ⟨rfl, rfl⟩ := h1354
  refine z_iadd (v := 5) b dX12_packs_89 (by decide) ?_
  refine y_iald (q0 := 2) (j := 5) (v := (ar S 1 5)) b (mw_2 cy a S) (by decide) rfl dX12_packs_90 ?_
  refine z_eqi h_a_1_5 ?_
  refine z_i2l (v := 0) b dX12_packs_91 (by decide) ?_
  refine z_lor (v := 1572912) b dX12_packs_92 (by decide) ?_
  refine z_lstore_n (lv' := [(1, .long 1572912), (4, .int 0), (3, .int 1), (0, .ref (a 0))]) b dX12_packs_93 rfl (by decide) rfl ?_
  refine z_lload_n b dX12_packs_94 rfl rfl ?_
  refine z_iconst (v := 1) b dX12_packs_95 (by decide) ?_
  refine z_lshl (v := 3145824) b dX12_packs_96 (by decide) ?_
  refine z_aload_n b dX12_packs_97 rfl rfl ?_
  refine z_get (q0 := 0) (k9 := 4) (v := .ref (a 5)) b (mw_0 cy a S) rfl in_X12 (by decide) wf_X12_27 rfl dX12_packs_98 ?_
  refine z_iconst (v := 3) b dX12_packs_101 (by decide) ?_
  refine z_iload_n b dX12_packs_102 rfl rfl ?_
  refine z_imul (v := 3) b dX12_packs_103 (by decide) ?_
  refine z_iload_n b dX12_packs_104 rfl rfl ?_
  refine z_iload b dX12_packs_105 rfl ?_
  refine z_calli b (z_runS (As := [.int 1, .int 0]) (st := [.int 3, .ref (a 5), .long 3145824]) b (c_X12_other_4 S ) cf_X12_other wm_X12_160 ws_X12_other dX12_packs_107 rfl (Nat.le_of_ble_eq_true rfl) ⟨by decide, by decide, by decide, by decide⟩) (fun r1358 u1359 h1357 => ?_)
  obtain ⟨rfl, rfl⟩ := h1357
  refine z_iadd (v := 5) b dX12_packs_110 (by decide) ?_
  refine y_zald (q0 := 5) (j := 5) (v := (ar S 4 5)) b (mw_5 cy a S) (by decide) rfl dX12_packs_111 ?_
  refine z_eqi h_a_4_5 ?_
  refine z_if_eq_t (tgt := 119) b dX12_packs_112 (by decide) (by decide) ?_
  refine z_lconst (v := 0) b dX12_packs_119 (by decide) ?_
  refine z_lor (v := 3145824) b dX12_packs_120 (by decide) ?_
  refine z_lstore_n (lv' := [(1, .long 3145824), (4, .int 0), (3, .int 1), (0, .ref (a 0))]) b dX12_packs_121 rfl (by decide) rfl ?_
  refine z_iinc (k9 := 1) (v := 1) (lv' := [(4, .int 1), (1, .long 3145824), (3, .int 1), (0, .ref (a 0))]) b dX12_packs_122 rfl (by decide) (by decide) rfl ?_
  refine z_goto (tgt := 67) b dX12_packs_125 (by decide) ?_
  refine z_iload b dX12_packs_67 rfl ?_
  refine z_iconst (v := 2) b dX12_packs_69 (by decide) ?_
  refine z_icmp_ge_f (tgt := 128) b dX12_packs_70 (by decide) (by decide) ?_
  refine z_lload_n b dX12_packs_73 rfl rfl ?_
  refine z_iconst (v := 3) b dX12_packs_74 (by decide) ?_
  refine z_lshl (v := 25166592) b dX12_packs_75 (by decide) ?_
  refine z_aload_n b dX12_packs_76 rfl rfl ?_
  refine z_get (q0 := 0) (k9 := 1) (v := .ref (a 2)) b (mw_0 cy a S) rfl in_X12 (by decide) wf_X12_17 rfl dX12_packs_77 ?_
  refine z_iconst (v := 3) b dX12_packs_80 (by decide) ?_
  refine z_iload_n b dX12_packs_81 rfl rfl ?_
  refine z_imul (v := 3) b dX12_packs_82 (by decide) ?_
  refine z_iload_n b dX12_packs_83 rfl rfl ?_
  refine z_iload b dX12_packs_84 rfl ?_
  refine z_calli b (z_runS (As := [.int 1, .int 1]) (st := [.int 3, .ref (a 2), .long 25166592]) b (c_X12_other_3 S ) cf_X12_other wm_X12_160 ws_X12_other dX12_packs_86 rfl (Nat.le_of_ble_eq_true rfl) ⟨by decide, by decide, by decide, by decide⟩) (fun r1361 u1362 h1360 => ?_)
  obtain ⟨rfl, rfl⟩ := h1360
  refine z_iadd (v := 3) b dX12_packs_89 (by decide) ?_
  refine y_iald (q0 := 2) (j := 3) (v := (ar S 1 3)) b (mw_2 cy a S) (by decide) rfl dX12_packs_90 ?_
  refine z_i2l b dX12_packs_91 rfl ?_
  refine z_lor b dX12_packs_92 rfl ?_
  refine z_lstore_n (lv' := [(1, .long (25166592 ||| ((ar S 1 3) : Int32).toInt64)), (4, .int 1), (3, .int 1), (0, .ref (a 0))]) b dX12_packs_93 rfl (by decide) rfl ?_
  refine z_lload_n b dX12_packs_94 rfl rfl ?_
  refine z_iconst (v := 1) b dX12_packs_95 (by decide) ?_
  refine z_lshl b dX12_packs_96 rfl ?_
  refine z_aload_n b dX12_packs_97 rfl rfl ?_
  refine z_get (q0 := 0) (k9 := 4) (v := .ref (a 5)) b (mw_0 cy a S) rfl in_X12 (by decide) wf_X12_27 rfl dX12_packs_98 ?_
  refine z_iconst (v := 3) b dX12_packs_101 (by decide) ?_
  refine z_iload_n b dX12_packs_102 rfl rfl ?_
  refine z_imul (v := 3) b dX12_packs_103 (by decide) ?_
  refine z_iload_n b dX12_packs_104 rfl rfl ?_
  refine z_iload b dX12_packs_105 rfl ?_
  refine z_calli b (z_runS (As := [.int 1, .int 1]) (st := [.int 3, .ref (a 5), .long ((25166592 ||| ((ar S 1 3) : Int32).toInt64) <<< ((1 : Int32).toInt64 &&& 63))]) b (c_X12_other_3 S ) cf_X12_other wm_X12_160 ws_X12_other dX12_packs_107 rfl (Nat.le_of_ble_eq_true rfl) ⟨by decide, by decide, by decide, by decide⟩) (fun r1364 u1365 h1363 => ?_)
  obtain ⟨rfl, rfl⟩ := h1363
  refine z_iadd (v := 3) b dX12_packs_110 (by decide) ?_
  refine y_zald (q0 := 5) (j := 3) (v := (ar S 4 3)) b (mw_5 cy a S) (by decide) rfl dX12_packs_111 ?_
  refine z_eqi h_a_4_3 ?_
  refine z_if_eq_t (tgt := 119) b dX12_packs_112 (by decide) (by decide) ?_
  refine z_lconst (v := 0) b dX12_packs_119 (by decide) ?_
  refine z_lor b dX12_packs_120 rfl ?_
  refine z_lstore_n (lv' := [(1, .long (((25166592 ||| ((ar S 1 3) : Int32).toInt64) <<< ((1 : Int32).toInt64 &&& 63)) ||| 0)), (4, .int 1), (3, .int 1), (0, .ref (a 0))]) b dX12_packs_121 rfl (by decide) rfl ?_
  refine z_iinc (k9 := 1) (v := 2) (lv' := [(4, .int 2), (1, .long (((25166592 ||| ((ar S 1 3) : Int32).toInt64) <<< ((1 : Int32).toInt64 &&& 63)) ||| 0)), (3, .int 1), (0, .ref (a 0))]) b dX12_packs_122 rfl (by decide) (by decide) rfl ?_
  refine z_goto (tgt := 67) b dX12_packs_125 (by decide) ?_
  refine z_iload b dX12_packs_67 rfl ?_
  refine z_iconst (v := 2) b dX12_packs_69 (by decide) ?_
  refine z_icmp_ge_t (tgt := 128) b dX12_packs_70 (by decide) (by decide) ?_
  refine z_iinc (k9 := 2) (v := 2) (lv' := [(3, .int 2), (4, .int 2), (1, .long (((25166592 ||| ((ar S 1 3) : Int32).toInt64) <<< ((1 : Int32).toInt64 &&& 63)) ||| 0)), (0, .ref (a 0))]) b dX12_packs_128 rfl (by decide) (by decide) rfl ?_
  refine z_goto (tgt := 8) b dX12_packs_131 (by decide) ?_
  refine z_iload_n b dX12_packs_8 rfl rfl ?_
  refine z_iconst (v := 3) b dX12_packs_9 (by decide) ?_
  refine z_icmp_ge_f (tgt := 134) b dX12_packs_10 (by decide) (by decide) ?_
  refine z_lload_n b dX12_packs_13 rfl rfl ?_
  refine z_iconst (v := 4) b dX12_packs_14 (by decide) ?_
  refine z_lshl b dX12_packs_15 rfl ?_
  refine z_aload_n b dX12_packs_16 rfl rfl ?_
  refine z_get (q0 := 0) (k9 := 0) (v := .ref (a 1)) b (mw_0 cy a S) rfl in_X12 (by decide) wf_X12_13 rfl dX12_packs_17 ?_
  refine z_iload_n b dX12_packs_20 rfl rfl ?_
  refine y_iald (q0 := 1) (j := 2) (v := (ar S 0 2)) b (mw_1 cy a S) (by decide) rfl dX12_packs_21 ?_
  refine z_eqi h_a_0_2 ?_
  refine z_i2l (v := 0) b dX12_packs_22 (by decide) ?_
  refine z_lor b dX12_packs_23 rfl ?_
  refine z_lstore_n (lv' := [(1, .long (((((25166592 ||| ((ar S 1 3) : Int32).toInt64) <<< ((1 : Int32).toInt64 &&& 63)) ||| 0) <<< ((4 : Int32).toInt64 &&& 63)) ||| 0)), (3, .int 2), (4, .int 2), (0, .ref (a 0))]) b dX12_packs_24 rfl (by decide) rfl ?_
  refine z_lload_n b dX12_packs_25 rfl rfl ?_
  refine z_iconst (v := 2) b dX12_packs_26 (by decide) ?_
  refine z_lshl b dX12_packs_27 rfl ?_
  refine z_aload_n b dX12_packs_28 rfl rfl ?_
  refine z_get (q0 := 0) (k9 := 2) (v := .ref (a 3)) b (mw_0 cy a S) rfl in_X12 (by decide) wf_X12_20 rfl dX12_packs_29 ?_
  refine z_iload_n b dX12_packs_32 rfl rfl ?_
  refine y_iald (q0 := 3) (j := 2) (v := (ar S 2 2)) b (mw_3 cy a S) (by decide) rfl dX12_packs_33 ?_
  refine z_eqi h_a_2_2 ?_
  refine z_i2l (v := 3) b dX12_packs_34 (by decide) ?_
  refine z_lor b dX12_packs_35 rfl ?_
  refine z_lstore_n (lv' := [(1, .long (((((((25166592 ||| ((ar S 1 3) : Int32).toInt64) <<< ((1 : Int32).toInt64 &&& 63)) ||| 0) <<< ((4 : Int32).toInt64 &&& 63)) ||| 0) <<< ((2 : Int32).toInt64 &&& 63)) ||| 3)), (3, .int 2), (4, .int 2), (0, .ref (a 0))]) b dX12_packs_36 rfl (by decide) rfl ?_
  refine z_lload_n b dX12_packs_37 rfl rfl ?_
  exact k

set_option maxHeartbeats 4000000 in
set_option maxRecDepth 100000 in
theorem c_X12_packs_10 {l : Launch} {D : va_G} {cy : Nat → ClassId} {T0 tB tE : Nat} {a : Nat → Nat} (S : GS)  (h_i_0 : fi S 0 = 0) (h_a_0_0 : ar S 0 0 = 0) (h_a_2_0 : ar S 2 0 = 3) (h_a_3_1 : ar S 3 1 = 0) (h_a_1_1 : ar S 1 1 = 0) (h_a_4_1 : ar S 4 1 = 0) (h_a_1_2 : ar S 1 2 = 0) (h_a_4_2 : ar S 4 2 = 0) (h_a_0_1 : ar S 0 1 = 0) (h_a_2_1 : ar S 2 1 = 3) (h_a_3_5 : ar S 3 5 = 0) (h_a_1_5 : ar S 1 5 = 0) (h_a_4_5 : ar S 4 5 = 0) (h_a_4_3 : ar S 4 3 = 0) (h_a_0_2 : ar S 0 2 = 0) (h_a_2_2 : ar S 2 2 = 3) (h_a_3_6 : ar S 3 6 = 0) (h_a_1_6 : ar S 1 6 = 0) (h_a_4_6 : ar S 4 6 = 0) (h_a_1_7 : ar S 1 7 = 0) (h_a_4_7 : ar S 4 7 = 0) : Ct l D cy T0 tB tE yX12_packs cX12_packs 5 (some .long) 1 21 0 0 (mw cy a S) [.ref (a 0)] (QL D (U := GS) (fun r u => (((((((((((((((((25166592 ||| ((ar S 1 3) : Int32).toInt64) <<< ((1 : Int32).toInt64 &&& 63)) ||| 0) <<< ((4 : Int32).toInt64 &&& 63)) ||| 0) <<< ((2 : Int32).toInt64 &&& 63)) ||| 3) <<< ((1 : Int32).toInt64 &&& 63)) ||| 0) <<< ((3 : Int32).toInt64 &&& 63)) ||| 0) <<< ((1 : Int32).toInt64 &&& 63)) ||| 0) <<< ((3 : Int32).toInt64 &&& 63)) ||| 0) <<< ((1 : Int32).toInt64 &&& 63)) ||| 0) = r ∧ S = u) (mw cy a)) := by
  refine Ct.ofZ RX12 "packs" [(0, .ref (a 0))] rfl rfl rfl rfl (Nat.le_of_ble_eq_true rfl) ?_
  intro p e R s m args below meth c A b
  refine ch_X12_packs_22 S  h_a_0_0 h_a_1_1 h_a_1_2 h_a_2_0 h_a_3_1 h_a_4_1 h_a_4_2 h_i_0  b ?_
  refine ch_X12_packs_23 S  h_a_0_1 h_a_0_2 h_a_1_5 h_a_2_1 h_a_2_2 h_a_3_5 h_a_4_3 h_a_4_5  b ?_
  refine z_iconst (v := 1) b dX12_packs_38 (by decide) ?_
  refine z_lshl b dX12_packs_39 rfl ?_
  refine z_aload_n b dX12_packs_40 rfl rfl ?_
  refine z_get (q0 := 0) (k9 := 3) (v := .ref (a 4)) b (mw_0 cy a S) rfl in_X12 (by decide) wf_X12_23 rfl dX12_packs_41 ?_
  refine z_iconst (v := 3) b dX12_packs_44 (by decide) ?_
  refine z_iload_n b dX12_packs_45 rfl rfl ?_
  refine z_imul (v := 6) b dX12_packs_46 (by decide) ?_
  refine z_iload_n b dX12_packs_47 rfl rfl ?_
  refine z_iconst (v := 0) b dX12_packs_48 (by decide) ?_
  refine z_calli b (z_runS (As := [.int 2, .int 0]) (st := [.int 6, .ref (a 4), .long ((((((((25166592 ||| ((ar S 1 3) : Int32).toInt64) <<< ((1 : Int32).toInt64 &&& 63)) ||| 0) <<< ((4 : Int32).toInt64 &&& 63)) ||| 0) <<< ((2 : Int32).toInt64 &&& 63)) ||| 3) <<< ((1 : Int32).toInt64 &&& 63))]) b (c_X12_other_2 S ) cf_X12_other wm_X12_160 ws_X12_other dX12_packs_49 rfl (Nat.le_of_ble_eq_true rfl) ⟨by decide, by decide, by decide, by decide⟩) (fun r1367 u1368 h1366 => ?_)
  obtain ⟨rfl, rfl⟩ := h1366
  refine z_iadd (v := 6) b dX12_packs_52 (by decide) ?_
  refine y_zald (q0 := 4) (j := 6) (v := (ar S 3 6)) b (mw_4 cy a S) (by decide) rfl dX12_packs_53 ?_
  refine z_eqi h_a_3_6 ?_
  refine z_if_eq_t (tgt := 61) b dX12_packs_54 (by decide) (by decide) ?_
  refine z_lconst (v := 0) b dX12_packs_61 (by decide) ?_
  refine z_lor b dX12_packs_62 rfl ?_
  refine z_lstore_n (lv' := [(1, .long (((((((((25166592 ||| ((ar S 1 3) : Int32).toInt64) <<< ((1 : Int32).toInt64 &&& 63)) ||| 0) <<< ((4 : Int32).toInt64 &&& 63)) ||| 0) <<< ((2 : Int32).toInt64 &&& 63)) ||| 3) <<< ((1 : Int32).toInt64 &&& 63)) ||| 0)), (3, .int 2), (4, .int 2), (0, .ref (a 0))]) b dX12_packs_63 rfl (by decide) rfl ?_
  refine z_iconst (v := 0) b dX12_packs_64 (by decide) ?_
  refine z_istore (lv' := [(4, .int 0), (1, .long (((((((((25166592 ||| ((ar S 1 3) : Int32).toInt64) <<< ((1 : Int32).toInt64 &&& 63)) ||| 0) <<< ((4 : Int32).toInt64 &&& 63)) ||| 0) <<< ((2 : Int32).toInt64 &&& 63)) ||| 3) <<< ((1 : Int32).toInt64 &&& 63)) ||| 0)), (3, .int 2), (0, .ref (a 0))]) b dX12_packs_65 (by decide) rfl ?_
  refine z_iload b dX12_packs_67 rfl ?_
  refine z_iconst (v := 2) b dX12_packs_69 (by decide) ?_
  refine z_icmp_ge_f (tgt := 128) b dX12_packs_70 (by decide) (by decide) ?_
  refine z_lload_n b dX12_packs_73 rfl rfl ?_
  refine z_iconst (v := 3) b dX12_packs_74 (by decide) ?_
  refine z_lshl b dX12_packs_75 rfl ?_
  refine z_aload_n b dX12_packs_76 rfl rfl ?_
  refine z_get (q0 := 0) (k9 := 1) (v := .ref (a 2)) b (mw_0 cy a S) rfl in_X12 (by decide) wf_X12_17 rfl dX12_packs_77 ?_
  refine z_iconst (v := 3) b dX12_packs_80 (by decide) ?_
  refine z_iload_n b dX12_packs_81 rfl rfl ?_
  refine z_imul (v := 6) b dX12_packs_82 (by decide) ?_
  refine z_iload_n b dX12_packs_83 rfl rfl ?_
  refine z_iload b dX12_packs_84 rfl ?_
  refine z_calli b (z_runS (As := [.int 2, .int 0]) (st := [.int 6, .ref (a 2), .long ((((((((((25166592 ||| ((ar S 1 3) : Int32).toInt64) <<< ((1 : Int32).toInt64 &&& 63)) ||| 0) <<< ((4 : Int32).toInt64 &&& 63)) ||| 0) <<< ((2 : Int32).toInt64 &&& 63)) ||| 3) <<< ((1 : Int32).toInt64 &&& 63)) ||| 0) <<< ((3 : Int32).toInt64 &&& 63))]) b (c_X12_other_2 S ) cf_X12_other wm_X12_160 ws_X12_other dX12_packs_86 rfl (Nat.le_of_ble_eq_true rfl) ⟨by decide, by decide, by decide, by decide⟩) (fun r1370 u1371 h1369 => ?_)
  obtain ⟨rfl, rfl⟩ := h1369
  refine z_iadd (v := 6) b dX12_packs_89 (by decide) ?_
  refine y_iald (q0 := 2) (j := 6) (v := (ar S 1 6)) b (mw_2 cy a S) (by decide) rfl dX12_packs_90 ?_
  refine z_eqi h_a_1_6 ?_
  refine z_i2l (v := 0) b dX12_packs_91 (by decide) ?_
  refine z_lor b dX12_packs_92 rfl ?_
  refine z_lstore_n (lv' := [(1, .long (((((((((((25166592 ||| ((ar S 1 3) : Int32).toInt64) <<< ((1 : Int32).toInt64 &&& 63)) ||| 0) <<< ((4 : Int32).toInt64 &&& 63)) ||| 0) <<< ((2 : Int32).toInt64 &&& 63)) ||| 3) <<< ((1 : Int32).toInt64 &&& 63)) ||| 0) <<< ((3 : Int32).toInt64 &&& 63)) ||| 0)), (4, .int 0), (3, .int 2), (0, .ref (a 0))]) b dX12_packs_93 rfl (by decide) rfl ?_
  refine z_lload_n b dX12_packs_94 rfl rfl ?_
  refine z_iconst (v := 1) b dX12_packs_95 (by decide) ?_
  refine z_lshl b dX12_packs_96 rfl ?_
  refine z_aload_n b dX12_packs_97 rfl rfl ?_
  refine z_get (q0 := 0) (k9 := 4) (v := .ref (a 5)) b (mw_0 cy a S) rfl in_X12 (by decide) wf_X12_27 rfl dX12_packs_98 ?_
  refine z_iconst (v := 3) b dX12_packs_101 (by decide) ?_
  refine z_iload_n b dX12_packs_102 rfl rfl ?_
  refine z_imul (v := 6) b dX12_packs_103 (by decide) ?_
  refine z_iload_n b dX12_packs_104 rfl rfl ?_
  refine z_iload b dX12_packs_105 rfl ?_
  refine z_calli b (z_runS (As := [.int 2, .int 0]) (st := [.int 6, .ref (a 5), .long ((((((((((((25166592 ||| ((ar S 1 3) : Int32).toInt64) <<< ((1 : Int32).toInt64 &&& 63)) ||| 0) <<< ((4 : Int32).toInt64 &&& 63)) ||| 0) <<< ((2 : Int32).toInt64 &&& 63)) ||| 3) <<< ((1 : Int32).toInt64 &&& 63)) ||| 0) <<< ((3 : Int32).toInt64 &&& 63)) ||| 0) <<< ((1 : Int32).toInt64 &&& 63))]) b (c_X12_other_2 S ) cf_X12_other wm_X12_160 ws_X12_other dX12_packs_107 rfl (Nat.le_of_ble_eq_true rfl) ⟨by decide, by decide, by decide, by decide⟩) (fun r1373 u1374 h1372 => ?_)
  obtain ⟨rfl, rfl⟩ := h1372
  refine z_iadd (v := 6) b dX12_packs_110 (by decide) ?_
  refine y_zald (q0 := 5) (j := 6) (v := (ar S 4 6)) b (mw_5 cy a S) (by decide) rfl dX12_packs_111 ?_
  refine z_eqi h_a_4_6 ?_
  refine z_if_eq_t (tgt := 119) b dX12_packs_112 (by decide) (by decide) ?_
  refine z_lconst (v := 0) b dX12_packs_119 (by decide) ?_
  refine z_lor b dX12_packs_120 rfl ?_
  refine z_lstore_n (lv' := [(1, .long (((((((((((((25166592 ||| ((ar S 1 3) : Int32).toInt64) <<< ((1 : Int32).toInt64 &&& 63)) ||| 0) <<< ((4 : Int32).toInt64 &&& 63)) ||| 0) <<< ((2 : Int32).toInt64 &&& 63)) ||| 3) <<< ((1 : Int32).toInt64 &&& 63)) ||| 0) <<< ((3 : Int32).toInt64 &&& 63)) ||| 0) <<< ((1 : Int32).toInt64 &&& 63)) ||| 0)), (4, .int 0), (3, .int 2), (0, .ref (a 0))]) b dX12_packs_121 rfl (by decide) rfl ?_
  refine z_iinc (k9 := 1) (v := 1) (lv' := [(4, .int 1), (1, .long (((((((((((((25166592 ||| ((ar S 1 3) : Int32).toInt64) <<< ((1 : Int32).toInt64 &&& 63)) ||| 0) <<< ((4 : Int32).toInt64 &&& 63)) ||| 0) <<< ((2 : Int32).toInt64 &&& 63)) ||| 3) <<< ((1 : Int32).toInt64 &&& 63)) ||| 0) <<< ((3 : Int32).toInt64 &&& 63)) ||| 0) <<< ((1 : Int32).toInt64 &&& 63)) ||| 0)), (3, .int 2), (0, .ref (a 0))]) b dX12_packs_122 rfl (by decide) (by decide) rfl ?_
  refine z_goto (tgt := 67) b dX12_packs_125 (by decide) ?_
  refine z_iload b dX12_packs_67 rfl ?_
  refine z_iconst (v := 2) b dX12_packs_69 (by decide) ?_
  refine z_icmp_ge_f (tgt := 128) b dX12_packs_70 (by decide) (by decide) ?_
  refine z_lload_n b dX12_packs_73 rfl rfl ?_
  refine z_iconst (v := 3) b dX12_packs_74 (by decide) ?_
  refine z_lshl b dX12_packs_75 rfl ?_
  refine z_aload_n b dX12_packs_76 rfl rfl ?_
  refine z_get (q0 := 0) (k9 := 1) (v := .ref (a 2)) b (mw_0 cy a S) rfl in_X12 (by decide) wf_X12_17 rfl dX12_packs_77 ?_
  refine z_iconst (v := 3) b dX12_packs_80 (by decide) ?_
  refine z_iload_n b dX12_packs_81 rfl rfl ?_
  refine z_imul (v := 6) b dX12_packs_82 (by decide) ?_
  refine z_iload_n b dX12_packs_83 rfl rfl ?_
  refine z_iload b dX12_packs_84 rfl ?_
  refine z_calli b (z_runS (As := [.int 2, .int 1]) (st := [.int 6, .ref (a 2), .long ((((((((((((((25166592 ||| ((ar S 1 3) : Int32).toInt64) <<< ((1 : Int32).toInt64 &&& 63)) ||| 0) <<< ((4 : Int32).toInt64 &&& 63)) ||| 0) <<< ((2 : Int32).toInt64 &&& 63)) ||| 3) <<< ((1 : Int32).toInt64 &&& 63)) ||| 0) <<< ((3 : Int32).toInt64 &&& 63)) ||| 0) <<< ((1 : Int32).toInt64 &&& 63)) ||| 0) <<< ((3 : Int32).toInt64 &&& 63))]) b (c_X12_other S ) cf_X12_other wm_X12_160 ws_X12_other dX12_packs_86 rfl (Nat.le_of_ble_eq_true rfl) ⟨by decide, by decide, by decide, by decide⟩) (fun r1376 u1377 h1375 => ?_)
  obtain ⟨rfl, rfl⟩ := h1375
  refine z_iadd (v := 7) b dX12_packs_89 (by decide) ?_
  refine y_iald (q0 := 2) (j := 7) (v := (ar S 1 7)) b (mw_2 cy a S) (by decide) rfl dX12_packs_90 ?_
  refine z_eqi h_a_1_7 ?_
  refine z_i2l (v := 0) b dX12_packs_91 (by decide) ?_
  refine z_lor b dX12_packs_92 rfl ?_
  refine z_lstore_n (lv' := [(1, .long (((((((((((((((25166592 ||| ((ar S 1 3) : Int32).toInt64) <<< ((1 : Int32).toInt64 &&& 63)) ||| 0) <<< ((4 : Int32).toInt64 &&& 63)) ||| 0) <<< ((2 : Int32).toInt64 &&& 63)) ||| 3) <<< ((1 : Int32).toInt64 &&& 63)) ||| 0) <<< ((3 : Int32).toInt64 &&& 63)) ||| 0) <<< ((1 : Int32).toInt64 &&& 63)) ||| 0) <<< ((3 : Int32).toInt64 &&& 63)) ||| 0)), (4, .int 1), (3, .int 2), (0, .ref (a 0))]) b dX12_packs_93 rfl (by decide) rfl ?_
  refine z_lload_n b dX12_packs_94 rfl rfl ?_
  refine z_iconst (v := 1) b dX12_packs_95 (by decide) ?_
  refine z_lshl b dX12_packs_96 rfl ?_
  refine z_aload_n b dX12_packs_97 rfl rfl ?_
  refine z_get (q0 := 0) (k9 := 4) (v := .ref (a 5)) b (mw_0 cy a S) rfl in_X12 (by decide) wf_X12_27 rfl dX12_packs_98 ?_
  refine z_iconst (v := 3) b dX12_packs_101 (by decide) ?_
  refine z_iload_n b dX12_packs_102 rfl rfl ?_
  refine z_imul (v := 6) b dX12_packs_103 (by decide) ?_
  refine z_iload_n b dX12_packs_104 rfl rfl ?_
  refine z_iload b dX12_packs_105 rfl ?_
  refine z_calli b (z_runS (As := [.int 2, .int 1]) (st := [.int 6, .ref (a 5), .long ((((((((((((((((25166592 ||| ((ar S 1 3) : Int32).toInt64) <<< ((1 : Int32).toInt64 &&& 63)) ||| 0) <<< ((4 : Int32).toInt64 &&& 63)) ||| 0) <<< ((2 : Int32).toInt64 &&& 63)) ||| 3) <<< ((1 : Int32).toInt64 &&& 63)) ||| 0) <<< ((3 : Int32).toInt64 &&& 63)) ||| 0) <<< ((1 : Int32).toInt64 &&& 63)) ||| 0) <<< ((3 : Int32).toInt64 &&& 63)) ||| 0) <<< ((1 : Int32).toInt64 &&& 63))]) b (c_X12_other S ) cf_X12_other wm_X12_160 ws_X12_other dX12_packs_107 rfl (Nat.le_of_ble_eq_true rfl) ⟨by decide, by decide, by decide, by decide⟩) (fun r1379 u1380 h1378 => ?_)
  obtain ⟨rfl, rfl⟩ := h1378
  refine z_iadd (v := 7) b dX12_packs_110 (by decide) ?_
  refine y_zald (q0 := 5) (j := 7) (v := (ar S 4 7)) b (mw_5 cy a S) (by decide) rfl dX12_packs_111 ?_
  refine z_eqi h_a_4_7 ?_
  refine z_if_eq_t (tgt := 119) b dX12_packs_112 (by decide) (by decide) ?_
  refine z_lconst (v := 0) b dX12_packs_119 (by decide) ?_
  refine z_lor b dX12_packs_120 rfl ?_
  refine z_lstore_n (lv' := [(1, .long (((((((((((((((((25166592 ||| ((ar S 1 3) : Int32).toInt64) <<< ((1 : Int32).toInt64 &&& 63)) ||| 0) <<< ((4 : Int32).toInt64 &&& 63)) ||| 0) <<< ((2 : Int32).toInt64 &&& 63)) ||| 3) <<< ((1 : Int32).toInt64 &&& 63)) ||| 0) <<< ((3 : Int32).toInt64 &&& 63)) ||| 0) <<< ((1 : Int32).toInt64 &&& 63)) ||| 0) <<< ((3 : Int32).toInt64 &&& 63)) ||| 0) <<< ((1 : Int32).toInt64 &&& 63)) ||| 0)), (4, .int 1), (3, .int 2), (0, .ref (a 0))]) b dX12_packs_121 rfl (by decide) rfl ?_
  refine z_iinc (k9 := 1) (v := 2) (lv' := [(4, .int 2), (1, .long (((((((((((((((((25166592 ||| ((ar S 1 3) : Int32).toInt64) <<< ((1 : Int32).toInt64 &&& 63)) ||| 0) <<< ((4 : Int32).toInt64 &&& 63)) ||| 0) <<< ((2 : Int32).toInt64 &&& 63)) ||| 3) <<< ((1 : Int32).toInt64 &&& 63)) ||| 0) <<< ((3 : Int32).toInt64 &&& 63)) ||| 0) <<< ((1 : Int32).toInt64 &&& 63)) ||| 0) <<< ((3 : Int32).toInt64 &&& 63)) ||| 0) <<< ((1 : Int32).toInt64 &&& 63)) ||| 0)), (3, .int 2), (0, .ref (a 0))]) b dX12_packs_122 rfl (by decide) (by decide) rfl ?_
  refine z_goto (tgt := 67) b dX12_packs_125 (by decide) ?_
  refine z_iload b dX12_packs_67 rfl ?_
  refine z_iconst (v := 2) b dX12_packs_69 (by decide) ?_
  refine z_icmp_ge_t (tgt := 128) b dX12_packs_70 (by decide) (by decide) ?_
  refine z_iinc (k9 := 2) (v := 3) (lv' := [(3, .int 3), (4, .int 2), (1, .long (((((((((((((((((25166592 ||| ((ar S 1 3) : Int32).toInt64) <<< ((1 : Int32).toInt64 &&& 63)) ||| 0) <<< ((4 : Int32).toInt64 &&& 63)) ||| 0) <<< ((2 : Int32).toInt64 &&& 63)) ||| 3) <<< ((1 : Int32).toInt64 &&& 63)) ||| 0) <<< ((3 : Int32).toInt64 &&& 63)) ||| 0) <<< ((1 : Int32).toInt64 &&& 63)) ||| 0) <<< ((3 : Int32).toInt64 &&& 63)) ||| 0) <<< ((1 : Int32).toInt64 &&& 63)) ||| 0)), (0, .ref (a 0))]) b dX12_packs_128 rfl (by decide) (by decide) rfl ?_
  refine z_goto (tgt := 8) b dX12_packs_131 (by decide) ?_
  refine z_iload_n b dX12_packs_8 rfl rfl ?_
  refine z_iconst (v := 3) b dX12_packs_9 (by decide) ?_
  refine z_icmp_ge_t (tgt := 134) b dX12_packs_10 (by decide) (by decide) ?_
  refine z_lload_n b dX12_packs_134 rfl rfl ?_
  exact z_lret (u := S) b rfl dX12_packs_135 ⟨rfl, rfl⟩ rfl (by decide) (by decide)

set_option maxHeartbeats 4000000 in
set_option maxRecDepth 100000 in
theorem c_X12_told_10 {l : Launch} {D : va_G} {cy : Nat → ClassId} {T0 tB tE : Nat} {a : Nat → Nat} (S : GS)  (h_i_0 : fi S 0 = 0) (h_a_0_0 : ar S 0 0 = 0) (h_a_2_0 : ar S 2 0 = 3) (h_a_3_1 : ar S 3 1 = 0) (h_a_1_1 : ar S 1 1 = 0) (h_a_4_1 : ar S 4 1 = 0) (h_a_1_2 : ar S 1 2 = 0) (h_a_4_2 : ar S 4 2 = 0) (h_a_0_1 : ar S 0 1 = 0) (h_a_2_1 : ar S 2 1 = 3) (h_a_3_5 : ar S 3 5 = 0) (h_a_1_5 : ar S 1 5 = 0) (h_a_4_5 : ar S 4 5 = 0) (h_a_4_3 : ar S 4 3 = 0) (h_a_0_2 : ar S 0 2 = 0) (h_a_2_2 : ar S 2 2 = 3) (h_a_3_6 : ar S 3 6 = 0) (h_a_1_6 : ar S 1 6 = 0) (h_a_4_6 : ar S 4 6 = 0) (h_a_1_7 : ar S 1 7 = 0) (h_a_4_7 : ar S 4 7 = 0) : Ct l D cy T0 tB tE yX12_told cX12_told 1 (some .boolean) 2 45 0 0 (mw cy a S) [.ref (a 0)] (QI D (U := GS) (fun r u => 1 = r ∧ sl S 0 (((((((((((((((((25166592 ||| ((ar S 1 3) : Int32).toInt64) <<< ((1 : Int32).toInt64 &&& 63)) ||| 0) <<< ((4 : Int32).toInt64 &&& 63)) ||| 0) <<< ((2 : Int32).toInt64 &&& 63)) ||| 3) <<< ((1 : Int32).toInt64 &&& 63)) ||| 0) <<< ((3 : Int32).toInt64 &&& 63)) ||| 0) <<< ((1 : Int32).toInt64 &&& 63)) ||| 0) <<< ((3 : Int32).toInt64 &&& 63)) ||| 0) <<< ((1 : Int32).toInt64 &&& 63)) ||| 0) = u) (mw cy a)) := by
  refine Ct.ofZ RX12 "told" [(0, .ref (a 0))] rfl rfl rfl rfl (Nat.le_of_ble_eq_true rfl) ?_
  intro p e R s m args below meth c A b
  refine z_aload_n b dX12_told_0 rfl rfl ?_
  refine z_aload_n b dX12_told_1 rfl rfl ?_
  refine z_calll b (z_runV (q0 := 0) (As := []) (st := [.ref (a 0)]) b (c_X12_packs_10 S h_i_0 h_a_0_0 h_a_2_0 h_a_3_1 h_a_1_1 h_a_4_1 h_a_1_2 h_a_4_2 h_a_0_1 h_a_2_1 h_a_3_5 h_a_1_5 h_a_4_5 h_a_4_3 h_a_0_2 h_a_2_2 h_a_3_6 h_a_1_6 h_a_4_6 h_a_1_7 h_a_4_7) cf_X12_packs (mw_0 cy a S) rfl wm_X12_149 wi_X12_packs ws_X12_packs dX12_told_2 rfl (Nat.le_of_ble_eq_true rfl) ⟨by decide, by decide, by decide, by decide⟩) (fun r1382 u1383 h1381 => ?_)
  obtain ⟨rfl, rfl⟩ := h1381
  refine z_put (q0 := 0) (k9 := 6) tyX12 b (mw_0 cy a S) rfl in_X12 tyX12_ok nmX12 (by decide) wf_X12_153 rfl rfl rfl rfl (Nat.le_of_ble_eq_true rfl) dX12_told_5 (mwp_0_6 cy a S (((((((((((((((((25166592 ||| ((ar S 1 3) : Int32).toInt64) <<< ((1 : Int32).toInt64 &&& 63)) ||| 0) <<< ((4 : Int32).toInt64 &&& 63)) ||| 0) <<< ((2 : Int32).toInt64 &&& 63)) ||| 3) <<< ((1 : Int32).toInt64 &&& 63)) ||| 0) <<< ((3 : Int32).toInt64 &&& 63)) ||| 0) <<< ((1 : Int32).toInt64 &&& 63)) ||| 0) <<< ((3 : Int32).toInt64 &&& 63)) ||| 0) <<< ((1 : Int32).toInt64 &&& 63)) ||| 0)) ?_
  refine z_iconst (v := 1) b dX12_told_8 (by decide) ?_
  exact z_zret (u := (sl S 0 (((((((((((((((((25166592 ||| ((ar S 1 3) : Int32).toInt64) <<< ((1 : Int32).toInt64 &&& 63)) ||| 0) <<< ((4 : Int32).toInt64 &&& 63)) ||| 0) <<< ((2 : Int32).toInt64 &&& 63)) ||| 3) <<< ((1 : Int32).toInt64 &&& 63)) ||| 0) <<< ((3 : Int32).toInt64 &&& 63)) ||| 0) <<< ((1 : Int32).toInt64 &&& 63)) ||| 0) <<< ((3 : Int32).toInt64 &&& 63)) ||| 0) <<< ((1 : Int32).toInt64 &&& 63)) ||| 0))) b rfl (by decide) dX12_told_9 ⟨rfl, rfl⟩ rfl (by decide) (by decide)

set_option maxHeartbeats 4000000 in
set_option maxRecDepth 100000 in
theorem c_X12_debt_19 {l : Launch} {D : va_G} {cy : Nat → ClassId} {T0 tB tE : Nat} {a : Nat → Nat} (S : GS) (p0 : Int32) (h_l_0 : fl S 0 = 1649317774848) (h_a_4_7 : ar S 4 7 = 0) (h_a_1_7 : ar S 1 7 = 0) (h_a_4_6 : ar S 4 6 = 0) (h_a_1_6 : ar S 1 6 = 0) (h_a_3_6 : ar S 3 6 = 0) (h_a_3_2 : ar S 3 2 = 0) (h_a_2_2 : ar S 2 2 = 3) (h_a_0_2 : ar S 0 2 = 0) (h_a_4_3 : ar S 4 3 = 0) (h_a_1_3 : ar S 1 3 = 0) (h_a_4_5 : ar S 4 5 = 0) (h_a_1_5 : ar S 1 5 = 0) (h_a_3_5 : ar S 3 5 = 0) (h_a_3_7 : ar S 3 7 = 0) (h_a_2_1 : ar S 2 1 = 3) (h_a_0_1 : ar S 0 1 = 0) (h_a_4_2 : ar S 4 2 = 0) (h_a_1_2 : ar S 1 2 = 0) (h_a_4_1 : ar S 4 1 = 0) (h_a_1_1 : ar S 1 1 = 0) (h_a_3_1 : ar S 3 1 = 0) (h_a_3_3 : ar S 3 3 = 0) (h_a_2_0 : ar S 2 0 = 3) (h_a_0_0 : ar S 0 0 = 0) (h_i_0 : fi S 0 = 0) (hr_p0 : 0 ≤ p0.toInt ∧ p0.toInt ≤ 7) : Ct l D cy T0 tB tE yX12_debt cX12_debt 4 (some .boolean) 3 65 0 0 (mw cy a S) [.ref (a 0), .int 1, .int 0, .int p0] (QI D (U := GS) (fun r u => (((((p0.toInt < 0)) ∨ ((0 ≤ p0.toInt) ∧ (7 < p0.toInt)))) ∧ 0 = r ∧ S = u) ∨ ((((0 ≤ p0.toInt) ∧ (p0.toInt ≤ 7))) ∧ 1 = r ∧ sl (su S 1 3 p0) 0 (((((((((((((((((25166592 ||| ((ar (su S 1 3 p0) 1 3) : Int32).toInt64) <<< ((1 : Int32).toInt64 &&& 63)) ||| 0) <<< ((4 : Int32).toInt64 &&& 63)) ||| 0) <<< ((2 : Int32).toInt64 &&& 63)) ||| 3) <<< ((1 : Int32).toInt64 &&& 63)) ||| 0) <<< ((3 : Int32).toInt64 &&& 63)) ||| 0) <<< ((1 : Int32).toInt64 &&& 63)) ||| 0) <<< ((3 : Int32).toInt64 &&& 63)) ||| 0) <<< ((1 : Int32).toInt64 &&& 63)) ||| 0) = u)) (mw cy a)) := by
  refine Ct.ofZ RX12 "debt" [(0, .ref (a 0)), (1, .int 1), (2, .int 0), (3, .int p0)] rfl rfl rfl rfl (Nat.le_of_ble_eq_true rfl) ?_
  intro p e R s m args below meth c A b
  refine z_iload_n b dX12_debt_0 rfl rfl ?_
  refine z_calli b (z_runS (As := [.int 1]) (st := []) b (c_X12_isOne_3 S ) cf_X12_isOne wm_X12_170 ws_X12_isOne dX12_debt_1 rfl (Nat.le_of_ble_eq_true rfl) ⟨by decide, by decide, by decide, by decide⟩) (fun r1323 u1324 h1322 => ?_)
  obtain ⟨rfl, rfl⟩ := h1322
  refine z_if_eq_f (tgt := 29) b dX12_debt_4 (by decide) (by decide) ?_
  refine z_iload_n b dX12_debt_7 rfl rfl ?_
  refine z_calli b (z_runS (As := [.int 0]) (st := []) b (c_X12_isOne_2 S ) cf_X12_isOne wm_X12_170 ws_X12_isOne dX12_debt_8 rfl (Nat.le_of_ble_eq_true rfl) ⟨by decide, by decide, by decide, by decide⟩) (fun r1326 u1327 h1325 => ?_)
  obtain ⟨rfl, rfl⟩ := h1325
  refine z_if_eq_f (tgt := 29) b dX12_debt_11 (by decide) (by decide) ?_
  refine z_iload_n b dX12_debt_14 rfl rfl ?_
  refine z_iload_n b dX12_debt_15 rfl rfl ?_
  refine z_icmp_eq_f (tgt := 29) b dX12_debt_16 (by decide) (by decide) ?_
  refine z_iload_n b dX12_debt_19 rfl rfl ?_
  refine z_iconst (v := 0) b dX12_debt_20 (by decide) ?_
  refine z_bipush (v := 7) b dX12_debt_21 (by decide) ?_
  refine z_calli b (z_runS (As := [.int p0, .int 0, .int 7]) (st := []) b (c_X12_isIn_7 S p0 ) cf_X12_isIn wm_X12_1 ws_X12_isIn dX12_debt_23 rfl (Nat.le_of_ble_eq_true rfl) ⟨by decide, by decide, by decide, by decide⟩) (fun r1329 u1330 h1328 => ?_)
  rcases h1328 with ⟨c1331, rfl, rfl⟩ | ⟨c1332, rfl, rfl⟩
  · refine z_if_ne_f (tgt := 31) b dX12_debt_26 (by decide) (by decide) ?_
    refine z_iconst (v := 0) b dX12_debt_29 (by decide) ?_
    exact z_zret (u := S) b rfl (by decide) dX12_debt_30 (Or.inl ⟨c1331, rfl, rfl⟩) rfl (by decide) (by decide)
  · refine z_if_ne_t (tgt := 31) b dX12_debt_26 (by decide) (by decide) ?_
    refine z_aload_n b dX12_debt_31 rfl rfl ?_
    refine z_aload_n b dX12_debt_32 rfl rfl ?_
    refine z_get (q0 := 0) (k9 := 6) (v := .long (fl S 0)) b (mw_0 cy a S) rfl in_X12 (by decide) wf_X12_153 rfl dX12_debt_33 ?_
    refine z_eql h_l_0 ?_
    refine z_callv b (z_runV (q0 := 0) (As := [.long 1649317774848]) (st := []) b (c_X12_takes S h_a_4_7 h_a_1_7 h_a_4_6 h_a_1_6 h_a_3_6 h_a_3_2 h_a_2_2 h_a_0_2 h_a_4_3 h_a_1_3 h_a_4_5 h_a_1_5 h_a_3_5 h_a_3_7 h_a_2_1 h_a_0_1 h_a_4_2 h_a_1_2 h_a_4_1 h_a_1_1 h_a_3_1 h_a_3_3 h_a_2_0 h_a_0_0 h_i_0) cf_X12_takes (mw_0 cy a S) rfl wm_X12_174 wi_X12_takes ws_X12_takes dX12_debt_36 rfl (Nat.le_of_ble_eq_true rfl) ⟨by decide, by decide, by decide, by decide⟩) (fun u1335 h1333 => ?_)
    obtain rfl := h1333
    refine z_aload_n b dX12_debt_39 rfl rfl ?_
    refine z_get (q0 := 0) (k9 := 1) (v := .ref (a 2)) b (mw_0 cy a S) rfl in_X12 (by decide) wf_X12_17 rfl dX12_debt_40 ?_
    refine z_iconst (v := 3) b dX12_debt_43 (by decide) ?_
    refine z_iload_n b dX12_debt_44 rfl rfl ?_
    refine z_imul (v := 3) b dX12_debt_45 (by decide) ?_
    refine z_iload_n b dX12_debt_46 rfl rfl ?_
    refine z_iadd (v := 3) b dX12_debt_47 (by decide) ?_
    refine z_iload_n b dX12_debt_48 rfl rfl ?_
    refine y_iast (q0 := 2) (j := 3) b (mw_2 cy a S) (by decide) dX12_debt_49 (mwa_2 cy a S 3 p0) ?_
    refine z_aload_n b dX12_debt_50 rfl rfl ?_
    refine z_calli b (z_runV (q0 := 0) (As := []) (st := []) b (c_X12_told_10 (su S 1 3 p0) h_i_0 h_a_0_0 h_a_2_0 h_a_3_1 h_a_1_1 h_a_4_1 h_a_1_2 h_a_4_2 h_a_0_1 h_a_2_1 h_a_3_5 h_a_1_5 h_a_4_5 h_a_4_3 h_a_0_2 h_a_2_2 h_a_3_6 h_a_1_6 h_a_4_6 h_a_1_7 h_a_4_7) cf_X12_told (mw_0 cy a (su S 1 3 p0)) rfl wm_X12_178 wi_X12_told ws_X12_told dX12_debt_51 rfl (Nat.le_of_ble_eq_true rfl) ⟨by decide, by decide, by decide, by decide⟩) (fun r1385 u1386 h1384 => ?_)
    obtain ⟨rfl, rfl⟩ := h1384
    exact z_zret (u := (sl (su S 1 3 p0) 0 (((((((((((((((((25166592 ||| ((ar (su S 1 3 p0) 1 3) : Int32).toInt64) <<< ((1 : Int32).toInt64 &&& 63)) ||| 0) <<< ((4 : Int32).toInt64 &&& 63)) ||| 0) <<< ((2 : Int32).toInt64 &&& 63)) ||| 3) <<< ((1 : Int32).toInt64 &&& 63)) ||| 0) <<< ((3 : Int32).toInt64 &&& 63)) ||| 0) <<< ((1 : Int32).toInt64 &&& 63)) ||| 0) <<< ((3 : Int32).toInt64 &&& 63)) ||| 0) <<< ((1 : Int32).toInt64 &&& 63)) ||| 0))) b rfl (by decide) dX12_debt_54 (Or.inr ⟨c1332, rfl, rfl⟩) rfl (by decide) (by decide)

set_option maxHeartbeats 4000000 in
set_option maxRecDepth 100000 in
theorem c_X11_debt_20 {l : Launch} {D : va_G} {cy : Nat → ClassId} {T0 tB tE : Nat} {a : Nat → Nat} {rw : Nat → Option Nat} (S : GS) (p0 : Int32)  (hr_p0 : 8 ≤ p0.toInt ∧ p0.toInt ≤ 2147483647) : Ct l D cy T0 tB tE yX11_debt cX11_debt 4 (some .boolean) 2 41 0 0 (cw cy tE a rw S) [.ref (a 0), .int 1, .int 0, .int p0] (QI D (U := GS) (fun r u => 0 = r ∧ S = u) (cw cy tE a rw)) := by
  refine Ct.ofZ RX11 "debt" [(0, .ref (a 0)), (1, .int 1), (2, .int 0), (3, .int p0)] rfl rfl rfl rfl (Nat.le_of_ble_eq_true rfl) ?_
  intro p e R s m args below meth c A b
  refine z_iload_n b dX11_debt_0 rfl rfl ?_
  refine z_iload_n b dX11_debt_1 rfl rfl ?_
  refine z_calli b (z_runS (As := [.int 1, .int 0]) (st := []) b (c_X11_arePair_10 S ) cf_X11_arePair wm_X11_84 ws_X11_arePair dX11_debt_2 rfl (Nat.le_of_ble_eq_true rfl) ⟨by decide, by decide, by decide, by decide⟩) (fun r1388 u1389 h1387 => ?_)
  obtain ⟨rfl, rfl⟩ := h1387
  refine z_if_eq_f (tgt := 17) b dX11_debt_5 (by decide) (by decide) ?_
  refine z_iload_n b dX11_debt_8 rfl rfl ?_
  refine z_bipush (v := 7) b dX11_debt_9 (by decide) ?_
  refine z_calli b (z_runS (As := [.int p0, .int 7]) (st := []) b (c_X11_isWithin_3 S p0 ) cf_X11_isWithin wm_X11_73 ws_X11_isWithin dX11_debt_11 rfl (Nat.le_of_ble_eq_true rfl) ⟨by decide, by decide, by decide, by decide⟩) (fun r1391 u1392 h1390 => ?_)
  rcases h1390 with ⟨c1393, rfl, rfl⟩ | ⟨c1394, rfl, rfl⟩
  · refine z_if_ne_f (tgt := 19) b dX11_debt_14 (by decide) (by decide) ?_
    refine z_iconst (v := 0) b dX11_debt_17 (by decide) ?_
    exact z_zret (u := S) b rfl (by decide) dX11_debt_18 ⟨rfl, rfl⟩ rfl (by decide) (by decide)
  · exfalso; omega

set_option maxHeartbeats 4000000 in
set_option maxRecDepth 100000 in
theorem c_X12_debt_20 {l : Launch} {D : va_G} {cy : Nat → ClassId} {T0 tB tE : Nat} {a : Nat → Nat} (S : GS) (p0 : Int32)  (hr_p0 : 8 ≤ p0.toInt ∧ p0.toInt ≤ 2147483647) : Ct l D cy T0 tB tE yX12_debt cX12_debt 4 (some .boolean) 2 42 0 0 (mw cy a S) [.ref (a 0), .int 1, .int 0, .int p0] (QI D (U := GS) (fun r u => 0 = r ∧ S = u) (mw cy a)) := by
  refine Ct.ofZ RX12 "debt" [(0, .ref (a 0)), (1, .int 1), (2, .int 0), (3, .int p0)] rfl rfl rfl rfl (Nat.le_of_ble_eq_true rfl) ?_
  intro p e R s m args below meth c A b
  refine z_iload_n b dX12_debt_0 rfl rfl ?_
  refine z_calli b (z_runS (As := [.int 1]) (st := []) b (c_X12_isOne_3 S ) cf_X12_isOne wm_X12_170 ws_X12_isOne dX12_debt_1 rfl (Nat.le_of_ble_eq_true rfl) ⟨by decide, by decide, by decide, by decide⟩) (fun r1396 u1397 h1395 => ?_)
  obtain ⟨rfl, rfl⟩ := h1395
  refine z_if_eq_f (tgt := 29) b dX12_debt_4 (by decide) (by decide) ?_
  refine z_iload_n b dX12_debt_7 rfl rfl ?_
  refine z_calli b (z_runS (As := [.int 0]) (st := []) b (c_X12_isOne_2 S ) cf_X12_isOne wm_X12_170 ws_X12_isOne dX12_debt_8 rfl (Nat.le_of_ble_eq_true rfl) ⟨by decide, by decide, by decide, by decide⟩) (fun r1399 u1400 h1398 => ?_)
  obtain ⟨rfl, rfl⟩ := h1398
  refine z_if_eq_f (tgt := 29) b dX12_debt_11 (by decide) (by decide) ?_
  refine z_iload_n b dX12_debt_14 rfl rfl ?_
  refine z_iload_n b dX12_debt_15 rfl rfl ?_
  refine z_icmp_eq_f (tgt := 29) b dX12_debt_16 (by decide) (by decide) ?_
  refine z_iload_n b dX12_debt_19 rfl rfl ?_
  refine z_iconst (v := 0) b dX12_debt_20 (by decide) ?_
  refine z_bipush (v := 7) b dX12_debt_21 (by decide) ?_
  refine z_calli b (z_runS (As := [.int p0, .int 0, .int 7]) (st := []) b (c_X12_isIn_7 S p0 ) cf_X12_isIn wm_X12_1 ws_X12_isIn dX12_debt_23 rfl (Nat.le_of_ble_eq_true rfl) ⟨by decide, by decide, by decide, by decide⟩) (fun r1402 u1403 h1401 => ?_)
  rcases h1401 with ⟨c1404, rfl, rfl⟩ | ⟨c1405, rfl, rfl⟩
  · refine z_if_ne_f (tgt := 31) b dX12_debt_26 (by decide) (by decide) ?_
    refine z_iconst (v := 0) b dX12_debt_29 (by decide) ?_
    exact z_zret (u := S) b rfl (by decide) dX12_debt_30 ⟨rfl, rfl⟩ rfl (by decide) (by decide)
  · exfalso; omega

set_option maxHeartbeats 4000000 in
set_option maxRecDepth 100000 in
theorem c_X11_arePair_11 {l : Launch} {D : va_G} {cy : Nat → ClassId} {T0 tB tE : Nat} {a : Nat → Nat} {rw : Nat → Option Nat} (S : GS)   : Ct l D cy T0 tB tE yX11_arePair cX11_arePair 2 (some .boolean) 1 20 0 0 (cw cy tE a rw S) [.int 1, .int 2] (QI D (U := GS) (fun r u => 1 = r ∧ S = u) (cw cy tE a rw)) := by
  refine Ct.ofZ RX11 "arePair" [(0, .int 1), (1, .int 2)] rfl rfl rfl rfl (Nat.le_of_ble_eq_true rfl) ?_
  intro p e R s m args below meth c A b
  refine z_iload_n b dX11_arePair_0 rfl rfl ?_
  refine z_calli b (z_runS (As := [.int 1]) (st := []) b (c_X11_isPerson_3 S ) cf_X11_isPerson wm_X11_69 ws_X11_isPerson dX11_arePair_1 rfl (Nat.le_of_ble_eq_true rfl) ⟨by decide, by decide, by decide, by decide⟩) (fun r1407 u1408 h1406 => ?_)
  obtain ⟨rfl, rfl⟩ := h1406
  refine z_if_eq_f (tgt := 23) b dX11_arePair_4 (by decide) (by decide) ?_
  refine z_iload_n b dX11_arePair_7 rfl rfl ?_
  refine z_calli b (z_runS (As := [.int 2]) (st := []) b (c_X11_isPerson_4 S ) cf_X11_isPerson wm_X11_69 ws_X11_isPerson dX11_arePair_8 rfl (Nat.le_of_ble_eq_true rfl) ⟨by decide, by decide, by decide, by decide⟩) (fun r1410 u1411 h1409 => ?_)
  obtain ⟨rfl, rfl⟩ := h1409
  refine z_if_eq_f (tgt := 23) b dX11_arePair_11 (by decide) (by decide) ?_
  refine z_iload_n b dX11_arePair_14 rfl rfl ?_
  refine z_iload_n b dX11_arePair_15 rfl rfl ?_
  refine z_icmp_eq_f (tgt := 23) b dX11_arePair_16 (by decide) (by decide) ?_
  refine z_iconst (v := 1) b dX11_arePair_19 (by decide) ?_
  refine z_goto (tgt := 24) b dX11_arePair_20 (by decide) ?_
  exact z_zret (u := S) b rfl (by decide) dX11_arePair_24 ⟨rfl, rfl⟩ rfl (by decide) (by decide)

set_option maxHeartbeats 4000000 in
set_option maxRecDepth 100000 in
theorem c_X11_debt_21 {l : Launch} {D : va_G} {cy : Nat → ClassId} {T0 tB tE : Nat} {a : Nat → Nat} {rw : Nat → Option Nat} (S : GS) (p0 : Int32)  (hr_p0 : (-2147483648) ≤ p0.toInt ∧ p0.toInt ≤ (-1)) : Ct l D cy T0 tB tE yX11_debt cX11_debt 4 (some .boolean) 2 41 0 0 (cw cy tE a rw S) [.ref (a 0), .int 1, .int 2, .int p0] (QI D (U := GS) (fun r u => 0 = r ∧ S = u) (cw cy tE a rw)) := by
  refine Ct.ofZ RX11 "debt" [(0, .ref (a 0)), (1, .int 1), (2, .int 2), (3, .int p0)] rfl rfl rfl rfl (Nat.le_of_ble_eq_true rfl) ?_
  intro p e R s m args below meth c A b
  refine z_iload_n b dX11_debt_0 rfl rfl ?_
  refine z_iload_n b dX11_debt_1 rfl rfl ?_
  refine z_calli b (z_runS (As := [.int 1, .int 2]) (st := []) b (c_X11_arePair_11 S ) cf_X11_arePair wm_X11_84 ws_X11_arePair dX11_debt_2 rfl (Nat.le_of_ble_eq_true rfl) ⟨by decide, by decide, by decide, by decide⟩) (fun r1413 u1414 h1412 => ?_)
  obtain ⟨rfl, rfl⟩ := h1412
  refine z_if_eq_f (tgt := 17) b dX11_debt_5 (by decide) (by decide) ?_
  refine z_iload_n b dX11_debt_8 rfl rfl ?_
  refine z_bipush (v := 7) b dX11_debt_9 (by decide) ?_
  refine z_calli b (z_runS (As := [.int p0, .int 7]) (st := []) b (c_X11_isWithin_3 S p0 ) cf_X11_isWithin wm_X11_73 ws_X11_isWithin dX11_debt_11 rfl (Nat.le_of_ble_eq_true rfl) ⟨by decide, by decide, by decide, by decide⟩) (fun r1416 u1417 h1415 => ?_)
  rcases h1415 with ⟨c1418, rfl, rfl⟩ | ⟨c1419, rfl, rfl⟩
  · refine z_if_ne_f (tgt := 19) b dX11_debt_14 (by decide) (by decide) ?_
    refine z_iconst (v := 0) b dX11_debt_17 (by decide) ?_
    exact z_zret (u := S) b rfl (by decide) dX11_debt_18 ⟨rfl, rfl⟩ rfl (by decide) (by decide)
  · exfalso; omega

set_option maxHeartbeats 4000000 in
set_option maxRecDepth 100000 in
theorem c_X12_debt_21 {l : Launch} {D : va_G} {cy : Nat → ClassId} {T0 tB tE : Nat} {a : Nat → Nat} (S : GS) (p0 : Int32)  (hr_p0 : (-2147483648) ≤ p0.toInt ∧ p0.toInt ≤ (-1)) : Ct l D cy T0 tB tE yX12_debt cX12_debt 4 (some .boolean) 2 42 0 0 (mw cy a S) [.ref (a 0), .int 1, .int 2, .int p0] (QI D (U := GS) (fun r u => 0 = r ∧ S = u) (mw cy a)) := by
  refine Ct.ofZ RX12 "debt" [(0, .ref (a 0)), (1, .int 1), (2, .int 2), (3, .int p0)] rfl rfl rfl rfl (Nat.le_of_ble_eq_true rfl) ?_
  intro p e R s m args below meth c A b
  refine z_iload_n b dX12_debt_0 rfl rfl ?_
  refine z_calli b (z_runS (As := [.int 1]) (st := []) b (c_X12_isOne_3 S ) cf_X12_isOne wm_X12_170 ws_X12_isOne dX12_debt_1 rfl (Nat.le_of_ble_eq_true rfl) ⟨by decide, by decide, by decide, by decide⟩) (fun r1421 u1422 h1420 => ?_)
  obtain ⟨rfl, rfl⟩ := h1420
  refine z_if_eq_f (tgt := 29) b dX12_debt_4 (by decide) (by decide) ?_
  refine z_iload_n b dX12_debt_7 rfl rfl ?_
  refine z_calli b (z_runS (As := [.int 2]) (st := []) b (c_X12_isOne_4 S ) cf_X12_isOne wm_X12_170 ws_X12_isOne dX12_debt_8 rfl (Nat.le_of_ble_eq_true rfl) ⟨by decide, by decide, by decide, by decide⟩) (fun r1424 u1425 h1423 => ?_)
  obtain ⟨rfl, rfl⟩ := h1423
  refine z_if_eq_f (tgt := 29) b dX12_debt_11 (by decide) (by decide) ?_
  refine z_iload_n b dX12_debt_14 rfl rfl ?_
  refine z_iload_n b dX12_debt_15 rfl rfl ?_
  refine z_icmp_eq_f (tgt := 29) b dX12_debt_16 (by decide) (by decide) ?_
  refine z_iload_n b dX12_debt_19 rfl rfl ?_
  refine z_iconst (v := 0) b dX12_debt_20 (by decide) ?_
  refine z_bipush (v := 7) b dX12_debt_21 (by decide) ?_
  refine z_calli b (z_runS (As := [.int p0, .int 0, .int 7]) (st := []) b (c_X12_isIn_7 S p0 ) cf_X12_isIn wm_X12_1 ws_X12_isIn dX12_debt_23 rfl (Nat.le_of_ble_eq_true rfl) ⟨by decide, by decide, by decide, by decide⟩) (fun r1427 u1428 h1426 => ?_)
  rcases h1426 with ⟨c1429, rfl, rfl⟩ | ⟨c1430, rfl, rfl⟩
  · refine z_if_ne_f (tgt := 31) b dX12_debt_26 (by decide) (by decide) ?_
    refine z_iconst (v := 0) b dX12_debt_29 (by decide) ?_
    exact z_zret (u := S) b rfl (by decide) dX12_debt_30 ⟨rfl, rfl⟩ rfl (by decide) (by decide)
  · exfalso; omega

set_option maxHeartbeats 4000000 in
set_option maxRecDepth 100000 in
theorem c_X9_set_11 {l : Launch} {D : va_G} {cy : Nat → ClassId} {T0 tB tE : Nat} {a : Nat → Nat} {rw : Nat → Option Nat} (S : GS) (p0 : Int32)  : Ct l D cy T0 tB tE yX9_set cX9_set 3 none 0 0 0 0 (cw cy tE a rw S) [.ref (a 14), .int 15, .int p0] (QV D (U := GS) (fun u => su S 4 15 p0 = u) (cw cy tE a rw)) := by
  refine Ct.ofZ RX9 "set" [(0, .ref (a 14)), (1, .int 15), (2, .int p0)] rfl rfl rfl rfl (Nat.le_of_ble_eq_true rfl) ?_
  intro p e R s m args below meth c A b
  refine z_iload_n b dX9_set_0 rfl rfl ?_
  refine z_if_lt_f (tgt := 20) b dX9_set_1 (by decide) (by decide) ?_
  refine z_iload_n b dX9_set_4 rfl rfl ?_
  refine z_aload_n b dX9_set_5 rfl rfl ?_
  refine z_get (q0 := 14) (k9 := 0) (v := .ref (a 15)) b (cw_14 cy tE a rw S) rfl in_X9 (by decide) wf_X9_11 rfl dX9_set_6 ?_
  refine z_alen (q0 := 15) (t0 := 0) (v := 51) b (cw_15 cy tE a rw S) rfl rfl dX9_set_9 ?_
  refine z_icmp_ge_f (tgt := 20) b dX9_set_10 (by decide) (by decide) ?_
  refine z_aload_n b dX9_set_13 rfl rfl ?_
  refine z_get (q0 := 14) (k9 := 0) (v := .ref (a 15)) b (cw_14 cy tE a rw S) rfl in_X9 (by decide) wf_X9_11 rfl dX9_set_14 ?_
  refine z_iload_n b dX9_set_17 rfl rfl ?_
  refine z_iload_n b dX9_set_18 rfl rfl ?_
  refine y_iast (q0 := 15) (j := 15) b (cw_15 cy tE a rw S) (by decide) dX9_set_19 (cwa_15 cy tE a rw S 15 p0) ?_
  exact z_vret (u := (su S 4 15 p0)) b rfl dX9_set_20 rfl rfl (by decide) (by decide)

set_option maxHeartbeats 4000000 in
set_option maxRecDepth 100000 in
theorem c_X11_debt_22 {l : Launch} {D : va_G} {cy : Nat → ClassId} {T0 tB tE : Nat} {a : Nat → Nat} {rw : Nat → Option Nat} (S : GS) (p0 : Int32) (h_i_24 : fi S 24 = 0) (hr_p0 : 0 ≤ p0.toInt ∧ p0.toInt ≤ 7) : Ct l D cy T0 tB tE yX11_debt cX11_debt 4 (some .boolean) 2 41 0 0 (cw cy tE a rw S) [.ref (a 0), .int 1, .int 2, .int p0] (QI D (U := GS) (fun r u => (((((p0.toInt < 0)) ∨ ((0 ≤ p0.toInt) ∧ (7 < p0.toInt)))) ∧ 0 = r ∧ S = u) ∨ ((((0 ≤ p0.toInt) ∧ (p0.toInt ≤ 7))) ∧ 1 = r ∧ (su S 4 15 p0) = u)) (cw cy tE a rw)) := by
  refine Ct.ofZ RX11 "debt" [(0, .ref (a 0)), (1, .int 1), (2, .int 2), (3, .int p0)] rfl rfl rfl rfl (Nat.le_of_ble_eq_true rfl) ?_
  intro p e R s m args below meth c A b
  refine z_iload_n b dX11_debt_0 rfl rfl ?_
  refine z_iload_n b dX11_debt_1 rfl rfl ?_
  refine z_calli b (z_runS (As := [.int 1, .int 2]) (st := []) b (c_X11_arePair_11 S ) cf_X11_arePair wm_X11_84 ws_X11_arePair dX11_debt_2 rfl (Nat.le_of_ble_eq_true rfl) ⟨by decide, by decide, by decide, by decide⟩) (fun r1432 u1433 h1431 => ?_)
  obtain ⟨rfl, rfl⟩ := h1431
  refine z_if_eq_f (tgt := 17) b dX11_debt_5 (by decide) (by decide) ?_
  refine z_iload_n b dX11_debt_8 rfl rfl ?_
  refine z_bipush (v := 7) b dX11_debt_9 (by decide) ?_
  refine z_calli b (z_runS (As := [.int p0, .int 7]) (st := []) b (c_X11_isWithin_3 S p0 ) cf_X11_isWithin wm_X11_73 ws_X11_isWithin dX11_debt_11 rfl (Nat.le_of_ble_eq_true rfl) ⟨by decide, by decide, by decide, by decide⟩) (fun r1435 u1436 h1434 => ?_)
  rcases h1434 with ⟨c1437, rfl, rfl⟩ | ⟨c1438, rfl, rfl⟩
  · refine z_if_ne_f (tgt := 19) b dX11_debt_14 (by decide) (by decide) ?_
    refine z_iconst (v := 0) b dX11_debt_17 (by decide) ?_
    exact z_zret (u := S) b rfl (by decide) dX11_debt_18 (Or.inl ⟨c1437, rfl, rfl⟩) rfl (by decide) (by decide)
  · refine z_if_ne_t (tgt := 19) b dX11_debt_14 (by decide) (by decide) ?_
    refine z_aload_n b dX11_debt_19 rfl rfl ?_
    refine z_get (q0 := 0) (k9 := 4) (v := .ref (a 14)) b (cw_0 cy tE a rw S) rfl in_X11 (by decide) wf_X11_34 rfl dX11_debt_20 ?_
    refine z_bipush (v := 10) b dX11_debt_23 (by decide) ?_
    refine z_iconst (v := 3) b dX11_debt_25 (by decide) ?_
    refine z_iload_n b dX11_debt_26 rfl rfl ?_
    refine z_imul (v := 3) b dX11_debt_27 (by decide) ?_
    refine z_iadd (v := 13) b dX11_debt_28 (by decide) ?_
    refine z_iload_n b dX11_debt_29 rfl rfl ?_
    refine z_iadd (v := 15) b dX11_debt_30 (by decide) ?_
    refine z_iload_n b dX11_debt_31 rfl rfl ?_
    refine z_callv b (z_runV (q0 := 14) (As := [.int 15, .int p0]) (st := []) b (c_X9_set_11 S p0 ) cf_X9_set (cw_14 cy tE a rw S) rfl wm_X11_77 wi_X9_set ws_X9_set dX11_debt_32 rfl (Nat.le_of_ble_eq_true rfl) ⟨by decide, by decide, by decide, by decide⟩) (fun u1441 h1439 => ?_)
    obtain rfl := h1439
    refine z_aload_n b dX11_debt_35 rfl rfl ?_
    refine z_get (q0 := 0) (k9 := 6) (v := .ref (a 25)) b (cw_0 cy tE a rw (su S 4 15 p0)) rfl in_X11 (by decide) wf_X11_52 rfl dX11_debt_36 ?_
    refine z_callv b (z_runV (q0 := 25) (As := []) (st := []) b (c_X8_forget (su S 4 15 p0) h_i_24) cf_X8_forget (cw_25 cy tE a rw (su S 4 15 p0)) rfl wm_X11_81 wi_X8_forget ws_X8_forget dX11_debt_39 rfl (Nat.le_of_ble_eq_true rfl) ⟨by decide, by decide, by decide, by decide⟩) (fun u1444 h1442 => ?_)
    obtain rfl := h1442
    refine z_iconst (v := 1) b dX11_debt_42 (by decide) ?_
    exact z_zret (u := (su S 4 15 p0)) b rfl (by decide) dX11_debt_43 (Or.inr ⟨c1438, rfl, rfl⟩) rfl (by decide) (by decide)

set_option maxHeartbeats 4000000 in
set_option maxRecDepth 100000 in
theorem ch_X12_packs_24 {p : Program} {l : Launch} {e : Env} {R : Room} {s : State} {m : MethodId} {args : Array Value} {below : List Frame} {meth : Method} {c : Code} {D : va_G} {cy : Nat → ClassId} {T0 tB tE : Nat} {A : Nat → Prop} {Q : State → Prop} {a : Nat → Nat} (S : GS)  (h_a_0_0 : ar S 0 0 = 0) (h_a_1_1 : ar S 1 1 = 0) (h_a_1_2 : ar S 1 2 = 0) (h_a_2_0 : ar S 2 0 = 3) (h_a_3_1 : ar S 3 1 = 0) (h_a_4_1 : ar S 4 1 = 0) (h_a_4_2 : ar S 4 2 = 0) (h_i_0 : fi S 0 = 0) (b : Bz p R s m args meth c D cy T0 tB tE A 5 cX12_packs RX12 (some .long) "packs" 1 21 0 0) (k : Z p l e R s m args below meth c D A 5 Q 0 0 (mw cy a S) [(3, .int 1), (4, .int 2), (1, .long 1536), (0, .ref (a 0))] 21 [.int 1, .ref (a 1), .long 24576]) : Z p l e R s m args below meth c D A 5 Q 0 0 (mw cy a S) [(0, .ref (a 0))] 0 [] := by
  refine z_aload_n b dX12_packs_0 rfl rfl ?_
  refine z_get (q0 := 0) (k9 := 5) (v := .int (fi S 0)) b (mw_0 cy a S) rfl in_X12 (by decide) wf_X12_157 rfl dX12_packs_1 ?_
  refine z_eqi h_i_0 ?_
  refine z_i2l (v := 0) b dX12_packs_4 (by decide) ?_
  refine z_lstore_n (lv' := [(1, .long 0), (0, .ref (a 0))]) b dX12_packs_5 rfl (by decide) rfl ?_
  refine z_iconst (v := 0) b dX12_packs_6 (by decide) ?_
  refine z_istore_n (lv' := [(3, .int 0), (1, .long 0), (0, .ref (a 0))]) b dX12_packs_7 rfl (by decide) rfl ?_
  refine z_iload_n b dX12_packs_8 rfl rfl ?_
  refine z_iconst (v := 3) b dX12_packs_9 (by decide) ?_
  refine z_icmp_ge_f (tgt := 134) b dX12_packs_10 (by decide) (by decide) ?_
  refine z_lload_n b dX12_packs_13 rfl rfl ?_
  refine z_iconst (v := 4) b dX12_packs_14 (by decide) ?_
  refine z_lshl (v := 0) b dX12_packs_15 (by decide) ?_
  refine z_aload_n b dX12_packs_16 rfl rfl ?_
  refine z_get (q0 := 0) (k9 := 0) (v := .ref (a 1)) b (mw_0 cy a S) rfl in_X12 (by decide) wf_X12_13 rfl dX12_packs_17 ?_
  refine z_iload_n b dX12_packs_20 rfl rfl ?_
  refine y_iald (q0 := 1) (j := 0) (v := (ar S 0 0)) b (mw_1 cy a S) (by decide) rfl dX12_packs_21 ?_
  refine z_eqi h_a_0_0 ?_
  refine z_i2l (v := 0) b dX12_packs_22 (by decide) ?_
  refine z_lor (v := 0) b dX12_packs_23 (by decide) ?_
  refine z_lstore_n (lv' := [(1, .long 0), (3, .int 0), (0, .ref (a 0))]) b dX12_packs_24 rfl (by decide) rfl ?_
  refine z_lload_n b dX12_packs_25 rfl rfl ?_
  refine z_iconst (v := 2) b dX12_packs_26 (by decide) ?_
  refine z_lshl (v := 0) b dX12_packs_27 (by decide) ?_
  refine z_aload_n b dX12_packs_28 rfl rfl ?_
  refine z_get (q0 := 0) (k9 := 2) (v := .ref (a 3)) b (mw_0 cy a S) rfl in_X12 (by decide) wf_X12_20 rfl dX12_packs_29 ?_
  refine z_iload_n b dX12_packs_32 rfl rfl ?_
  refine y_iald (q0 := 3) (j := 0) (v := (ar S 2 0)) b (mw_3 cy a S) (by decide) rfl dX12_packs_33 ?_
  refine z_eqi h_a_2_0 ?_
  refine z_i2l (v := 3) b dX12_packs_34 (by decide) ?_
  refine z_lor (v := 3) b dX12_packs_35 (by decide) ?_
  refine z_lstore_n (lv' := [(1, .long 3), (3, .int 0), (0, .ref (a 0))]) b dX12_packs_36 rfl (by decide) rfl ?_
  refine z_lload_n b dX12_packs_37 rfl rfl ?_
  refine z_iconst (v := 1) b dX12_packs_38 (by decide) ?_
  refine z_lshl (v := 6) b dX12_packs_39 (by decide) ?_
  refine z_aload_n b dX12_packs_40 rfl rfl ?_
  refine z_get (q0 := 0) (k9 := 3) (v := .ref (a 4)) b (mw_0 cy a S) rfl in_X12 (by decide) wf_X12_23 rfl dX12_packs_41 ?_
  refine z_iconst (v := 3) b dX12_packs_44 (by decide) ?_
  refine z_iload_n b dX12_packs_45 rfl rfl ?_
  refine z_imul (v := 0) b dX12_packs_46 (by decide) ?_
  refine z_iload_n b dX12_packs_47 rfl rfl ?_
  refine z_iconst (v := 0) b dX12_packs_48 (by decide) ?_
  refine z_calli b (z_runS (As := [.int 0, .int 0]) (st := [.int 0, .ref (a 4), .long 6]) b (c_X12_other_6 S ) cf_X12_other wm_X12_160 ws_X12_other dX12_packs_49 rfl (Nat.le_of_ble_eq_true rfl) ⟨by decide, by decide, by decide, by decide⟩) (fun r1460 u1461 h1459 => ?_)
  obtain ⟨rfl, rfl⟩ := h1459
  refine z_iadd (v := 1) b dX12_packs_52 (by decide) ?_
  refine y_zald (q0 := 4) (j := 1) (v := (ar S 3 1)) b (mw_4 cy a S) (by decide) rfl dX12_packs_53 ?_
  refine z_eqi h_a_3_1 ?_
  refine z_if_eq_t (tgt := 61) b dX12_packs_54 (by decide) (by decide) ?_
  refine z_lconst (v := 0) b dX12_packs_61 (by decide) ?_
  refine z_lor (v := 6) b dX12_packs_62 (by decide) ?_
  refine z_lstore_n (lv' := [(1, .long 6), (3, .int 0), (0, .ref (a 0))]) b dX12_packs_63 rfl (by decide) rfl ?_
  refine z_iconst (v := 0) b dX12_packs_64 (by decide) ?_
  refine z_istore (lv' := [(4, .int 0), (1, .long 6), (3, .int 0), (0, .ref (a 0))]) b dX12_packs_65 (by decide) rfl ?_
  refine z_iload b dX12_packs_67 rfl ?_
  refine z_iconst (v := 2) b dX12_packs_69 (by decide) ?_
  refine z_icmp_ge_f (tgt := 128) b dX12_packs_70 (by decide) (by decide) ?_
  refine z_lload_n b dX12_packs_73 rfl rfl ?_
  refine z_iconst (v := 3) b dX12_packs_74 (by decide) ?_
  refine z_lshl (v := 48) b dX12_packs_75 (by decide) ?_
  refine z_aload_n b dX12_packs_76 rfl rfl ?_
  refine z_get (q0 := 0) (k9 := 1) (v := .ref (a 2)) b (mw_0 cy a S) rfl in_X12 (by decide) wf_X12_17 rfl dX12_packs_77 ?_
  refine z_iconst (v := 3) b dX12_packs_80 (by decide) ?_
  refine z_iload_n b dX12_packs_81 rfl rfl ?_
  refine z_imul (v := 0) b dX12_packs_82 (by decide) ?_
  refine z_iload_n b dX12_packs_83 rfl rfl ?_
  refine z_iload b dX12_packs_84 rfl ?_
  refine z_calli b (z_runS (As := [.int 0, .int 0]) (st := [.int 0, .ref (a 2), .long 48]) b (c_X12_other_6 S ) cf_X12_other wm_X12_160 ws_X12_other dX12_packs_86 rfl (Nat.le_of_ble_eq_true rfl) ⟨by decide, by decide, by decide, by decide⟩) (fun r1463 u1464 h1462 => ?_)
  obtain ⟨rfl, rfl⟩ := h1462
  refine z_iadd (v := 1) b dX12_packs_89 (by decide) ?_
  refine y_iald (q0 := 2) (j := 1) (v := (ar S 1 1)) b (mw_2 cy a S) (by decide) rfl dX12_packs_90 ?_
  refine z_eqi h_a_1_1 ?_
  refine z_i2l (v := 0) b dX12_packs_91 (by decide) ?_
  refine z_lor (v := 48) b dX12_packs_92 (by decide) ?_
  refine z_lstore_n (lv' := [(1, .long 48), (4, .int 0), (3, .int 0), (0, .ref (a 0))]) b dX12_packs_93 rfl (by decide) rfl ?_
  refine z_lload_n b dX12_packs_94 rfl rfl ?_
  refine z_iconst (v := 1) b dX12_packs_95 (by decide) ?_
  refine z_lshl (v := 96) b dX12_packs_96 (by decide) ?_
  refine z_aload_n b dX12_packs_97 rfl rfl ?_
  refine z_get (q0 := 0) (k9 := 4) (v := .ref (a 5)) b (mw_0 cy a S) rfl in_X12 (by decide) wf_X12_27 rfl dX12_packs_98 ?_
  refine z_iconst (v := 3) b dX12_packs_101 (by decide) ?_
  refine z_iload_n b dX12_packs_102 rfl rfl ?_
  refine z_imul (v := 0) b dX12_packs_103 (by decide) ?_
  refine z_iload_n b dX12_packs_104 rfl rfl ?_
  refine z_iload b dX12_packs_105 rfl ?_
  refine z_calli b (z_runS (As := [.int 0, .int 0]) (st := [.int 0, .ref (a 5), .long 96]) b (c_X12_other_6 S ) cf_X12_other wm_X12_160 ws_X12_other dX12_packs_107 rfl (Nat.le_of_ble_eq_true rfl) ⟨by decide, by decide, by decide, by decide⟩) (fun r1466 u1467 h1465 => ?_)
  obtain ⟨rfl, rfl⟩ := h1465
  refine z_iadd (v := 1) b dX12_packs_110 (by decide) ?_
  refine y_zald (q0 := 5) (j := 1) (v := (ar S 4 1)) b (mw_5 cy a S) (by decide) rfl dX12_packs_111 ?_
  refine z_eqi h_a_4_1 ?_
  refine z_if_eq_t (tgt := 119) b dX12_packs_112 (by decide) (by decide) ?_
  refine z_lconst (v := 0) b dX12_packs_119 (by decide) ?_
  refine z_lor (v := 96) b dX12_packs_120 (by decide) ?_
  refine z_lstore_n (lv' := [(1, .long 96), (4, .int 0), (3, .int 0), (0, .ref (a 0))]) b dX12_packs_121 rfl (by decide) rfl ?_
  refine z_iinc (k9 := 1) (v := 1) (lv' := [(4, .int 1), (1, .long 96), (3, .int 0), (0, .ref (a 0))]) b dX12_packs_122 rfl (by decide) (by decide) rfl ?_
  refine z_goto (tgt := 67) b dX12_packs_125 (by decide) ?_
  refine z_iload b dX12_packs_67 rfl ?_
  refine z_iconst (v := 2) b dX12_packs_69 (by decide) ?_
  refine z_icmp_ge_f (tgt := 128) b dX12_packs_70 (by decide) (by decide) ?_
  refine z_lload_n b dX12_packs_73 rfl rfl ?_
  refine z_iconst (v := 3) b dX12_packs_74 (by decide) ?_
  refine z_lshl (v := 768) b dX12_packs_75 (by decide) ?_
  refine z_aload_n b dX12_packs_76 rfl rfl ?_
  refine z_get (q0 := 0) (k9 := 1) (v := .ref (a 2)) b (mw_0 cy a S) rfl in_X12 (by decide) wf_X12_17 rfl dX12_packs_77 ?_
  refine z_iconst (v := 3) b dX12_packs_80 (by decide) ?_
  refine z_iload_n b dX12_packs_81 rfl rfl ?_
  refine z_imul (v := 0) b dX12_packs_82 (by decide) ?_
  refine z_iload_n b dX12_packs_83 rfl rfl ?_
  refine z_iload b dX12_packs_84 rfl ?_
  refine z_calli b (z_runS (As := [.int 0, .int 1]) (st := [.int 0, .ref (a 2), .long 768]) b (c_X12_other_5 S ) cf_X12_other wm_X12_160 ws_X12_other dX12_packs_86 rfl (Nat.le_of_ble_eq_true rfl) ⟨by decide, by decide, by decide, by decide⟩) (fun r1469 u1470 h1468 => ?_)
  obtain ⟨rfl, rfl⟩ := h1468
  refine z_iadd (v := 2) b dX12_packs_89 (by decide) ?_
  refine y_iald (q0 := 2) (j := 2) (v := (ar S 1 2)) b (mw_2 cy a S) (by decide) rfl dX12_packs_90 ?_
  refine z_eqi h_a_1_2 ?_
  refine z_i2l (v := 0) b dX12_packs_91 (by decide) ?_
  refine z_lor (v := 768) b dX12_packs_92 (by decide) ?_
  refine z_lstore_n (lv' := [(1, .long 768), (4, .int 1), (3, .int 0), (0, .ref (a 0))]) b dX12_packs_93 rfl (by decide) rfl ?_
  refine z_lload_n b dX12_packs_94 rfl rfl ?_
  refine z_iconst (v := 1) b dX12_packs_95 (by decide) ?_
  refine z_lshl (v := 1536) b dX12_packs_96 (by decide) ?_
  refine z_aload_n b dX12_packs_97 rfl rfl ?_
  refine z_get (q0 := 0) (k9 := 4) (v := .ref (a 5)) b (mw_0 cy a S) rfl in_X12 (by decide) wf_X12_27 rfl dX12_packs_98 ?_
  refine z_iconst (v := 3) b dX12_packs_101 (by decide) ?_
  refine z_iload_n b dX12_packs_102 rfl rfl ?_
  refine z_imul (v := 0) b dX12_packs_103 (by decide) ?_
  refine z_iload_n b dX12_packs_104 rfl rfl ?_
  refine z_iload b dX12_packs_105 rfl ?_
  refine z_calli b (z_runS (As := [.int 0, .int 1]) (st := [.int 0, .ref (a 5), .long 1536]) b (c_X12_other_5 S ) cf_X12_other wm_X12_160 ws_X12_other dX12_packs_107 rfl (Nat.le_of_ble_eq_true rfl) ⟨by decide, by decide, by decide, by decide⟩) (fun r1472 u1473 h1471 => ?_)
  obtain ⟨rfl, rfl⟩ := h1471
  refine z_iadd (v := 2) b dX12_packs_110 (by decide) ?_
  refine y_zald (q0 := 5) (j := 2) (v := (ar S 4 2)) b (mw_5 cy a S) (by decide) rfl dX12_packs_111 ?_
  refine z_eqi h_a_4_2 ?_
  refine z_if_eq_t (tgt := 119) b dX12_packs_112 (by decide) (by decide) ?_
  refine z_lconst (v := 0) b dX12_packs_119 (by decide) ?_
  refine z_lor (v := 1536) b dX12_packs_120 (by decide) ?_
  refine z_lstore_n (lv' := [(1, .long 1536), (4, .int 1), (3, .int 0), (0, .ref (a 0))]) b dX12_packs_121 rfl (by decide) rfl ?_
  refine z_iinc (k9 := 1) (v := 2) (lv' := [(4, .int 2), (1, .long 1536), (3, .int 0), (0, .ref (a 0))]) b dX12_packs_122 rfl (by decide) (by decide) rfl ?_
  refine z_goto (tgt := 67) b dX12_packs_125 (by decide) ?_
  refine z_iload b dX12_packs_67 rfl ?_
  refine z_iconst (v := 2) b dX12_packs_69 (by decide) ?_
  refine z_icmp_ge_t (tgt := 128) b dX12_packs_70 (by decide) (by decide) ?_
  refine z_iinc (k9 := 2) (v := 1) (lv' := [(3, .int 1), (4, .int 2), (1, .long 1536), (0, .ref (a 0))]) b dX12_packs_128 rfl (by decide) (by decide) rfl ?_
  refine z_goto (tgt := 8) b dX12_packs_131 (by decide) ?_
  refine z_iload_n b dX12_packs_8 rfl rfl ?_
  refine z_iconst (v := 3) b dX12_packs_9 (by decide) ?_
  refine z_icmp_ge_f (tgt := 134) b dX12_packs_10 (by decide) (by decide) ?_
  refine z_lload_n b dX12_packs_13 rfl rfl ?_
  refine z_iconst (v := 4) b dX12_packs_14 (by decide) ?_
  refine z_lshl (v := 24576) b dX12_packs_15 (by decide) ?_
  refine z_aload_n b dX12_packs_16 rfl rfl ?_
  refine z_get (q0 := 0) (k9 := 0) (v := .ref (a 1)) b (mw_0 cy a S) rfl in_X12 (by decide) wf_X12_13 rfl dX12_packs_17 ?_
  refine z_iload_n b dX12_packs_20 rfl rfl ?_
  exact k

set_option maxHeartbeats 4000000 in
set_option maxRecDepth 100000 in
theorem ch_X12_packs_25 {p : Program} {l : Launch} {e : Env} {R : Room} {s : State} {m : MethodId} {args : Array Value} {below : List Frame} {meth : Method} {c : Code} {D : va_G} {cy : Nat → ClassId} {T0 tB tE : Nat} {A : Nat → Prop} {Q : State → Prop} {a : Nat → Nat} (S : GS)  (h_a_0_1 : ar S 0 1 = 0) (h_a_0_2 : ar S 0 2 = 0) (h_a_1_3 : ar S 1 3 = 0) (h_a_2_1 : ar S 2 1 = 3) (h_a_2_2 : ar S 2 2 = 3) (h_a_3_5 : ar S 3 5 = 0) (h_a_4_3 : ar S 4 3 = 0) (h_a_4_5 : ar S 4 5 = 0) (b : Bz p R s m args meth c D cy T0 tB tE A 5 cX12_packs RX12 (some .long) "packs" 1 21 0 0) (k : Z p l e R s m args below meth c D A 5 Q 0 0 (mw cy a S) [(1, .long (((((((((((1572912 ||| ((ar S 1 5) : Int32).toInt64) <<< ((1 : Int32).toInt64 &&& 63)) ||| 0) <<< ((3 : Int32).toInt64 &&& 63)) ||| 0) <<< ((1 : Int32).toInt64 &&& 63)) ||| 0) <<< ((4 : Int32).toInt64 &&& 63)) ||| 0) <<< ((2 : Int32).toInt64 &&& 63)) ||| 3)), (3, .int 2), (4, .int 2), (0, .ref (a 0))] 38 [.long (((((((((((1572912 ||| ((ar S 1 5) : Int32).toInt64) <<< ((1 : Int32).toInt64 &&& 63)) ||| 0) <<< ((3 : Int32).toInt64 &&& 63)) ||| 0) <<< ((1 : Int32).toInt64 &&& 63)) ||| 0) <<< ((4 : Int32).toInt64 &&& 63)) ||| 0) <<< ((2 : Int32).toInt64 &&& 63)) ||| 3)]) : Z p l e R s m args below meth c D A 5 Q 0 0 (mw cy a S) [(3, .int 1), (4, .int 2), (1, .long 1536), (0, .ref (a 0))] 21 [.int 1, .ref (a 1), .long 24576] := by
  refine y_iald (q0 := 1) (j := 1) (v := (ar S 0 1)) b (mw_1 cy a S) (by decide) rfl dX12_packs_21 ?_
  refine z_eqi h_a_0_1 ?_
  refine z_i2l (v := 0) b dX12_packs_22 (by decide) ?_
  refine z_lor (v := 24576) b dX12_packs_23 (by decide) ?_
  refine z_lstore_n (lv' := [(1, .long 24576), (3, .int 1), (4, .int 2), (0, .ref (a 0))]) b dX12_packs_24 rfl (by decide) rfl ?_
  refine z_lload_n b dX12_packs_25 rfl rfl ?_
  refine z_iconst (v := 2) b dX12_packs_26 (by decide) ?_
  refine z_lshl (v := 98304) b dX12_packs_27 (by decide) ?_
  refine z_aload_n b dX12_packs_28 rfl rfl ?_
  refine z_get (q0 := 0) (k9 := 2) (v := .ref (a 3)) b (mw_0 cy a S) rfl in_X12 (by decide) wf_X12_20 rfl dX12_packs_29 ?_
  refine z_iload_n b dX12_packs_32 rfl rfl ?_
  refine y_iald (q0 := 3) (j := 1) (v := (ar S 2 1)) b (mw_3 cy a S) (by decide) rfl dX12_packs_33 ?_
  refine z_eqi h_a_2_1 ?_
  refine z_i2l (v := 3) b dX12_packs_34 (by decide) ?_
  refine z_lor (v := 98307) b dX12_packs_35 (by decide) ?_
  refine z_lstore_n (lv' := [(1, .long 98307), (3, .int 1), (4, .int 2), (0, .ref (a 0))]) b dX12_packs_36 rfl (by decide) rfl ?_
  refine z_lload_n b dX12_packs_37 rfl rfl ?_
  refine z_iconst (v := 1) b dX12_packs_38 (by decide) ?_
  refine z_lshl (v := 196614) b dX12_packs_39 (by decide) ?_
  refine z_aload_n b dX12_packs_40 rfl rfl ?_
  refine z_get (q0 := 0) (k9 := 3) (v := .ref (a 4)) b (mw_0 cy a S) rfl in_X12 (by decide) wf_X12_23 rfl dX12_packs_41 ?_
  refine z_iconst (v := 3) b dX12_packs_44 (by decide) ?_
  refine z_iload_n b dX12_packs_45 rfl rfl ?_
  refine z_imul (v := 3) b dX12_packs_46 (by decide) ?_
  refine z_iload_n b dX12_packs_47 rfl rfl ?_
  refine z_iconst (v := 0) b dX12_packs_48 (by decide) ?_
  refine z_calli b (z_runS (As := [.int 1, .int 0]) (st := [.int 3, .ref (a 4), .long 196614]) b (c_X12_other_4 S ) cf_X12_other wm_X12_160 ws_X12_other dX12_packs_49 rfl (Nat.le_of_ble_eq_true rfl) ⟨by decide, by decide, by decide, by decide⟩) (fun r1475 u1476 h1474 => ?_)
  obtain ⟨rfl, rfl⟩ := h1474
  refine z_iadd (v := 5) b dX12_packs_52 (by decide) ?_
  refine y_zald (q0 := 4) (j := 5) (v := (ar S 3 5)) b (mw_4 cy a S) (by decide) rfl dX12_packs_53 ?_
  refine z_eqi h_a_3_5 ?_
  refine z_if_eq_t (tgt := 61) b dX12_packs_54 (by decide) (by decide) ?_
  refine z_lconst (v := 0) b dX12_packs_61 (by decide) ?_
  refine z_lor (v := 196614) b dX12_packs_62 (by decide) ?_
  refine z_lstore_n (lv' := [(1, .long 196614), (3, .int 1), (4, .int 2), (0, .ref (a 0))]) b dX12_packs_63 rfl (by decide) rfl ?_
  refine z_iconst (v := 0) b dX12_packs_64 (by decide) ?_
  refine z_istore (lv' := [(4, .int 0), (1, .long 196614), (3, .int 1), (0, .ref (a 0))]) b dX12_packs_65 (by decide) rfl ?_
  refine z_iload b dX12_packs_67 rfl ?_
  refine z_iconst (v := 2) b dX12_packs_69 (by decide) ?_
  refine z_icmp_ge_f (tgt := 128) b dX12_packs_70 (by decide) (by decide) ?_
  refine z_lload_n b dX12_packs_73 rfl rfl ?_
  refine z_iconst (v := 3) b dX12_packs_74 (by decide) ?_
  refine z_lshl (v := 1572912) b dX12_packs_75 (by decide) ?_
  refine z_aload_n b dX12_packs_76 rfl rfl ?_
  refine z_get (q0 := 0) (k9 := 1) (v := .ref (a 2)) b (mw_0 cy a S) rfl in_X12 (by decide) wf_X12_17 rfl dX12_packs_77 ?_
  refine z_iconst (v := 3) b dX12_packs_80 (by decide) ?_
  refine z_iload_n b dX12_packs_81 rfl rfl ?_
  refine z_imul (v := 3) b dX12_packs_82 (by decide) ?_
  refine z_iload_n b dX12_packs_83 rfl rfl ?_
  refine z_iload b dX12_packs_84 rfl ?_
  refine z_calli b (z_runS (As := [.int 1, .int 0]) (st := [.int 3, .ref (a 2), .long 1572912]) b (c_X12_other_4 S ) cf_X12_other wm_X12_160 ws_X12_other dX12_packs_86 rfl (Nat.le_of_ble_eq_true rfl) ⟨by decide, by decide, by decide, by decide⟩) (fun r1478 u1479 h1477 => ?_)
  obtain ⟨rfl, rfl⟩ := h1477
  refine z_iadd (v := 5) b dX12_packs_89 (by decide) ?_
  refine y_iald (q0 := 2) (j := 5) (v := (ar S 1 5)) b (mw_2 cy a S) (by decide) rfl dX12_packs_90 ?_
  refine z_i2l b dX12_packs_91 rfl ?_
  refine z_lor b dX12_packs_92 rfl ?_
  refine z_lstore_n (lv' := [(1, .long (1572912 ||| ((ar S 1 5) : Int32).toInt64)), (4, .int 0), (3, .int 1), (0, .ref (a 0))]) b dX12_packs_93 rfl (by decide) rfl ?_
  refine z_lload_n b dX12_packs_94 rfl rfl ?_
  refine z_iconst (v := 1) b dX12_packs_95 (by decide) ?_
  refine z_lshl b dX12_packs_96 rfl ?_
  refine z_aload_n b dX12_packs_97 rfl rfl ?_
  refine z_get (q0 := 0) (k9 := 4) (v := .ref (a 5)) b (mw_0 cy a S) rfl in_X12 (by decide) wf_X12_27 rfl dX12_packs_98 ?_
  refine z_iconst (v := 3) b dX12_packs_101 (by decide) ?_
  refine z_iload_n b dX12_packs_102 rfl rfl ?_
  refine z_imul (v := 3) b dX12_packs_103 (by decide) ?_
  refine z_iload_n b dX12_packs_104 rfl rfl ?_
  refine z_iload b dX12_packs_105 rfl ?_
  refine z_calli b (z_runS (As := [.int 1, .int 0]) (st := [.int 3, .ref (a 5), .long ((1572912 ||| ((ar S 1 5) : Int32).toInt64) <<< ((1 : Int32).toInt64 &&& 63))]) b (c_X12_other_4 S ) cf_X12_other wm_X12_160 ws_X12_other dX12_packs_107 rfl (Nat.le_of_ble_eq_true rfl) ⟨by decide, by decide, by decide, by decide⟩) (fun r1481 u1482 h1480 => ?_)
  obtain ⟨rfl, rfl⟩ := h1480
  refine z_iadd (v := 5) b dX12_packs_110 (by decide) ?_
  refine y_zald (q0 := 5) (j := 5) (v := (ar S 4 5)) b (mw_5 cy a S) (by decide) rfl dX12_packs_111 ?_
  refine z_eqi h_a_4_5 ?_
  refine z_if_eq_t (tgt := 119) b dX12_packs_112 (by decide) (by decide) ?_
  refine z_lconst (v := 0) b dX12_packs_119 (by decide) ?_
  refine z_lor b dX12_packs_120 rfl ?_
  refine z_lstore_n (lv' := [(1, .long (((1572912 ||| ((ar S 1 5) : Int32).toInt64) <<< ((1 : Int32).toInt64 &&& 63)) ||| 0)), (4, .int 0), (3, .int 1), (0, .ref (a 0))]) b dX12_packs_121 rfl (by decide) rfl ?_
  refine z_iinc (k9 := 1) (v := 1) (lv' := [(4, .int 1), (1, .long (((1572912 ||| ((ar S 1 5) : Int32).toInt64) <<< ((1 : Int32).toInt64 &&& 63)) ||| 0)), (3, .int 1), (0, .ref (a 0))]) b dX12_packs_122 rfl (by decide) (by decide) rfl ?_
  refine z_goto (tgt := 67) b dX12_packs_125 (by decide) ?_
  refine z_iload b dX12_packs_67 rfl ?_
  refine z_iconst (v := 2) b dX12_packs_69 (by decide) ?_
  refine z_icmp_ge_f (tgt := 128) b dX12_packs_70 (by decide) (by decide) ?_
  refine z_lload_n b dX12_packs_73 rfl rfl ?_
  refine z_iconst (v := 3) b dX12_packs_74 (by decide) ?_
  refine z_lshl b dX12_packs_75 rfl ?_
  refine z_aload_n b dX12_packs_76 rfl rfl ?_
  refine z_get (q0 := 0) (k9 := 1) (v := .ref (a 2)) b (mw_0 cy a S) rfl in_X12 (by decide) wf_X12_17 rfl dX12_packs_77 ?_
  refine z_iconst (v := 3) b dX12_packs_80 (by decide) ?_
  refine z_iload_n b dX12_packs_81 rfl rfl ?_
  refine z_imul (v := 3) b dX12_packs_82 (by decide) ?_
  refine z_iload_n b dX12_packs_83 rfl rfl ?_
  refine z_iload b dX12_packs_84 rfl ?_
  refine z_calli b (z_runS (As := [.int 1, .int 1]) (st := [.int 3, .ref (a 2), .long ((((1572912 ||| ((ar S 1 5) : Int32).toInt64) <<< ((1 : Int32).toInt64 &&& 63)) ||| 0) <<< ((3 : Int32).toInt64 &&& 63))]) b (c_X12_other_3 S ) cf_X12_other wm_X12_160 ws_X12_other dX12_packs_86 rfl (Nat.le_of_ble_eq_true rfl) ⟨by decide, by decide, by decide, by decide⟩) (fun r1484 u1485 h1483 => ?_)
  obtain ⟨rfl, rfl⟩ := h1483
  refine z_iadd (v := 3) b dX12_packs_89 (by decide) ?_
  refine y_iald (q0 := 2) (j := 3) (v := (ar S 1 3)) b (mw_2 cy a S) (by decide) rfl dX12_packs_90 ?_
  refine z_eqi h_a_1_3 ?_
  refine z_i2l (v := 0) b dX12_packs_91 (by decide) ?_
  refine z_lor b dX12_packs_92 rfl ?_
  refine z_lstore_n (lv' := [(1, .long (((((1572912 ||| ((ar S 1 5) : Int32).toInt64) <<< ((1 : Int32).toInt64 &&& 63)) ||| 0) <<< ((3 : Int32).toInt64 &&& 63)) ||| 0)), (4, .int 1), (3, .int 1), (0, .ref (a 0))]) b dX12_packs_93 rfl (by decide) rfl ?_
  refine z_lload_n b dX12_packs_94 rfl rfl ?_
  refine z_iconst (v := 1) b dX12_packs_95 (by decide) ?_
  refine z_lshl b dX12_packs_96 rfl ?_
  refine z_aload_n b dX12_packs_97 rfl rfl ?_
  refine z_get (q0 := 0) (k9 := 4) (v := .ref (a 5)) b (mw_0 cy a S) rfl in_X12 (by decide) wf_X12_27 rfl dX12_packs_98 ?_
  refine z_iconst (v := 3) b dX12_packs_101 (by decide) ?_
  refine z_iload_n b dX12_packs_102 rfl rfl ?_
  refine z_imul (v := 3) b dX12_packs_103 (by decide) ?_
  refine z_iload_n b dX12_packs_104 rfl rfl ?_
  refine z_iload b dX12_packs_105 rfl ?_
  refine z_calli b (z_runS (As := [.int 1, .int 1]) (st := [.int 3, .ref (a 5), .long ((((((1572912 ||| ((ar S 1 5) : Int32).toInt64) <<< ((1 : Int32).toInt64 &&& 63)) ||| 0) <<< ((3 : Int32).toInt64 &&& 63)) ||| 0) <<< ((1 : Int32).toInt64 &&& 63))]) b (c_X12_other_3 S ) cf_X12_other wm_X12_160 ws_X12_other dX12_packs_107 rfl (Nat.le_of_ble_eq_true rfl) ⟨by decide, by decide, by decide, by decide⟩) (fun r1487 u1488 h1486 => ?_)
  obtain ⟨rfl, rfl⟩ := h1486
  refine z_iadd (v := 3) b dX12_packs_110 (by decide) ?_
  refine y_zald (q0 := 5) (j := 3) (v := (ar S 4 3)) b (mw_5 cy a S) (by decide) rfl dX12_packs_111 ?_
  refine z_eqi h_a_4_3 ?_
  refine z_if_eq_t (tgt := 119) b dX12_packs_112 (by decide) (by decide) ?_
  refine z_lconst (v := 0) b dX12_packs_119 (by decide) ?_
  refine z_lor b dX12_packs_120 rfl ?_
  refine z_lstore_n (lv' := [(1, .long (((((((1572912 ||| ((ar S 1 5) : Int32).toInt64) <<< ((1 : Int32).toInt64 &&& 63)) ||| 0) <<< ((3 : Int32).toInt64 &&& 63)) ||| 0) <<< ((1 : Int32).toInt64 &&& 63)) ||| 0)), (4, .int 1), (3, .int 1), (0, .ref (a 0))]) b dX12_packs_121 rfl (by decide) rfl ?_
  refine z_iinc (k9 := 1) (v := 2) (lv' := [(4, .int 2), (1, .long (((((((1572912 ||| ((ar S 1 5) : Int32).toInt64) <<< ((1 : Int32).toInt64 &&& 63)) ||| 0) <<< ((3 : Int32).toInt64 &&& 63)) ||| 0) <<< ((1 : Int32).toInt64 &&& 63)) ||| 0)), (3, .int 1), (0, .ref (a 0))]) b dX12_packs_122 rfl (by decide) (by decide) rfl ?_
  refine z_goto (tgt := 67) b dX12_packs_125 (by decide) ?_
  refine z_iload b dX12_packs_67 rfl ?_
  refine z_iconst (v := 2) b dX12_packs_69 (by decide) ?_
  refine z_icmp_ge_t (tgt := 128) b dX12_packs_70 (by decide) (by decide) ?_
  refine z_iinc (k9 := 2) (v := 2) (lv' := [(3, .int 2), (4, .int 2), (1, .long (((((((1572912 ||| ((ar S 1 5) : Int32).toInt64) <<< ((1 : Int32).toInt64 &&& 63)) ||| 0) <<< ((3 : Int32).toInt64 &&& 63)) ||| 0) <<< ((1 : Int32).toInt64 &&& 63)) ||| 0)), (0, .ref (a 0))]) b dX12_packs_128 rfl (by decide) (by decide) rfl ?_
  refine z_goto (tgt := 8) b dX12_packs_131 (by decide) ?_
  refine z_iload_n b dX12_packs_8 rfl rfl ?_
  refine z_iconst (v := 3) b dX12_packs_9 (by decide) ?_
  refine z_icmp_ge_f (tgt := 134) b dX12_packs_10 (by decide) (by decide) ?_
  refine z_lload_n b dX12_packs_13 rfl rfl ?_
  refine z_iconst (v := 4) b dX12_packs_14 (by decide) ?_
  refine z_lshl b dX12_packs_15 rfl ?_
  refine z_aload_n b dX12_packs_16 rfl rfl ?_
  refine z_get (q0 := 0) (k9 := 0) (v := .ref (a 1)) b (mw_0 cy a S) rfl in_X12 (by decide) wf_X12_13 rfl dX12_packs_17 ?_
  refine z_iload_n b dX12_packs_20 rfl rfl ?_
  refine y_iald (q0 := 1) (j := 2) (v := (ar S 0 2)) b (mw_1 cy a S) (by decide) rfl dX12_packs_21 ?_
  refine z_eqi h_a_0_2 ?_
  refine z_i2l (v := 0) b dX12_packs_22 (by decide) ?_
  refine z_lor b dX12_packs_23 rfl ?_
  refine z_lstore_n (lv' := [(1, .long (((((((((1572912 ||| ((ar S 1 5) : Int32).toInt64) <<< ((1 : Int32).toInt64 &&& 63)) ||| 0) <<< ((3 : Int32).toInt64 &&& 63)) ||| 0) <<< ((1 : Int32).toInt64 &&& 63)) ||| 0) <<< ((4 : Int32).toInt64 &&& 63)) ||| 0)), (3, .int 2), (4, .int 2), (0, .ref (a 0))]) b dX12_packs_24 rfl (by decide) rfl ?_
  refine z_lload_n b dX12_packs_25 rfl rfl ?_
  refine z_iconst (v := 2) b dX12_packs_26 (by decide) ?_
  refine z_lshl b dX12_packs_27 rfl ?_
  refine z_aload_n b dX12_packs_28 rfl rfl ?_
  refine z_get (q0 := 0) (k9 := 2) (v := .ref (a 3)) b (mw_0 cy a S) rfl in_X12 (by decide) wf_X12_20 rfl dX12_packs_29 ?_
  refine z_iload_n b dX12_packs_32 rfl rfl ?_
  refine y_iald (q0 := 3) (j := 2) (v := (ar S 2 2)) b (mw_3 cy a S) (by decide) rfl dX12_packs_33 ?_
  refine z_eqi h_a_2_2 ?_
  refine z_i2l (v := 3) b dX12_packs_34 (by decide) ?_
  refine z_lor b dX12_packs_35 rfl ?_
  refine z_lstore_n (lv' := [(1, .long (((((((((((1572912 ||| ((ar S 1 5) : Int32).toInt64) <<< ((1 : Int32).toInt64 &&& 63)) ||| 0) <<< ((3 : Int32).toInt64 &&& 63)) ||| 0) <<< ((1 : Int32).toInt64 &&& 63)) ||| 0) <<< ((4 : Int32).toInt64 &&& 63)) ||| 0) <<< ((2 : Int32).toInt64 &&& 63)) ||| 3)), (3, .int 2), (4, .int 2), (0, .ref (a 0))]) b dX12_packs_36 rfl (by decide) rfl ?_
  refine z_lload_n b dX12_packs_37 rfl rfl ?_
  exact k

set_option maxHeartbeats 4000000 in
set_option maxRecDepth 100000 in
theorem c_X12_packs_11 {l : Launch} {D : va_G} {cy : Nat → ClassId} {T0 tB tE : Nat} {a : Nat → Nat} (S : GS)  (h_i_0 : fi S 0 = 0) (h_a_0_0 : ar S 0 0 = 0) (h_a_2_0 : ar S 2 0 = 3) (h_a_3_1 : ar S 3 1 = 0) (h_a_1_1 : ar S 1 1 = 0) (h_a_4_1 : ar S 4 1 = 0) (h_a_1_2 : ar S 1 2 = 0) (h_a_4_2 : ar S 4 2 = 0) (h_a_0_1 : ar S 0 1 = 0) (h_a_2_1 : ar S 2 1 = 3) (h_a_3_5 : ar S 3 5 = 0) (h_a_4_5 : ar S 4 5 = 0) (h_a_1_3 : ar S 1 3 = 0) (h_a_4_3 : ar S 4 3 = 0) (h_a_0_2 : ar S 0 2 = 0) (h_a_2_2 : ar S 2 2 = 3) (h_a_3_6 : ar S 3 6 = 0) (h_a_1_6 : ar S 1 6 = 0) (h_a_4_6 : ar S 4 6 = 0) (h_a_1_7 : ar S 1 7 = 0) (h_a_4_7 : ar S 4 7 = 0) : Ct l D cy T0 tB tE yX12_packs cX12_packs 5 (some .long) 1 21 0 0 (mw cy a S) [.ref (a 0)] (QL D (U := GS) (fun r u => (((((((((((((((((((((1572912 ||| ((ar S 1 5) : Int32).toInt64) <<< ((1 : Int32).toInt64 &&& 63)) ||| 0) <<< ((3 : Int32).toInt64 &&& 63)) ||| 0) <<< ((1 : Int32).toInt64 &&& 63)) ||| 0) <<< ((4 : Int32).toInt64 &&& 63)) ||| 0) <<< ((2 : Int32).toInt64 &&& 63)) ||| 3) <<< ((1 : Int32).toInt64 &&& 63)) ||| 0) <<< ((3 : Int32).toInt64 &&& 63)) ||| 0) <<< ((1 : Int32).toInt64 &&& 63)) ||| 0) <<< ((3 : Int32).toInt64 &&& 63)) ||| 0) <<< ((1 : Int32).toInt64 &&& 63)) ||| 0) = r ∧ S = u) (mw cy a)) := by
  refine Ct.ofZ RX12 "packs" [(0, .ref (a 0))] rfl rfl rfl rfl (Nat.le_of_ble_eq_true rfl) ?_
  intro p e R s m args below meth c A b
  refine ch_X12_packs_24 S  h_a_0_0 h_a_1_1 h_a_1_2 h_a_2_0 h_a_3_1 h_a_4_1 h_a_4_2 h_i_0  b ?_
  refine ch_X12_packs_25 S  h_a_0_1 h_a_0_2 h_a_1_3 h_a_2_1 h_a_2_2 h_a_3_5 h_a_4_3 h_a_4_5  b ?_
  refine z_iconst (v := 1) b dX12_packs_38 (by decide) ?_
  refine z_lshl b dX12_packs_39 rfl ?_
  refine z_aload_n b dX12_packs_40 rfl rfl ?_
  refine z_get (q0 := 0) (k9 := 3) (v := .ref (a 4)) b (mw_0 cy a S) rfl in_X12 (by decide) wf_X12_23 rfl dX12_packs_41 ?_
  refine z_iconst (v := 3) b dX12_packs_44 (by decide) ?_
  refine z_iload_n b dX12_packs_45 rfl rfl ?_
  refine z_imul (v := 6) b dX12_packs_46 (by decide) ?_
  refine z_iload_n b dX12_packs_47 rfl rfl ?_
  refine z_iconst (v := 0) b dX12_packs_48 (by decide) ?_
  refine z_calli b (z_runS (As := [.int 2, .int 0]) (st := [.int 6, .ref (a 4), .long ((((((((((((1572912 ||| ((ar S 1 5) : Int32).toInt64) <<< ((1 : Int32).toInt64 &&& 63)) ||| 0) <<< ((3 : Int32).toInt64 &&& 63)) ||| 0) <<< ((1 : Int32).toInt64 &&& 63)) ||| 0) <<< ((4 : Int32).toInt64 &&& 63)) ||| 0) <<< ((2 : Int32).toInt64 &&& 63)) ||| 3) <<< ((1 : Int32).toInt64 &&& 63))]) b (c_X12_other_2 S ) cf_X12_other wm_X12_160 ws_X12_other dX12_packs_49 rfl (Nat.le_of_ble_eq_true rfl) ⟨by decide, by decide, by decide, by decide⟩) (fun r1490 u1491 h1489 => ?_)
  obtain ⟨rfl, rfl⟩ := h1489
  refine z_iadd (v := 6) b dX12_packs_52 (by decide) ?_
  refine y_zald (q0 := 4) (j := 6) (v := (ar S 3 6)) b (mw_4 cy a S) (by decide) rfl dX12_packs_53 ?_
  refine z_eqi h_a_3_6 ?_
  refine z_if_eq_t (tgt := 61) b dX12_packs_54 (by decide) (by decide) ?_
  refine z_lconst (v := 0) b dX12_packs_61 (by decide) ?_
  refine z_lor b dX12_packs_62 rfl ?_
  refine z_lstore_n (lv' := [(1, .long (((((((((((((1572912 ||| ((ar S 1 5) : Int32).toInt64) <<< ((1 : Int32).toInt64 &&& 63)) ||| 0) <<< ((3 : Int32).toInt64 &&& 63)) ||| 0) <<< ((1 : Int32).toInt64 &&& 63)) ||| 0) <<< ((4 : Int32).toInt64 &&& 63)) ||| 0) <<< ((2 : Int32).toInt64 &&& 63)) ||| 3) <<< ((1 : Int32).toInt64 &&& 63)) ||| 0)), (3, .int 2), (4, .int 2), (0, .ref (a 0))]) b dX12_packs_63 rfl (by decide) rfl ?_
  refine z_iconst (v := 0) b dX12_packs_64 (by decide) ?_
  refine z_istore (lv' := [(4, .int 0), (1, .long (((((((((((((1572912 ||| ((ar S 1 5) : Int32).toInt64) <<< ((1 : Int32).toInt64 &&& 63)) ||| 0) <<< ((3 : Int32).toInt64 &&& 63)) ||| 0) <<< ((1 : Int32).toInt64 &&& 63)) ||| 0) <<< ((4 : Int32).toInt64 &&& 63)) ||| 0) <<< ((2 : Int32).toInt64 &&& 63)) ||| 3) <<< ((1 : Int32).toInt64 &&& 63)) ||| 0)), (3, .int 2), (0, .ref (a 0))]) b dX12_packs_65 (by decide) rfl ?_
  refine z_iload b dX12_packs_67 rfl ?_
  refine z_iconst (v := 2) b dX12_packs_69 (by decide) ?_
  refine z_icmp_ge_f (tgt := 128) b dX12_packs_70 (by decide) (by decide) ?_
  refine z_lload_n b dX12_packs_73 rfl rfl ?_
  refine z_iconst (v := 3) b dX12_packs_74 (by decide) ?_
  refine z_lshl b dX12_packs_75 rfl ?_
  refine z_aload_n b dX12_packs_76 rfl rfl ?_
  refine z_get (q0 := 0) (k9 := 1) (v := .ref (a 2)) b (mw_0 cy a S) rfl in_X12 (by decide) wf_X12_17 rfl dX12_packs_77 ?_
  refine z_iconst (v := 3) b dX12_packs_80 (by decide) ?_
  refine z_iload_n b dX12_packs_81 rfl rfl ?_
  refine z_imul (v := 6) b dX12_packs_82 (by decide) ?_
  refine z_iload_n b dX12_packs_83 rfl rfl ?_
  refine z_iload b dX12_packs_84 rfl ?_
  refine z_calli b (z_runS (As := [.int 2, .int 0]) (st := [.int 6, .ref (a 2), .long ((((((((((((((1572912 ||| ((ar S 1 5) : Int32).toInt64) <<< ((1 : Int32).toInt64 &&& 63)) ||| 0) <<< ((3 : Int32).toInt64 &&& 63)) ||| 0) <<< ((1 : Int32).toInt64 &&& 63)) ||| 0) <<< ((4 : Int32).toInt64 &&& 63)) ||| 0) <<< ((2 : Int32).toInt64 &&& 63)) ||| 3) <<< ((1 : Int32).toInt64 &&& 63)) ||| 0) <<< ((3 : Int32).toInt64 &&& 63))]) b (c_X12_other_2 S ) cf_X12_other wm_X12_160 ws_X12_other dX12_packs_86 rfl (Nat.le_of_ble_eq_true rfl) ⟨by decide, by decide, by decide, by decide⟩) (fun r1493 u1494 h1492 => ?_)
  obtain ⟨rfl, rfl⟩ := h1492
  refine z_iadd (v := 6) b dX12_packs_89 (by decide) ?_
  refine y_iald (q0 := 2) (j := 6) (v := (ar S 1 6)) b (mw_2 cy a S) (by decide) rfl dX12_packs_90 ?_
  refine z_eqi h_a_1_6 ?_
  refine z_i2l (v := 0) b dX12_packs_91 (by decide) ?_
  refine z_lor b dX12_packs_92 rfl ?_
  refine z_lstore_n (lv' := [(1, .long (((((((((((((((1572912 ||| ((ar S 1 5) : Int32).toInt64) <<< ((1 : Int32).toInt64 &&& 63)) ||| 0) <<< ((3 : Int32).toInt64 &&& 63)) ||| 0) <<< ((1 : Int32).toInt64 &&& 63)) ||| 0) <<< ((4 : Int32).toInt64 &&& 63)) ||| 0) <<< ((2 : Int32).toInt64 &&& 63)) ||| 3) <<< ((1 : Int32).toInt64 &&& 63)) ||| 0) <<< ((3 : Int32).toInt64 &&& 63)) ||| 0)), (4, .int 0), (3, .int 2), (0, .ref (a 0))]) b dX12_packs_93 rfl (by decide) rfl ?_
  refine z_lload_n b dX12_packs_94 rfl rfl ?_
  refine z_iconst (v := 1) b dX12_packs_95 (by decide) ?_
  refine z_lshl b dX12_packs_96 rfl ?_
  refine z_aload_n b dX12_packs_97 rfl rfl ?_
  refine z_get (q0 := 0) (k9 := 4) (v := .ref (a 5)) b (mw_0 cy a S) rfl in_X12 (by decide) wf_X12_27 rfl dX12_packs_98 ?_
  refine z_iconst (v := 3) b dX12_packs_101 (by decide) ?_
  refine z_iload_n b dX12_packs_102 rfl rfl ?_
  refine z_imul (v := 6) b dX12_packs_103 (by decide) ?_
  refine z_iload_n b dX12_packs_104 rfl rfl ?_
  refine z_iload b dX12_packs_105 rfl ?_
  refine z_calli b (z_runS (As := [.int 2, .int 0]) (st := [.int 6, .ref (a 5), .long ((((((((((((((((1572912 ||| ((ar S 1 5) : Int32).toInt64) <<< ((1 : Int32).toInt64 &&& 63)) ||| 0) <<< ((3 : Int32).toInt64 &&& 63)) ||| 0) <<< ((1 : Int32).toInt64 &&& 63)) ||| 0) <<< ((4 : Int32).toInt64 &&& 63)) ||| 0) <<< ((2 : Int32).toInt64 &&& 63)) ||| 3) <<< ((1 : Int32).toInt64 &&& 63)) ||| 0) <<< ((3 : Int32).toInt64 &&& 63)) ||| 0) <<< ((1 : Int32).toInt64 &&& 63))]) b (c_X12_other_2 S ) cf_X12_other wm_X12_160 ws_X12_other dX12_packs_107 rfl (Nat.le_of_ble_eq_true rfl) ⟨by decide, by decide, by decide, by decide⟩) (fun r1496 u1497 h1495 => ?_)
  obtain ⟨rfl, rfl⟩ := h1495
  refine z_iadd (v := 6) b dX12_packs_110 (by decide) ?_
  refine y_zald (q0 := 5) (j := 6) (v := (ar S 4 6)) b (mw_5 cy a S) (by decide) rfl dX12_packs_111 ?_
  refine z_eqi h_a_4_6 ?_
  refine z_if_eq_t (tgt := 119) b dX12_packs_112 (by decide) (by decide) ?_
  refine z_lconst (v := 0) b dX12_packs_119 (by decide) ?_
  refine z_lor b dX12_packs_120 rfl ?_
  refine z_lstore_n (lv' := [(1, .long (((((((((((((((((1572912 ||| ((ar S 1 5) : Int32).toInt64) <<< ((1 : Int32).toInt64 &&& 63)) ||| 0) <<< ((3 : Int32).toInt64 &&& 63)) ||| 0) <<< ((1 : Int32).toInt64 &&& 63)) ||| 0) <<< ((4 : Int32).toInt64 &&& 63)) ||| 0) <<< ((2 : Int32).toInt64 &&& 63)) ||| 3) <<< ((1 : Int32).toInt64 &&& 63)) ||| 0) <<< ((3 : Int32).toInt64 &&& 63)) ||| 0) <<< ((1 : Int32).toInt64 &&& 63)) ||| 0)), (4, .int 0), (3, .int 2), (0, .ref (a 0))]) b dX12_packs_121 rfl (by decide) rfl ?_
  refine z_iinc (k9 := 1) (v := 1) (lv' := [(4, .int 1), (1, .long (((((((((((((((((1572912 ||| ((ar S 1 5) : Int32).toInt64) <<< ((1 : Int32).toInt64 &&& 63)) ||| 0) <<< ((3 : Int32).toInt64 &&& 63)) ||| 0) <<< ((1 : Int32).toInt64 &&& 63)) ||| 0) <<< ((4 : Int32).toInt64 &&& 63)) ||| 0) <<< ((2 : Int32).toInt64 &&& 63)) ||| 3) <<< ((1 : Int32).toInt64 &&& 63)) ||| 0) <<< ((3 : Int32).toInt64 &&& 63)) ||| 0) <<< ((1 : Int32).toInt64 &&& 63)) ||| 0)), (3, .int 2), (0, .ref (a 0))]) b dX12_packs_122 rfl (by decide) (by decide) rfl ?_
  refine z_goto (tgt := 67) b dX12_packs_125 (by decide) ?_
  refine z_iload b dX12_packs_67 rfl ?_
  refine z_iconst (v := 2) b dX12_packs_69 (by decide) ?_
  refine z_icmp_ge_f (tgt := 128) b dX12_packs_70 (by decide) (by decide) ?_
  refine z_lload_n b dX12_packs_73 rfl rfl ?_
  refine z_iconst (v := 3) b dX12_packs_74 (by decide) ?_
  refine z_lshl b dX12_packs_75 rfl ?_
  refine z_aload_n b dX12_packs_76 rfl rfl ?_
  refine z_get (q0 := 0) (k9 := 1) (v := .ref (a 2)) b (mw_0 cy a S) rfl in_X12 (by decide) wf_X12_17 rfl dX12_packs_77 ?_
  refine z_iconst (v := 3) b dX12_packs_80 (by decide) ?_
  refine z_iload_n b dX12_packs_81 rfl rfl ?_
  refine z_imul (v := 6) b dX12_packs_82 (by decide) ?_
  refine z_iload_n b dX12_packs_83 rfl rfl ?_
  refine z_iload b dX12_packs_84 rfl ?_
  refine z_calli b (z_runS (As := [.int 2, .int 1]) (st := [.int 6, .ref (a 2), .long ((((((((((((((((((1572912 ||| ((ar S 1 5) : Int32).toInt64) <<< ((1 : Int32).toInt64 &&& 63)) ||| 0) <<< ((3 : Int32).toInt64 &&& 63)) ||| 0) <<< ((1 : Int32).toInt64 &&& 63)) ||| 0) <<< ((4 : Int32).toInt64 &&& 63)) ||| 0) <<< ((2 : Int32).toInt64 &&& 63)) ||| 3) <<< ((1 : Int32).toInt64 &&& 63)) ||| 0) <<< ((3 : Int32).toInt64 &&& 63)) ||| 0) <<< ((1 : Int32).toInt64 &&& 63)) ||| 0) <<< ((3 : Int32).toInt64 &&& 63))]) b (c_X12_other S ) cf_X12_other wm_X12_160 ws_X12_other dX12_packs_86 rfl (Nat.le_of_ble_eq_true rfl) ⟨by decide, by decide, by decide, by decide⟩) (fun r1499 u1500 h1498 => ?_)
  obtain ⟨rfl, rfl⟩ := h1498
  refine z_iadd (v := 7) b dX12_packs_89 (by decide) ?_
  refine y_iald (q0 := 2) (j := 7) (v := (ar S 1 7)) b (mw_2 cy a S) (by decide) rfl dX12_packs_90 ?_
  refine z_eqi h_a_1_7 ?_
  refine z_i2l (v := 0) b dX12_packs_91 (by decide) ?_
  refine z_lor b dX12_packs_92 rfl ?_
  refine z_lstore_n (lv' := [(1, .long (((((((((((((((((((1572912 ||| ((ar S 1 5) : Int32).toInt64) <<< ((1 : Int32).toInt64 &&& 63)) ||| 0) <<< ((3 : Int32).toInt64 &&& 63)) ||| 0) <<< ((1 : Int32).toInt64 &&& 63)) ||| 0) <<< ((4 : Int32).toInt64 &&& 63)) ||| 0) <<< ((2 : Int32).toInt64 &&& 63)) ||| 3) <<< ((1 : Int32).toInt64 &&& 63)) ||| 0) <<< ((3 : Int32).toInt64 &&& 63)) ||| 0) <<< ((1 : Int32).toInt64 &&& 63)) ||| 0) <<< ((3 : Int32).toInt64 &&& 63)) ||| 0)), (4, .int 1), (3, .int 2), (0, .ref (a 0))]) b dX12_packs_93 rfl (by decide) rfl ?_
  refine z_lload_n b dX12_packs_94 rfl rfl ?_
  refine z_iconst (v := 1) b dX12_packs_95 (by decide) ?_
  refine z_lshl b dX12_packs_96 rfl ?_
  refine z_aload_n b dX12_packs_97 rfl rfl ?_
  refine z_get (q0 := 0) (k9 := 4) (v := .ref (a 5)) b (mw_0 cy a S) rfl in_X12 (by decide) wf_X12_27 rfl dX12_packs_98 ?_
  refine z_iconst (v := 3) b dX12_packs_101 (by decide) ?_
  refine z_iload_n b dX12_packs_102 rfl rfl ?_
  refine z_imul (v := 6) b dX12_packs_103 (by decide) ?_
  refine z_iload_n b dX12_packs_104 rfl rfl ?_
  refine z_iload b dX12_packs_105 rfl ?_
  refine z_calli b (z_runS (As := [.int 2, .int 1]) (st := [.int 6, .ref (a 5), .long ((((((((((((((((((((1572912 ||| ((ar S 1 5) : Int32).toInt64) <<< ((1 : Int32).toInt64 &&& 63)) ||| 0) <<< ((3 : Int32).toInt64 &&& 63)) ||| 0) <<< ((1 : Int32).toInt64 &&& 63)) ||| 0) <<< ((4 : Int32).toInt64 &&& 63)) ||| 0) <<< ((2 : Int32).toInt64 &&& 63)) ||| 3) <<< ((1 : Int32).toInt64 &&& 63)) ||| 0) <<< ((3 : Int32).toInt64 &&& 63)) ||| 0) <<< ((1 : Int32).toInt64 &&& 63)) ||| 0) <<< ((3 : Int32).toInt64 &&& 63)) ||| 0) <<< ((1 : Int32).toInt64 &&& 63))]) b (c_X12_other S ) cf_X12_other wm_X12_160 ws_X12_other dX12_packs_107 rfl (Nat.le_of_ble_eq_true rfl) ⟨by decide, by decide, by decide, by decide⟩) (fun r1502 u1503 h1501 => ?_)
  obtain ⟨rfl, rfl⟩ := h1501
  refine z_iadd (v := 7) b dX12_packs_110 (by decide) ?_
  refine y_zald (q0 := 5) (j := 7) (v := (ar S 4 7)) b (mw_5 cy a S) (by decide) rfl dX12_packs_111 ?_
  refine z_eqi h_a_4_7 ?_
  refine z_if_eq_t (tgt := 119) b dX12_packs_112 (by decide) (by decide) ?_
  refine z_lconst (v := 0) b dX12_packs_119 (by decide) ?_
  refine z_lor b dX12_packs_120 rfl ?_
  refine z_lstore_n (lv' := [(1, .long (((((((((((((((((((((1572912 ||| ((ar S 1 5) : Int32).toInt64) <<< ((1 : Int32).toInt64 &&& 63)) ||| 0) <<< ((3 : Int32).toInt64 &&& 63)) ||| 0) <<< ((1 : Int32).toInt64 &&& 63)) ||| 0) <<< ((4 : Int32).toInt64 &&& 63)) ||| 0) <<< ((2 : Int32).toInt64 &&& 63)) ||| 3) <<< ((1 : Int32).toInt64 &&& 63)) ||| 0) <<< ((3 : Int32).toInt64 &&& 63)) ||| 0) <<< ((1 : Int32).toInt64 &&& 63)) ||| 0) <<< ((3 : Int32).toInt64 &&& 63)) ||| 0) <<< ((1 : Int32).toInt64 &&& 63)) ||| 0)), (4, .int 1), (3, .int 2), (0, .ref (a 0))]) b dX12_packs_121 rfl (by decide) rfl ?_
  refine z_iinc (k9 := 1) (v := 2) (lv' := [(4, .int 2), (1, .long (((((((((((((((((((((1572912 ||| ((ar S 1 5) : Int32).toInt64) <<< ((1 : Int32).toInt64 &&& 63)) ||| 0) <<< ((3 : Int32).toInt64 &&& 63)) ||| 0) <<< ((1 : Int32).toInt64 &&& 63)) ||| 0) <<< ((4 : Int32).toInt64 &&& 63)) ||| 0) <<< ((2 : Int32).toInt64 &&& 63)) ||| 3) <<< ((1 : Int32).toInt64 &&& 63)) ||| 0) <<< ((3 : Int32).toInt64 &&& 63)) ||| 0) <<< ((1 : Int32).toInt64 &&& 63)) ||| 0) <<< ((3 : Int32).toInt64 &&& 63)) ||| 0) <<< ((1 : Int32).toInt64 &&& 63)) ||| 0)), (3, .int 2), (0, .ref (a 0))]) b dX12_packs_122 rfl (by decide) (by decide) rfl ?_
  refine z_goto (tgt := 67) b dX12_packs_125 (by decide) ?_
  refine z_iload b dX12_packs_67 rfl ?_
  refine z_iconst (v := 2) b dX12_packs_69 (by decide) ?_
  refine z_icmp_ge_t (tgt := 128) b dX12_packs_70 (by decide) (by decide) ?_
  refine z_iinc (k9 := 2) (v := 3) (lv' := [(3, .int 3), (4, .int 2), (1, .long (((((((((((((((((((((1572912 ||| ((ar S 1 5) : Int32).toInt64) <<< ((1 : Int32).toInt64 &&& 63)) ||| 0) <<< ((3 : Int32).toInt64 &&& 63)) ||| 0) <<< ((1 : Int32).toInt64 &&& 63)) ||| 0) <<< ((4 : Int32).toInt64 &&& 63)) ||| 0) <<< ((2 : Int32).toInt64 &&& 63)) ||| 3) <<< ((1 : Int32).toInt64 &&& 63)) ||| 0) <<< ((3 : Int32).toInt64 &&& 63)) ||| 0) <<< ((1 : Int32).toInt64 &&& 63)) ||| 0) <<< ((3 : Int32).toInt64 &&& 63)) ||| 0) <<< ((1 : Int32).toInt64 &&& 63)) ||| 0)), (0, .ref (a 0))]) b dX12_packs_128 rfl (by decide) (by decide) rfl ?_
  refine z_goto (tgt := 8) b dX12_packs_131 (by decide) ?_
  refine z_iload_n b dX12_packs_8 rfl rfl ?_
  refine z_iconst (v := 3) b dX12_packs_9 (by decide) ?_
  refine z_icmp_ge_t (tgt := 134) b dX12_packs_10 (by decide) (by decide) ?_
  refine z_lload_n b dX12_packs_134 rfl rfl ?_
  exact z_lret (u := S) b rfl dX12_packs_135 ⟨rfl, rfl⟩ rfl (by decide) (by decide)

set_option maxHeartbeats 4000000 in
set_option maxRecDepth 100000 in
theorem c_X12_told_11 {l : Launch} {D : va_G} {cy : Nat → ClassId} {T0 tB tE : Nat} {a : Nat → Nat} (S : GS)  (h_i_0 : fi S 0 = 0) (h_a_0_0 : ar S 0 0 = 0) (h_a_2_0 : ar S 2 0 = 3) (h_a_3_1 : ar S 3 1 = 0) (h_a_1_1 : ar S 1 1 = 0) (h_a_4_1 : ar S 4 1 = 0) (h_a_1_2 : ar S 1 2 = 0) (h_a_4_2 : ar S 4 2 = 0) (h_a_0_1 : ar S 0 1 = 0) (h_a_2_1 : ar S 2 1 = 3) (h_a_3_5 : ar S 3 5 = 0) (h_a_4_5 : ar S 4 5 = 0) (h_a_1_3 : ar S 1 3 = 0) (h_a_4_3 : ar S 4 3 = 0) (h_a_0_2 : ar S 0 2 = 0) (h_a_2_2 : ar S 2 2 = 3) (h_a_3_6 : ar S 3 6 = 0) (h_a_1_6 : ar S 1 6 = 0) (h_a_4_6 : ar S 4 6 = 0) (h_a_1_7 : ar S 1 7 = 0) (h_a_4_7 : ar S 4 7 = 0) : Ct l D cy T0 tB tE yX12_told cX12_told 1 (some .boolean) 2 45 0 0 (mw cy a S) [.ref (a 0)] (QI D (U := GS) (fun r u => 1 = r ∧ sl S 0 (((((((((((((((((((((1572912 ||| ((ar S 1 5) : Int32).toInt64) <<< ((1 : Int32).toInt64 &&& 63)) ||| 0) <<< ((3 : Int32).toInt64 &&& 63)) ||| 0) <<< ((1 : Int32).toInt64 &&& 63)) ||| 0) <<< ((4 : Int32).toInt64 &&& 63)) ||| 0) <<< ((2 : Int32).toInt64 &&& 63)) ||| 3) <<< ((1 : Int32).toInt64 &&& 63)) ||| 0) <<< ((3 : Int32).toInt64 &&& 63)) ||| 0) <<< ((1 : Int32).toInt64 &&& 63)) ||| 0) <<< ((3 : Int32).toInt64 &&& 63)) ||| 0) <<< ((1 : Int32).toInt64 &&& 63)) ||| 0) = u) (mw cy a)) := by
  refine Ct.ofZ RX12 "told" [(0, .ref (a 0))] rfl rfl rfl rfl (Nat.le_of_ble_eq_true rfl) ?_
  intro p e R s m args below meth c A b
  refine z_aload_n b dX12_told_0 rfl rfl ?_
  refine z_aload_n b dX12_told_1 rfl rfl ?_
  refine z_calll b (z_runV (q0 := 0) (As := []) (st := [.ref (a 0)]) b (c_X12_packs_11 S h_i_0 h_a_0_0 h_a_2_0 h_a_3_1 h_a_1_1 h_a_4_1 h_a_1_2 h_a_4_2 h_a_0_1 h_a_2_1 h_a_3_5 h_a_4_5 h_a_1_3 h_a_4_3 h_a_0_2 h_a_2_2 h_a_3_6 h_a_1_6 h_a_4_6 h_a_1_7 h_a_4_7) cf_X12_packs (mw_0 cy a S) rfl wm_X12_149 wi_X12_packs ws_X12_packs dX12_told_2 rfl (Nat.le_of_ble_eq_true rfl) ⟨by decide, by decide, by decide, by decide⟩) (fun r1505 u1506 h1504 => ?_)
  obtain ⟨rfl, rfl⟩ := h1504
  refine z_put (q0 := 0) (k9 := 6) tyX12 b (mw_0 cy a S) rfl in_X12 tyX12_ok nmX12 (by decide) wf_X12_153 rfl rfl rfl rfl (Nat.le_of_ble_eq_true rfl) dX12_told_5 (mwp_0_6 cy a S (((((((((((((((((((((1572912 ||| ((ar S 1 5) : Int32).toInt64) <<< ((1 : Int32).toInt64 &&& 63)) ||| 0) <<< ((3 : Int32).toInt64 &&& 63)) ||| 0) <<< ((1 : Int32).toInt64 &&& 63)) ||| 0) <<< ((4 : Int32).toInt64 &&& 63)) ||| 0) <<< ((2 : Int32).toInt64 &&& 63)) ||| 3) <<< ((1 : Int32).toInt64 &&& 63)) ||| 0) <<< ((3 : Int32).toInt64 &&& 63)) ||| 0) <<< ((1 : Int32).toInt64 &&& 63)) ||| 0) <<< ((3 : Int32).toInt64 &&& 63)) ||| 0) <<< ((1 : Int32).toInt64 &&& 63)) ||| 0)) ?_
  refine z_iconst (v := 1) b dX12_told_8 (by decide) ?_
  exact z_zret (u := (sl S 0 (((((((((((((((((((((1572912 ||| ((ar S 1 5) : Int32).toInt64) <<< ((1 : Int32).toInt64 &&& 63)) ||| 0) <<< ((3 : Int32).toInt64 &&& 63)) ||| 0) <<< ((1 : Int32).toInt64 &&& 63)) ||| 0) <<< ((4 : Int32).toInt64 &&& 63)) ||| 0) <<< ((2 : Int32).toInt64 &&& 63)) ||| 3) <<< ((1 : Int32).toInt64 &&& 63)) ||| 0) <<< ((3 : Int32).toInt64 &&& 63)) ||| 0) <<< ((1 : Int32).toInt64 &&& 63)) ||| 0) <<< ((3 : Int32).toInt64 &&& 63)) ||| 0) <<< ((1 : Int32).toInt64 &&& 63)) ||| 0))) b rfl (by decide) dX12_told_9 ⟨rfl, rfl⟩ rfl (by decide) (by decide)

set_option maxHeartbeats 4000000 in
set_option maxRecDepth 100000 in
theorem c_X12_debt_22 {l : Launch} {D : va_G} {cy : Nat → ClassId} {T0 tB tE : Nat} {a : Nat → Nat} (S : GS) (p0 : Int32) (h_l_0 : fl S 0 = 1649317774848) (h_a_4_7 : ar S 4 7 = 0) (h_a_1_7 : ar S 1 7 = 0) (h_a_4_6 : ar S 4 6 = 0) (h_a_1_6 : ar S 1 6 = 0) (h_a_3_6 : ar S 3 6 = 0) (h_a_3_2 : ar S 3 2 = 0) (h_a_2_2 : ar S 2 2 = 3) (h_a_0_2 : ar S 0 2 = 0) (h_a_4_3 : ar S 4 3 = 0) (h_a_1_3 : ar S 1 3 = 0) (h_a_4_5 : ar S 4 5 = 0) (h_a_1_5 : ar S 1 5 = 0) (h_a_3_5 : ar S 3 5 = 0) (h_a_3_7 : ar S 3 7 = 0) (h_a_2_1 : ar S 2 1 = 3) (h_a_0_1 : ar S 0 1 = 0) (h_a_4_2 : ar S 4 2 = 0) (h_a_1_2 : ar S 1 2 = 0) (h_a_4_1 : ar S 4 1 = 0) (h_a_1_1 : ar S 1 1 = 0) (h_a_3_1 : ar S 3 1 = 0) (h_a_3_3 : ar S 3 3 = 0) (h_a_2_0 : ar S 2 0 = 3) (h_a_0_0 : ar S 0 0 = 0) (h_i_0 : fi S 0 = 0) (hr_p0 : 0 ≤ p0.toInt ∧ p0.toInt ≤ 7) : Ct l D cy T0 tB tE yX12_debt cX12_debt 4 (some .boolean) 3 65 0 0 (mw cy a S) [.ref (a 0), .int 1, .int 2, .int p0] (QI D (U := GS) (fun r u => (((((p0.toInt < 0)) ∨ ((0 ≤ p0.toInt) ∧ (7 < p0.toInt)))) ∧ 0 = r ∧ S = u) ∨ ((((0 ≤ p0.toInt) ∧ (p0.toInt ≤ 7))) ∧ 1 = r ∧ sl (su S 1 5 p0) 0 (((((((((((((((((((((1572912 ||| ((ar (su S 1 5 p0) 1 5) : Int32).toInt64) <<< ((1 : Int32).toInt64 &&& 63)) ||| 0) <<< ((3 : Int32).toInt64 &&& 63)) ||| 0) <<< ((1 : Int32).toInt64 &&& 63)) ||| 0) <<< ((4 : Int32).toInt64 &&& 63)) ||| 0) <<< ((2 : Int32).toInt64 &&& 63)) ||| 3) <<< ((1 : Int32).toInt64 &&& 63)) ||| 0) <<< ((3 : Int32).toInt64 &&& 63)) ||| 0) <<< ((1 : Int32).toInt64 &&& 63)) ||| 0) <<< ((3 : Int32).toInt64 &&& 63)) ||| 0) <<< ((1 : Int32).toInt64 &&& 63)) ||| 0) = u)) (mw cy a)) := by
  refine Ct.ofZ RX12 "debt" [(0, .ref (a 0)), (1, .int 1), (2, .int 2), (3, .int p0)] rfl rfl rfl rfl (Nat.le_of_ble_eq_true rfl) ?_
  intro p e R s m args below meth c A b
  refine z_iload_n b dX12_debt_0 rfl rfl ?_
  refine z_calli b (z_runS (As := [.int 1]) (st := []) b (c_X12_isOne_3 S ) cf_X12_isOne wm_X12_170 ws_X12_isOne dX12_debt_1 rfl (Nat.le_of_ble_eq_true rfl) ⟨by decide, by decide, by decide, by decide⟩) (fun r1446 u1447 h1445 => ?_)
  obtain ⟨rfl, rfl⟩ := h1445
  refine z_if_eq_f (tgt := 29) b dX12_debt_4 (by decide) (by decide) ?_
  refine z_iload_n b dX12_debt_7 rfl rfl ?_
  refine z_calli b (z_runS (As := [.int 2]) (st := []) b (c_X12_isOne_4 S ) cf_X12_isOne wm_X12_170 ws_X12_isOne dX12_debt_8 rfl (Nat.le_of_ble_eq_true rfl) ⟨by decide, by decide, by decide, by decide⟩) (fun r1449 u1450 h1448 => ?_)
  obtain ⟨rfl, rfl⟩ := h1448
  refine z_if_eq_f (tgt := 29) b dX12_debt_11 (by decide) (by decide) ?_
  refine z_iload_n b dX12_debt_14 rfl rfl ?_
  refine z_iload_n b dX12_debt_15 rfl rfl ?_
  refine z_icmp_eq_f (tgt := 29) b dX12_debt_16 (by decide) (by decide) ?_
  refine z_iload_n b dX12_debt_19 rfl rfl ?_
  refine z_iconst (v := 0) b dX12_debt_20 (by decide) ?_
  refine z_bipush (v := 7) b dX12_debt_21 (by decide) ?_
  refine z_calli b (z_runS (As := [.int p0, .int 0, .int 7]) (st := []) b (c_X12_isIn_7 S p0 ) cf_X12_isIn wm_X12_1 ws_X12_isIn dX12_debt_23 rfl (Nat.le_of_ble_eq_true rfl) ⟨by decide, by decide, by decide, by decide⟩) (fun r1452 u1453 h1451 => ?_)
  rcases h1451 with ⟨c1454, rfl, rfl⟩ | ⟨c1455, rfl, rfl⟩
  · refine z_if_ne_f (tgt := 31) b dX12_debt_26 (by decide) (by decide) ?_
    refine z_iconst (v := 0) b dX12_debt_29 (by decide) ?_
    exact z_zret (u := S) b rfl (by decide) dX12_debt_30 (Or.inl ⟨c1454, rfl, rfl⟩) rfl (by decide) (by decide)
  · refine z_if_ne_t (tgt := 31) b dX12_debt_26 (by decide) (by decide) ?_
    refine z_aload_n b dX12_debt_31 rfl rfl ?_
    refine z_aload_n b dX12_debt_32 rfl rfl ?_
    refine z_get (q0 := 0) (k9 := 6) (v := .long (fl S 0)) b (mw_0 cy a S) rfl in_X12 (by decide) wf_X12_153 rfl dX12_debt_33 ?_
    refine z_eql h_l_0 ?_
    refine z_callv b (z_runV (q0 := 0) (As := [.long 1649317774848]) (st := []) b (c_X12_takes S h_a_4_7 h_a_1_7 h_a_4_6 h_a_1_6 h_a_3_6 h_a_3_2 h_a_2_2 h_a_0_2 h_a_4_3 h_a_1_3 h_a_4_5 h_a_1_5 h_a_3_5 h_a_3_7 h_a_2_1 h_a_0_1 h_a_4_2 h_a_1_2 h_a_4_1 h_a_1_1 h_a_3_1 h_a_3_3 h_a_2_0 h_a_0_0 h_i_0) cf_X12_takes (mw_0 cy a S) rfl wm_X12_174 wi_X12_takes ws_X12_takes dX12_debt_36 rfl (Nat.le_of_ble_eq_true rfl) ⟨by decide, by decide, by decide, by decide⟩) (fun u1458 h1456 => ?_)
    obtain rfl := h1456
    refine z_aload_n b dX12_debt_39 rfl rfl ?_
    refine z_get (q0 := 0) (k9 := 1) (v := .ref (a 2)) b (mw_0 cy a S) rfl in_X12 (by decide) wf_X12_17 rfl dX12_debt_40 ?_
    refine z_iconst (v := 3) b dX12_debt_43 (by decide) ?_
    refine z_iload_n b dX12_debt_44 rfl rfl ?_
    refine z_imul (v := 3) b dX12_debt_45 (by decide) ?_
    refine z_iload_n b dX12_debt_46 rfl rfl ?_
    refine z_iadd (v := 5) b dX12_debt_47 (by decide) ?_
    refine z_iload_n b dX12_debt_48 rfl rfl ?_
    refine y_iast (q0 := 2) (j := 5) b (mw_2 cy a S) (by decide) dX12_debt_49 (mwa_2 cy a S 5 p0) ?_
    refine z_aload_n b dX12_debt_50 rfl rfl ?_
    refine z_calli b (z_runV (q0 := 0) (As := []) (st := []) b (c_X12_told_11 (su S 1 5 p0) h_i_0 h_a_0_0 h_a_2_0 h_a_3_1 h_a_1_1 h_a_4_1 h_a_1_2 h_a_4_2 h_a_0_1 h_a_2_1 h_a_3_5 h_a_4_5 h_a_1_3 h_a_4_3 h_a_0_2 h_a_2_2 h_a_3_6 h_a_1_6 h_a_4_6 h_a_1_7 h_a_4_7) cf_X12_told (mw_0 cy a (su S 1 5 p0)) rfl wm_X12_178 wi_X12_told ws_X12_told dX12_debt_51 rfl (Nat.le_of_ble_eq_true rfl) ⟨by decide, by decide, by decide, by decide⟩) (fun r1508 u1509 h1507 => ?_)
    obtain ⟨rfl, rfl⟩ := h1507
    exact z_zret (u := (sl (su S 1 5 p0) 0 (((((((((((((((((((((1572912 ||| ((ar (su S 1 5 p0) 1 5) : Int32).toInt64) <<< ((1 : Int32).toInt64 &&& 63)) ||| 0) <<< ((3 : Int32).toInt64 &&& 63)) ||| 0) <<< ((1 : Int32).toInt64 &&& 63)) ||| 0) <<< ((4 : Int32).toInt64 &&& 63)) ||| 0) <<< ((2 : Int32).toInt64 &&& 63)) ||| 3) <<< ((1 : Int32).toInt64 &&& 63)) ||| 0) <<< ((3 : Int32).toInt64 &&& 63)) ||| 0) <<< ((1 : Int32).toInt64 &&& 63)) ||| 0) <<< ((3 : Int32).toInt64 &&& 63)) ||| 0) <<< ((1 : Int32).toInt64 &&& 63)) ||| 0))) b rfl (by decide) dX12_debt_54 (Or.inr ⟨c1455, rfl, rfl⟩) rfl (by decide) (by decide)

set_option maxHeartbeats 4000000 in
set_option maxRecDepth 100000 in
theorem c_X11_debt_23 {l : Launch} {D : va_G} {cy : Nat → ClassId} {T0 tB tE : Nat} {a : Nat → Nat} {rw : Nat → Option Nat} (S : GS) (p0 : Int32)  (hr_p0 : 8 ≤ p0.toInt ∧ p0.toInt ≤ 2147483647) : Ct l D cy T0 tB tE yX11_debt cX11_debt 4 (some .boolean) 2 41 0 0 (cw cy tE a rw S) [.ref (a 0), .int 1, .int 2, .int p0] (QI D (U := GS) (fun r u => 0 = r ∧ S = u) (cw cy tE a rw)) := by
  refine Ct.ofZ RX11 "debt" [(0, .ref (a 0)), (1, .int 1), (2, .int 2), (3, .int p0)] rfl rfl rfl rfl (Nat.le_of_ble_eq_true rfl) ?_
  intro p e R s m args below meth c A b
  refine z_iload_n b dX11_debt_0 rfl rfl ?_
  refine z_iload_n b dX11_debt_1 rfl rfl ?_
  refine z_calli b (z_runS (As := [.int 1, .int 2]) (st := []) b (c_X11_arePair_11 S ) cf_X11_arePair wm_X11_84 ws_X11_arePair dX11_debt_2 rfl (Nat.le_of_ble_eq_true rfl) ⟨by decide, by decide, by decide, by decide⟩) (fun r1511 u1512 h1510 => ?_)
  obtain ⟨rfl, rfl⟩ := h1510
  refine z_if_eq_f (tgt := 17) b dX11_debt_5 (by decide) (by decide) ?_
  refine z_iload_n b dX11_debt_8 rfl rfl ?_
  refine z_bipush (v := 7) b dX11_debt_9 (by decide) ?_
  refine z_calli b (z_runS (As := [.int p0, .int 7]) (st := []) b (c_X11_isWithin_3 S p0 ) cf_X11_isWithin wm_X11_73 ws_X11_isWithin dX11_debt_11 rfl (Nat.le_of_ble_eq_true rfl) ⟨by decide, by decide, by decide, by decide⟩) (fun r1514 u1515 h1513 => ?_)
  rcases h1513 with ⟨c1516, rfl, rfl⟩ | ⟨c1517, rfl, rfl⟩
  · refine z_if_ne_f (tgt := 19) b dX11_debt_14 (by decide) (by decide) ?_
    refine z_iconst (v := 0) b dX11_debt_17 (by decide) ?_
    exact z_zret (u := S) b rfl (by decide) dX11_debt_18 ⟨rfl, rfl⟩ rfl (by decide) (by decide)
  · exfalso; omega

set_option maxHeartbeats 4000000 in
set_option maxRecDepth 100000 in
theorem c_X12_debt_23 {l : Launch} {D : va_G} {cy : Nat → ClassId} {T0 tB tE : Nat} {a : Nat → Nat} (S : GS) (p0 : Int32)  (hr_p0 : 8 ≤ p0.toInt ∧ p0.toInt ≤ 2147483647) : Ct l D cy T0 tB tE yX12_debt cX12_debt 4 (some .boolean) 2 42 0 0 (mw cy a S) [.ref (a 0), .int 1, .int 2, .int p0] (QI D (U := GS) (fun r u => 0 = r ∧ S = u) (mw cy a)) := by
  refine Ct.ofZ RX12 "debt" [(0, .ref (a 0)), (1, .int 1), (2, .int 2), (3, .int p0)] rfl rfl rfl rfl (Nat.le_of_ble_eq_true rfl) ?_
  intro p e R s m args below meth c A b
  refine z_iload_n b dX12_debt_0 rfl rfl ?_
  refine z_calli b (z_runS (As := [.int 1]) (st := []) b (c_X12_isOne_3 S ) cf_X12_isOne wm_X12_170 ws_X12_isOne dX12_debt_1 rfl (Nat.le_of_ble_eq_true rfl) ⟨by decide, by decide, by decide, by decide⟩) (fun r1519 u1520 h1518 => ?_)
  obtain ⟨rfl, rfl⟩ := h1518
  refine z_if_eq_f (tgt := 29) b dX12_debt_4 (by decide) (by decide) ?_
  refine z_iload_n b dX12_debt_7 rfl rfl ?_
  refine z_calli b (z_runS (As := [.int 2]) (st := []) b (c_X12_isOne_4 S ) cf_X12_isOne wm_X12_170 ws_X12_isOne dX12_debt_8 rfl (Nat.le_of_ble_eq_true rfl) ⟨by decide, by decide, by decide, by decide⟩) (fun r1522 u1523 h1521 => ?_)
  obtain ⟨rfl, rfl⟩ := h1521
  refine z_if_eq_f (tgt := 29) b dX12_debt_11 (by decide) (by decide) ?_
  refine z_iload_n b dX12_debt_14 rfl rfl ?_
  refine z_iload_n b dX12_debt_15 rfl rfl ?_
  refine z_icmp_eq_f (tgt := 29) b dX12_debt_16 (by decide) (by decide) ?_
  refine z_iload_n b dX12_debt_19 rfl rfl ?_
  refine z_iconst (v := 0) b dX12_debt_20 (by decide) ?_
  refine z_bipush (v := 7) b dX12_debt_21 (by decide) ?_
  refine z_calli b (z_runS (As := [.int p0, .int 0, .int 7]) (st := []) b (c_X12_isIn_7 S p0 ) cf_X12_isIn wm_X12_1 ws_X12_isIn dX12_debt_23 rfl (Nat.le_of_ble_eq_true rfl) ⟨by decide, by decide, by decide, by decide⟩) (fun r1525 u1526 h1524 => ?_)
  rcases h1524 with ⟨c1527, rfl, rfl⟩ | ⟨c1528, rfl, rfl⟩
  · refine z_if_ne_f (tgt := 31) b dX12_debt_26 (by decide) (by decide) ?_
    refine z_iconst (v := 0) b dX12_debt_29 (by decide) ?_
    exact z_zret (u := S) b rfl (by decide) dX12_debt_30 ⟨rfl, rfl⟩ rfl (by decide) (by decide)
  · exfalso; omega

set_option maxHeartbeats 4000000 in
set_option maxRecDepth 100000 in
theorem c_X11_arePair_12 {l : Launch} {D : va_G} {cy : Nat → ClassId} {T0 tB tE : Nat} {a : Nat → Nat} {rw : Nat → Option Nat} (S : GS)   : Ct l D cy T0 tB tE yX11_arePair cX11_arePair 2 (some .boolean) 1 20 0 0 (cw cy tE a rw S) [.int 2, .int 0] (QI D (U := GS) (fun r u => 1 = r ∧ S = u) (cw cy tE a rw)) := by
  refine Ct.ofZ RX11 "arePair" [(0, .int 2), (1, .int 0)] rfl rfl rfl rfl (Nat.le_of_ble_eq_true rfl) ?_
  intro p e R s m args below meth c A b
  refine z_iload_n b dX11_arePair_0 rfl rfl ?_
  refine z_calli b (z_runS (As := [.int 2]) (st := []) b (c_X11_isPerson_4 S ) cf_X11_isPerson wm_X11_69 ws_X11_isPerson dX11_arePair_1 rfl (Nat.le_of_ble_eq_true rfl) ⟨by decide, by decide, by decide, by decide⟩) (fun r1530 u1531 h1529 => ?_)
  obtain ⟨rfl, rfl⟩ := h1529
  refine z_if_eq_f (tgt := 23) b dX11_arePair_4 (by decide) (by decide) ?_
  refine z_iload_n b dX11_arePair_7 rfl rfl ?_
  refine z_calli b (z_runS (As := [.int 0]) (st := []) b (c_X11_isPerson_2 S ) cf_X11_isPerson wm_X11_69 ws_X11_isPerson dX11_arePair_8 rfl (Nat.le_of_ble_eq_true rfl) ⟨by decide, by decide, by decide, by decide⟩) (fun r1533 u1534 h1532 => ?_)
  obtain ⟨rfl, rfl⟩ := h1532
  refine z_if_eq_f (tgt := 23) b dX11_arePair_11 (by decide) (by decide) ?_
  refine z_iload_n b dX11_arePair_14 rfl rfl ?_
  refine z_iload_n b dX11_arePair_15 rfl rfl ?_
  refine z_icmp_eq_f (tgt := 23) b dX11_arePair_16 (by decide) (by decide) ?_
  refine z_iconst (v := 1) b dX11_arePair_19 (by decide) ?_
  refine z_goto (tgt := 24) b dX11_arePair_20 (by decide) ?_
  exact z_zret (u := S) b rfl (by decide) dX11_arePair_24 ⟨rfl, rfl⟩ rfl (by decide) (by decide)

set_option maxHeartbeats 4000000 in
set_option maxRecDepth 100000 in
theorem c_X11_debt_24 {l : Launch} {D : va_G} {cy : Nat → ClassId} {T0 tB tE : Nat} {a : Nat → Nat} {rw : Nat → Option Nat} (S : GS) (p0 : Int32)  (hr_p0 : (-2147483648) ≤ p0.toInt ∧ p0.toInt ≤ (-1)) : Ct l D cy T0 tB tE yX11_debt cX11_debt 4 (some .boolean) 2 41 0 0 (cw cy tE a rw S) [.ref (a 0), .int 2, .int 0, .int p0] (QI D (U := GS) (fun r u => 0 = r ∧ S = u) (cw cy tE a rw)) := by
  refine Ct.ofZ RX11 "debt" [(0, .ref (a 0)), (1, .int 2), (2, .int 0), (3, .int p0)] rfl rfl rfl rfl (Nat.le_of_ble_eq_true rfl) ?_
  intro p e R s m args below meth c A b
  refine z_iload_n b dX11_debt_0 rfl rfl ?_
  refine z_iload_n b dX11_debt_1 rfl rfl ?_
  refine z_calli b (z_runS (As := [.int 2, .int 0]) (st := []) b (c_X11_arePair_12 S ) cf_X11_arePair wm_X11_84 ws_X11_arePair dX11_debt_2 rfl (Nat.le_of_ble_eq_true rfl) ⟨by decide, by decide, by decide, by decide⟩) (fun r1536 u1537 h1535 => ?_)
  obtain ⟨rfl, rfl⟩ := h1535
  refine z_if_eq_f (tgt := 17) b dX11_debt_5 (by decide) (by decide) ?_
  refine z_iload_n b dX11_debt_8 rfl rfl ?_
  refine z_bipush (v := 7) b dX11_debt_9 (by decide) ?_
  refine z_calli b (z_runS (As := [.int p0, .int 7]) (st := []) b (c_X11_isWithin_3 S p0 ) cf_X11_isWithin wm_X11_73 ws_X11_isWithin dX11_debt_11 rfl (Nat.le_of_ble_eq_true rfl) ⟨by decide, by decide, by decide, by decide⟩) (fun r1539 u1540 h1538 => ?_)
  rcases h1538 with ⟨c1541, rfl, rfl⟩ | ⟨c1542, rfl, rfl⟩
  · refine z_if_ne_f (tgt := 19) b dX11_debt_14 (by decide) (by decide) ?_
    refine z_iconst (v := 0) b dX11_debt_17 (by decide) ?_
    exact z_zret (u := S) b rfl (by decide) dX11_debt_18 ⟨rfl, rfl⟩ rfl (by decide) (by decide)
  · exfalso; omega

set_option maxHeartbeats 4000000 in
set_option maxRecDepth 100000 in
theorem c_X12_debt_24 {l : Launch} {D : va_G} {cy : Nat → ClassId} {T0 tB tE : Nat} {a : Nat → Nat} (S : GS) (p0 : Int32)  (hr_p0 : (-2147483648) ≤ p0.toInt ∧ p0.toInt ≤ (-1)) : Ct l D cy T0 tB tE yX12_debt cX12_debt 4 (some .boolean) 2 42 0 0 (mw cy a S) [.ref (a 0), .int 2, .int 0, .int p0] (QI D (U := GS) (fun r u => 0 = r ∧ S = u) (mw cy a)) := by
  refine Ct.ofZ RX12 "debt" [(0, .ref (a 0)), (1, .int 2), (2, .int 0), (3, .int p0)] rfl rfl rfl rfl (Nat.le_of_ble_eq_true rfl) ?_
  intro p e R s m args below meth c A b
  refine z_iload_n b dX12_debt_0 rfl rfl ?_
  refine z_calli b (z_runS (As := [.int 2]) (st := []) b (c_X12_isOne_4 S ) cf_X12_isOne wm_X12_170 ws_X12_isOne dX12_debt_1 rfl (Nat.le_of_ble_eq_true rfl) ⟨by decide, by decide, by decide, by decide⟩) (fun r1544 u1545 h1543 => ?_)
  obtain ⟨rfl, rfl⟩ := h1543
  refine z_if_eq_f (tgt := 29) b dX12_debt_4 (by decide) (by decide) ?_
  refine z_iload_n b dX12_debt_7 rfl rfl ?_
  refine z_calli b (z_runS (As := [.int 0]) (st := []) b (c_X12_isOne_2 S ) cf_X12_isOne wm_X12_170 ws_X12_isOne dX12_debt_8 rfl (Nat.le_of_ble_eq_true rfl) ⟨by decide, by decide, by decide, by decide⟩) (fun r1547 u1548 h1546 => ?_)
  obtain ⟨rfl, rfl⟩ := h1546
  refine z_if_eq_f (tgt := 29) b dX12_debt_11 (by decide) (by decide) ?_
  refine z_iload_n b dX12_debt_14 rfl rfl ?_
  refine z_iload_n b dX12_debt_15 rfl rfl ?_
  refine z_icmp_eq_f (tgt := 29) b dX12_debt_16 (by decide) (by decide) ?_
  refine z_iload_n b dX12_debt_19 rfl rfl ?_
  refine z_iconst (v := 0) b dX12_debt_20 (by decide) ?_
  refine z_bipush (v := 7) b dX12_debt_21 (by decide) ?_
  refine z_calli b (z_runS (As := [.int p0, .int 0, .int 7]) (st := []) b (c_X12_isIn_7 S p0 ) cf_X12_isIn wm_X12_1 ws_X12_isIn dX12_debt_23 rfl (Nat.le_of_ble_eq_true rfl) ⟨by decide, by decide, by decide, by decide⟩) (fun r1550 u1551 h1549 => ?_)
  rcases h1549 with ⟨c1552, rfl, rfl⟩ | ⟨c1553, rfl, rfl⟩
  · refine z_if_ne_f (tgt := 31) b dX12_debt_26 (by decide) (by decide) ?_
    refine z_iconst (v := 0) b dX12_debt_29 (by decide) ?_
    exact z_zret (u := S) b rfl (by decide) dX12_debt_30 ⟨rfl, rfl⟩ rfl (by decide) (by decide)
  · exfalso; omega

set_option maxHeartbeats 4000000 in
set_option maxRecDepth 100000 in
theorem c_X9_set_12 {l : Launch} {D : va_G} {cy : Nat → ClassId} {T0 tB tE : Nat} {a : Nat → Nat} {rw : Nat → Option Nat} (S : GS) (p0 : Int32)  : Ct l D cy T0 tB tE yX9_set cX9_set 3 none 0 0 0 0 (cw cy tE a rw S) [.ref (a 14), .int 16, .int p0] (QV D (U := GS) (fun u => su S 4 16 p0 = u) (cw cy tE a rw)) := by
  refine Ct.ofZ RX9 "set" [(0, .ref (a 14)), (1, .int 16), (2, .int p0)] rfl rfl rfl rfl (Nat.le_of_ble_eq_true rfl) ?_
  intro p e R s m args below meth c A b
  refine z_iload_n b dX9_set_0 rfl rfl ?_
  refine z_if_lt_f (tgt := 20) b dX9_set_1 (by decide) (by decide) ?_
  refine z_iload_n b dX9_set_4 rfl rfl ?_
  refine z_aload_n b dX9_set_5 rfl rfl ?_
  refine z_get (q0 := 14) (k9 := 0) (v := .ref (a 15)) b (cw_14 cy tE a rw S) rfl in_X9 (by decide) wf_X9_11 rfl dX9_set_6 ?_
  refine z_alen (q0 := 15) (t0 := 0) (v := 51) b (cw_15 cy tE a rw S) rfl rfl dX9_set_9 ?_
  refine z_icmp_ge_f (tgt := 20) b dX9_set_10 (by decide) (by decide) ?_
  refine z_aload_n b dX9_set_13 rfl rfl ?_
  refine z_get (q0 := 14) (k9 := 0) (v := .ref (a 15)) b (cw_14 cy tE a rw S) rfl in_X9 (by decide) wf_X9_11 rfl dX9_set_14 ?_
  refine z_iload_n b dX9_set_17 rfl rfl ?_
  refine z_iload_n b dX9_set_18 rfl rfl ?_
  refine y_iast (q0 := 15) (j := 16) b (cw_15 cy tE a rw S) (by decide) dX9_set_19 (cwa_15 cy tE a rw S 16 p0) ?_
  exact z_vret (u := (su S 4 16 p0)) b rfl dX9_set_20 rfl rfl (by decide) (by decide)

set_option maxHeartbeats 4000000 in
set_option maxRecDepth 100000 in
theorem c_X11_debt_25 {l : Launch} {D : va_G} {cy : Nat → ClassId} {T0 tB tE : Nat} {a : Nat → Nat} {rw : Nat → Option Nat} (S : GS) (p0 : Int32) (h_i_24 : fi S 24 = 0) (hr_p0 : 0 ≤ p0.toInt ∧ p0.toInt ≤ 7) : Ct l D cy T0 tB tE yX11_debt cX11_debt 4 (some .boolean) 2 41 0 0 (cw cy tE a rw S) [.ref (a 0), .int 2, .int 0, .int p0] (QI D (U := GS) (fun r u => (((((p0.toInt < 0)) ∨ ((0 ≤ p0.toInt) ∧ (7 < p0.toInt)))) ∧ 0 = r ∧ S = u) ∨ ((((0 ≤ p0.toInt) ∧ (p0.toInt ≤ 7))) ∧ 1 = r ∧ (su S 4 16 p0) = u)) (cw cy tE a rw)) := by
  refine Ct.ofZ RX11 "debt" [(0, .ref (a 0)), (1, .int 2), (2, .int 0), (3, .int p0)] rfl rfl rfl rfl (Nat.le_of_ble_eq_true rfl) ?_
  intro p e R s m args below meth c A b
  refine z_iload_n b dX11_debt_0 rfl rfl ?_
  refine z_iload_n b dX11_debt_1 rfl rfl ?_
  refine z_calli b (z_runS (As := [.int 2, .int 0]) (st := []) b (c_X11_arePair_12 S ) cf_X11_arePair wm_X11_84 ws_X11_arePair dX11_debt_2 rfl (Nat.le_of_ble_eq_true rfl) ⟨by decide, by decide, by decide, by decide⟩) (fun r1555 u1556 h1554 => ?_)
  obtain ⟨rfl, rfl⟩ := h1554
  refine z_if_eq_f (tgt := 17) b dX11_debt_5 (by decide) (by decide) ?_
  refine z_iload_n b dX11_debt_8 rfl rfl ?_
  refine z_bipush (v := 7) b dX11_debt_9 (by decide) ?_
  refine z_calli b (z_runS (As := [.int p0, .int 7]) (st := []) b (c_X11_isWithin_3 S p0 ) cf_X11_isWithin wm_X11_73 ws_X11_isWithin dX11_debt_11 rfl (Nat.le_of_ble_eq_true rfl) ⟨by decide, by decide, by decide, by decide⟩) (fun r1558 u1559 h1557 => ?_)
  rcases h1557 with ⟨c1560, rfl, rfl⟩ | ⟨c1561, rfl, rfl⟩
  · refine z_if_ne_f (tgt := 19) b dX11_debt_14 (by decide) (by decide) ?_
    refine z_iconst (v := 0) b dX11_debt_17 (by decide) ?_
    exact z_zret (u := S) b rfl (by decide) dX11_debt_18 (Or.inl ⟨c1560, rfl, rfl⟩) rfl (by decide) (by decide)
  · refine z_if_ne_t (tgt := 19) b dX11_debt_14 (by decide) (by decide) ?_
    refine z_aload_n b dX11_debt_19 rfl rfl ?_
    refine z_get (q0 := 0) (k9 := 4) (v := .ref (a 14)) b (cw_0 cy tE a rw S) rfl in_X11 (by decide) wf_X11_34 rfl dX11_debt_20 ?_
    refine z_bipush (v := 10) b dX11_debt_23 (by decide) ?_
    refine z_iconst (v := 3) b dX11_debt_25 (by decide) ?_
    refine z_iload_n b dX11_debt_26 rfl rfl ?_
    refine z_imul (v := 6) b dX11_debt_27 (by decide) ?_
    refine z_iadd (v := 16) b dX11_debt_28 (by decide) ?_
    refine z_iload_n b dX11_debt_29 rfl rfl ?_
    refine z_iadd (v := 16) b dX11_debt_30 (by decide) ?_
    refine z_iload_n b dX11_debt_31 rfl rfl ?_
    refine z_callv b (z_runV (q0 := 14) (As := [.int 16, .int p0]) (st := []) b (c_X9_set_12 S p0 ) cf_X9_set (cw_14 cy tE a rw S) rfl wm_X11_77 wi_X9_set ws_X9_set dX11_debt_32 rfl (Nat.le_of_ble_eq_true rfl) ⟨by decide, by decide, by decide, by decide⟩) (fun u1564 h1562 => ?_)
    obtain rfl := h1562
    refine z_aload_n b dX11_debt_35 rfl rfl ?_
    refine z_get (q0 := 0) (k9 := 6) (v := .ref (a 25)) b (cw_0 cy tE a rw (su S 4 16 p0)) rfl in_X11 (by decide) wf_X11_52 rfl dX11_debt_36 ?_
    refine z_callv b (z_runV (q0 := 25) (As := []) (st := []) b (c_X8_forget (su S 4 16 p0) h_i_24) cf_X8_forget (cw_25 cy tE a rw (su S 4 16 p0)) rfl wm_X11_81 wi_X8_forget ws_X8_forget dX11_debt_39 rfl (Nat.le_of_ble_eq_true rfl) ⟨by decide, by decide, by decide, by decide⟩) (fun u1567 h1565 => ?_)
    obtain rfl := h1565
    refine z_iconst (v := 1) b dX11_debt_42 (by decide) ?_
    exact z_zret (u := (su S 4 16 p0)) b rfl (by decide) dX11_debt_43 (Or.inr ⟨c1561, rfl, rfl⟩) rfl (by decide) (by decide)

set_option maxHeartbeats 4000000 in
set_option maxRecDepth 100000 in
theorem ch_X12_packs_26 {p : Program} {l : Launch} {e : Env} {R : Room} {s : State} {m : MethodId} {args : Array Value} {below : List Frame} {meth : Method} {c : Code} {D : va_G} {cy : Nat → ClassId} {T0 tB tE : Nat} {A : Nat → Prop} {Q : State → Prop} {a : Nat → Nat} (S : GS)  (h_a_0_0 : ar S 0 0 = 0) (h_a_1_1 : ar S 1 1 = 0) (h_a_1_2 : ar S 1 2 = 0) (h_a_2_0 : ar S 2 0 = 3) (h_a_3_1 : ar S 3 1 = 0) (h_a_4_1 : ar S 4 1 = 0) (h_a_4_2 : ar S 4 2 = 0) (h_i_0 : fi S 0 = 0) (b : Bz p R s m args meth c D cy T0 tB tE A 5 cX12_packs RX12 (some .long) "packs" 1 21 0 0) (k : Z p l e R s m args below meth c D A 5 Q 0 0 (mw cy a S) [(3, .int 1), (4, .int 2), (1, .long 1536), (0, .ref (a 0))] 21 [.int 1, .ref (a 1), .long 24576]) : Z p l e R s m args below meth c D A 5 Q 0 0 (mw cy a S) [(0, .ref (a 0))] 0 [] := by
  refine z_aload_n b dX12_packs_0 rfl rfl ?_
  refine z_get (q0 := 0) (k9 := 5) (v := .int (fi S 0)) b (mw_0 cy a S) rfl in_X12 (by decide) wf_X12_157 rfl dX12_packs_1 ?_
  refine z_eqi h_i_0 ?_
  refine z_i2l (v := 0) b dX12_packs_4 (by decide) ?_
  refine z_lstore_n (lv' := [(1, .long 0), (0, .ref (a 0))]) b dX12_packs_5 rfl (by decide) rfl ?_
  refine z_iconst (v := 0) b dX12_packs_6 (by decide) ?_
  refine z_istore_n (lv' := [(3, .int 0), (1, .long 0), (0, .ref (a 0))]) b dX12_packs_7 rfl (by decide) rfl ?_
  refine z_iload_n b dX12_packs_8 rfl rfl ?_
  refine z_iconst (v := 3) b dX12_packs_9 (by decide) ?_
  refine z_icmp_ge_f (tgt := 134) b dX12_packs_10 (by decide) (by decide) ?_
  refine z_lload_n b dX12_packs_13 rfl rfl ?_
  refine z_iconst (v := 4) b dX12_packs_14 (by decide) ?_
  refine z_lshl (v := 0) b dX12_packs_15 (by decide) ?_
  refine z_aload_n b dX12_packs_16 rfl rfl ?_
  refine z_get (q0 := 0) (k9 := 0) (v := .ref (a 1)) b (mw_0 cy a S) rfl in_X12 (by decide) wf_X12_13 rfl dX12_packs_17 ?_
  refine z_iload_n b dX12_packs_20 rfl rfl ?_
  refine y_iald (q0 := 1) (j := 0) (v := (ar S 0 0)) b (mw_1 cy a S) (by decide) rfl dX12_packs_21 ?_
  refine z_eqi h_a_0_0 ?_
  refine z_i2l (v := 0) b dX12_packs_22 (by decide) ?_
  refine z_lor (v := 0) b dX12_packs_23 (by decide) ?_
  refine z_lstore_n (lv' := [(1, .long 0), (3, .int 0), (0, .ref (a 0))]) b dX12_packs_24 rfl (by decide) rfl ?_
  refine z_lload_n b dX12_packs_25 rfl rfl ?_
  refine z_iconst (v := 2) b dX12_packs_26 (by decide) ?_
  refine z_lshl (v := 0) b dX12_packs_27 (by decide) ?_
  refine z_aload_n b dX12_packs_28 rfl rfl ?_
  refine z_get (q0 := 0) (k9 := 2) (v := .ref (a 3)) b (mw_0 cy a S) rfl in_X12 (by decide) wf_X12_20 rfl dX12_packs_29 ?_
  refine z_iload_n b dX12_packs_32 rfl rfl ?_
  refine y_iald (q0 := 3) (j := 0) (v := (ar S 2 0)) b (mw_3 cy a S) (by decide) rfl dX12_packs_33 ?_
  refine z_eqi h_a_2_0 ?_
  refine z_i2l (v := 3) b dX12_packs_34 (by decide) ?_
  refine z_lor (v := 3) b dX12_packs_35 (by decide) ?_
  refine z_lstore_n (lv' := [(1, .long 3), (3, .int 0), (0, .ref (a 0))]) b dX12_packs_36 rfl (by decide) rfl ?_
  refine z_lload_n b dX12_packs_37 rfl rfl ?_
  refine z_iconst (v := 1) b dX12_packs_38 (by decide) ?_
  refine z_lshl (v := 6) b dX12_packs_39 (by decide) ?_
  refine z_aload_n b dX12_packs_40 rfl rfl ?_
  refine z_get (q0 := 0) (k9 := 3) (v := .ref (a 4)) b (mw_0 cy a S) rfl in_X12 (by decide) wf_X12_23 rfl dX12_packs_41 ?_
  refine z_iconst (v := 3) b dX12_packs_44 (by decide) ?_
  refine z_iload_n b dX12_packs_45 rfl rfl ?_
  refine z_imul (v := 0) b dX12_packs_46 (by decide) ?_
  refine z_iload_n b dX12_packs_47 rfl rfl ?_
  refine z_iconst (v := 0) b dX12_packs_48 (by decide) ?_
  refine z_calli b (z_runS (As := [.int 0, .int 0]) (st := [.int 0, .ref (a 4), .long 6]) b (c_X12_other_6 S ) cf_X12_other wm_X12_160 ws_X12_other dX12_packs_49 rfl (Nat.le_of_ble_eq_true rfl) ⟨by decide, by decide, by decide, by decide⟩) (fun r1583 u1584 h1582 => ?_)
  obtain ⟨rfl, rfl⟩ := h1582
  refine z_iadd (v := 1) b dX12_packs_52 (by decide) ?_
  refine y_zald (q0 := 4) (j := 1) (v := (ar S 3 1)) b (mw_4 cy a S) (by decide) rfl dX12_packs_53 ?_
  refine z_eqi h_a_3_1 ?_
  refine z_if_eq_t (tgt := 61) b dX12_packs_54 (by decide) (by decide) ?_
  refine z_lconst (v := 0) b dX12_packs_61 (by decide) ?_
  refine z_lor (v := 6) b dX12_packs_62 (by decide) ?_
  refine z_lstore_n (lv' := [(1, .long 6), (3, .int 0), (0, .ref (a 0))]) b dX12_packs_63 rfl (by decide) rfl ?_
  refine z_iconst (v := 0) b dX12_packs_64 (by decide) ?_
  refine z_istore (lv' := [(4, .int 0), (1, .long 6), (3, .int 0), (0, .ref (a 0))]) b dX12_packs_65 (by decide) rfl ?_
  refine z_iload b dX12_packs_67 rfl ?_
  refine z_iconst (v := 2) b dX12_packs_69 (by decide) ?_
  refine z_icmp_ge_f (tgt := 128) b dX12_packs_70 (by decide) (by decide) ?_
  refine z_lload_n b dX12_packs_73 rfl rfl ?_
  refine z_iconst (v := 3) b dX12_packs_74 (by decide) ?_
  refine z_lshl (v := 48) b dX12_packs_75 (by decide) ?_
  refine z_aload_n b dX12_packs_76 rfl rfl ?_
  refine z_get (q0 := 0) (k9 := 1) (v := .ref (a 2)) b (mw_0 cy a S) rfl in_X12 (by decide) wf_X12_17 rfl dX12_packs_77 ?_
  refine z_iconst (v := 3) b dX12_packs_80 (by decide) ?_
  refine z_iload_n b dX12_packs_81 rfl rfl ?_
  refine z_imul (v := 0) b dX12_packs_82 (by decide) ?_
  refine z_iload_n b dX12_packs_83 rfl rfl ?_
  refine z_iload b dX12_packs_84 rfl ?_
  refine z_calli b (z_runS (As := [.int 0, .int 0]) (st := [.int 0, .ref (a 2), .long 48]) b (c_X12_other_6 S ) cf_X12_other wm_X12_160 ws_X12_other dX12_packs_86 rfl (Nat.le_of_ble_eq_true rfl) ⟨by decide, by decide, by decide, by decide⟩) (fun r1586 u1587 h1585 => ?_)
  obtain ⟨rfl, rfl⟩ := h1585
  refine z_iadd (v := 1) b dX12_packs_89 (by decide) ?_
  refine y_iald (q0 := 2) (j := 1) (v := (ar S 1 1)) b (mw_2 cy a S) (by decide) rfl dX12_packs_90 ?_
  refine z_eqi h_a_1_1 ?_
  refine z_i2l (v := 0) b dX12_packs_91 (by decide) ?_
  refine z_lor (v := 48) b dX12_packs_92 (by decide) ?_
  refine z_lstore_n (lv' := [(1, .long 48), (4, .int 0), (3, .int 0), (0, .ref (a 0))]) b dX12_packs_93 rfl (by decide) rfl ?_
  refine z_lload_n b dX12_packs_94 rfl rfl ?_
  refine z_iconst (v := 1) b dX12_packs_95 (by decide) ?_
  refine z_lshl (v := 96) b dX12_packs_96 (by decide) ?_
  refine z_aload_n b dX12_packs_97 rfl rfl ?_
  refine z_get (q0 := 0) (k9 := 4) (v := .ref (a 5)) b (mw_0 cy a S) rfl in_X12 (by decide) wf_X12_27 rfl dX12_packs_98 ?_
  refine z_iconst (v := 3) b dX12_packs_101 (by decide) ?_
  refine z_iload_n b dX12_packs_102 rfl rfl ?_
  refine z_imul (v := 0) b dX12_packs_103 (by decide) ?_
  refine z_iload_n b dX12_packs_104 rfl rfl ?_
  refine z_iload b dX12_packs_105 rfl ?_
  refine z_calli b (z_runS (As := [.int 0, .int 0]) (st := [.int 0, .ref (a 5), .long 96]) b (c_X12_other_6 S ) cf_X12_other wm_X12_160 ws_X12_other dX12_packs_107 rfl (Nat.le_of_ble_eq_true rfl) ⟨by decide, by decide, by decide, by decide⟩) (fun r1589 u1590 h1588 => ?_)
  obtain ⟨rfl, rfl⟩ := h1588
  refine z_iadd (v := 1) b dX12_packs_110 (by decide) ?_
  refine y_zald (q0 := 5) (j := 1) (v := (ar S 4 1)) b (mw_5 cy a S) (by decide) rfl dX12_packs_111 ?_
  refine z_eqi h_a_4_1 ?_
  refine z_if_eq_t (tgt := 119) b dX12_packs_112 (by decide) (by decide) ?_
  refine z_lconst (v := 0) b dX12_packs_119 (by decide) ?_
  refine z_lor (v := 96) b dX12_packs_120 (by decide) ?_
  refine z_lstore_n (lv' := [(1, .long 96), (4, .int 0), (3, .int 0), (0, .ref (a 0))]) b dX12_packs_121 rfl (by decide) rfl ?_
  refine z_iinc (k9 := 1) (v := 1) (lv' := [(4, .int 1), (1, .long 96), (3, .int 0), (0, .ref (a 0))]) b dX12_packs_122 rfl (by decide) (by decide) rfl ?_
  refine z_goto (tgt := 67) b dX12_packs_125 (by decide) ?_
  refine z_iload b dX12_packs_67 rfl ?_
  refine z_iconst (v := 2) b dX12_packs_69 (by decide) ?_
  refine z_icmp_ge_f (tgt := 128) b dX12_packs_70 (by decide) (by decide) ?_
  refine z_lload_n b dX12_packs_73 rfl rfl ?_
  refine z_iconst (v := 3) b dX12_packs_74 (by decide) ?_
  refine z_lshl (v := 768) b dX12_packs_75 (by decide) ?_
  refine z_aload_n b dX12_packs_76 rfl rfl ?_
  refine z_get (q0 := 0) (k9 := 1) (v := .ref (a 2)) b (mw_0 cy a S) rfl in_X12 (by decide) wf_X12_17 rfl dX12_packs_77 ?_
  refine z_iconst (v := 3) b dX12_packs_80 (by decide) ?_
  refine z_iload_n b dX12_packs_81 rfl rfl ?_
  refine z_imul (v := 0) b dX12_packs_82 (by decide) ?_
  refine z_iload_n b dX12_packs_83 rfl rfl ?_
  refine z_iload b dX12_packs_84 rfl ?_
  refine z_calli b (z_runS (As := [.int 0, .int 1]) (st := [.int 0, .ref (a 2), .long 768]) b (c_X12_other_5 S ) cf_X12_other wm_X12_160 ws_X12_other dX12_packs_86 rfl (Nat.le_of_ble_eq_true rfl) ⟨by decide, by decide, by decide, by decide⟩) (fun r1592 u1593 h1591 => ?_)
  obtain ⟨rfl, rfl⟩ := h1591
  refine z_iadd (v := 2) b dX12_packs_89 (by decide) ?_
  refine y_iald (q0 := 2) (j := 2) (v := (ar S 1 2)) b (mw_2 cy a S) (by decide) rfl dX12_packs_90 ?_
  refine z_eqi h_a_1_2 ?_
  refine z_i2l (v := 0) b dX12_packs_91 (by decide) ?_
  refine z_lor (v := 768) b dX12_packs_92 (by decide) ?_
  refine z_lstore_n (lv' := [(1, .long 768), (4, .int 1), (3, .int 0), (0, .ref (a 0))]) b dX12_packs_93 rfl (by decide) rfl ?_
  refine z_lload_n b dX12_packs_94 rfl rfl ?_
  refine z_iconst (v := 1) b dX12_packs_95 (by decide) ?_
  refine z_lshl (v := 1536) b dX12_packs_96 (by decide) ?_
  refine z_aload_n b dX12_packs_97 rfl rfl ?_
  refine z_get (q0 := 0) (k9 := 4) (v := .ref (a 5)) b (mw_0 cy a S) rfl in_X12 (by decide) wf_X12_27 rfl dX12_packs_98 ?_
  refine z_iconst (v := 3) b dX12_packs_101 (by decide) ?_
  refine z_iload_n b dX12_packs_102 rfl rfl ?_
  refine z_imul (v := 0) b dX12_packs_103 (by decide) ?_
  refine z_iload_n b dX12_packs_104 rfl rfl ?_
  refine z_iload b dX12_packs_105 rfl ?_
  refine z_calli b (z_runS (As := [.int 0, .int 1]) (st := [.int 0, .ref (a 5), .long 1536]) b (c_X12_other_5 S ) cf_X12_other wm_X12_160 ws_X12_other dX12_packs_107 rfl (Nat.le_of_ble_eq_true rfl) ⟨by decide, by decide, by decide, by decide⟩) (fun r1595 u1596 h1594 => ?_)
  obtain ⟨rfl, rfl⟩ := h1594
  refine z_iadd (v := 2) b dX12_packs_110 (by decide) ?_
  refine y_zald (q0 := 5) (j := 2) (v := (ar S 4 2)) b (mw_5 cy a S) (by decide) rfl dX12_packs_111 ?_
  refine z_eqi h_a_4_2 ?_
  refine z_if_eq_t (tgt := 119) b dX12_packs_112 (by decide) (by decide) ?_
  refine z_lconst (v := 0) b dX12_packs_119 (by decide) ?_
  refine z_lor (v := 1536) b dX12_packs_120 (by decide) ?_
  refine z_lstore_n (lv' := [(1, .long 1536), (4, .int 1), (3, .int 0), (0, .ref (a 0))]) b dX12_packs_121 rfl (by decide) rfl ?_
  refine z_iinc (k9 := 1) (v := 2) (lv' := [(4, .int 2), (1, .long 1536), (3, .int 0), (0, .ref (a 0))]) b dX12_packs_122 rfl (by decide) (by decide) rfl ?_
  refine z_goto (tgt := 67) b dX12_packs_125 (by decide) ?_
  refine z_iload b dX12_packs_67 rfl ?_
  refine z_iconst (v := 2) b dX12_packs_69 (by decide) ?_
  refine z_icmp_ge_t (tgt := 128) b dX12_packs_70 (by decide) (by decide) ?_
  refine z_iinc (k9 := 2) (v := 1) (lv' := [(3, .int 1), (4, .int 2), (1, .long 1536), (0, .ref (a 0))]) b dX12_packs_128 rfl (by decide) (by decide) rfl ?_
  refine z_goto (tgt := 8) b dX12_packs_131 (by decide) ?_
  refine z_iload_n b dX12_packs_8 rfl rfl ?_
  refine z_iconst (v := 3) b dX12_packs_9 (by decide) ?_
  refine z_icmp_ge_f (tgt := 134) b dX12_packs_10 (by decide) (by decide) ?_
  refine z_lload_n b dX12_packs_13 rfl rfl ?_
  refine z_iconst (v := 4) b dX12_packs_14 (by decide) ?_
  refine z_lshl (v := 24576) b dX12_packs_15 (by decide) ?_
  refine z_aload_n b dX12_packs_16 rfl rfl ?_
  refine z_get (q0 := 0) (k9 := 0) (v := .ref (a 1)) b (mw_0 cy a S) rfl in_X12 (by decide) wf_X12_13 rfl dX12_packs_17 ?_
  refine z_iload_n b dX12_packs_20 rfl rfl ?_
  exact k

set_option maxHeartbeats 4000000 in
set_option maxRecDepth 100000 in
theorem ch_X12_packs_27 {p : Program} {l : Launch} {e : Env} {R : Room} {s : State} {m : MethodId} {args : Array Value} {below : List Frame} {meth : Method} {c : Code} {D : va_G} {cy : Nat → ClassId} {T0 tB tE : Nat} {A : Nat → Prop} {Q : State → Prop} {a : Nat → Nat} (S : GS)  (h_a_0_1 : ar S 0 1 = 0) (h_a_0_2 : ar S 0 2 = 0) (h_a_1_3 : ar S 1 3 = 0) (h_a_1_5 : ar S 1 5 = 0) (h_a_2_1 : ar S 2 1 = 3) (h_a_2_2 : ar S 2 2 = 3) (h_a_3_5 : ar S 3 5 = 0) (h_a_4_3 : ar S 4 3 = 0) (h_a_4_5 : ar S 4 5 = 0) (b : Bz p R s m args meth c D cy T0 tB tE A 5 cX12_packs RX12 (some .long) "packs" 1 21 0 0) (k : Z p l e R s m args below meth c D A 5 Q 0 0 (mw cy a S) [(1, .long 3221323779), (3, .int 2), (4, .int 2), (0, .ref (a 0))] 37 []) : Z p l e R s m args below meth c D A 5 Q 0 0 (mw cy a S) [(3, .int 1), (4, .int 2), (1, .long 1536), (0, .ref (a 0))] 21 [.int 1, .ref (a 1), .long 24576] := by
  refine y_iald (q0 := 1) (j := 1) (v := (ar S 0 1)) b (mw_1 cy a S) (by decide) rfl dX12_packs_21 ?_
  refine z_eqi h_a_0_1 ?_
  refine z_i2l (v := 0) b dX12_packs_22 (by decide) ?_
  refine z_lor (v := 24576) b dX12_packs_23 (by decide) ?_
  refine z_lstore_n (lv' := [(1, .long 24576), (3, .int 1), (4, .int 2), (0, .ref (a 0))]) b dX12_packs_24 rfl (by decide) rfl ?_
  refine z_lload_n b dX12_packs_25 rfl rfl ?_
  refine z_iconst (v := 2) b dX12_packs_26 (by decide) ?_
  refine z_lshl (v := 98304) b dX12_packs_27 (by decide) ?_
  refine z_aload_n b dX12_packs_28 rfl rfl ?_
  refine z_get (q0 := 0) (k9 := 2) (v := .ref (a 3)) b (mw_0 cy a S) rfl in_X12 (by decide) wf_X12_20 rfl dX12_packs_29 ?_
  refine z_iload_n b dX12_packs_32 rfl rfl ?_
  refine y_iald (q0 := 3) (j := 1) (v := (ar S 2 1)) b (mw_3 cy a S) (by decide) rfl dX12_packs_33 ?_
  refine z_eqi h_a_2_1 ?_
  refine z_i2l (v := 3) b dX12_packs_34 (by decide) ?_
  refine z_lor (v := 98307) b dX12_packs_35 (by decide) ?_
  refine z_lstore_n (lv' := [(1, .long 98307), (3, .int 1), (4, .int 2), (0, .ref (a 0))]) b dX12_packs_36 rfl (by decide) rfl ?_
  refine z_lload_n b dX12_packs_37 rfl rfl ?_
  refine z_iconst (v := 1) b dX12_packs_38 (by decide) ?_
  refine z_lshl (v := 196614) b dX12_packs_39 (by decide) ?_
  refine z_aload_n b dX12_packs_40 rfl rfl ?_
  refine z_get (q0 := 0) (k9 := 3) (v := .ref (a 4)) b (mw_0 cy a S) rfl in_X12 (by decide) wf_X12_23 rfl dX12_packs_41 ?_
  refine z_iconst (v := 3) b dX12_packs_44 (by decide) ?_
  refine z_iload_n b dX12_packs_45 rfl rfl ?_
  refine z_imul (v := 3) b dX12_packs_46 (by decide) ?_
  refine z_iload_n b dX12_packs_47 rfl rfl ?_
  refine z_iconst (v := 0) b dX12_packs_48 (by decide) ?_
  refine z_calli b (z_runS (As := [.int 1, .int 0]) (st := [.int 3, .ref (a 4), .long 196614]) b (c_X12_other_4 S ) cf_X12_other wm_X12_160 ws_X12_other dX12_packs_49 rfl (Nat.le_of_ble_eq_true rfl) ⟨by decide, by decide, by decide, by decide⟩) (fun r1598 u1599 h1597 => ?_)
  obtain ⟨rfl, rfl⟩ := h1597
  refine z_iadd (v := 5) b dX12_packs_52 (by decide) ?_
  refine y_zald (q0 := 4) (j := 5) (v := (ar S 3 5)) b (mw_4 cy a S) (by decide) rfl dX12_packs_53 ?_
  refine z_eqi h_a_3_5 ?_
  refine z_if_eq_t (tgt := 61) b dX12_packs_54 (by decide) (by decide) ?_
  refine z_lconst (v := 0) b dX12_packs_61 (by decide) ?_
  refine z_lor (v := 196614) b dX12_packs_62 (by decide) ?_
  refine z_lstore_n (lv' := [(1, .long 196614), (3, .int 1), (4, .int 2), (0, .ref (a 0))]) b dX12_packs_63 rfl (by decide) rfl ?_
  refine z_iconst (v := 0) b dX12_packs_64 (by decide) ?_
  refine z_istore (lv' := [(4, .int 0), (1, .long 196614), (3, .int 1), (0, .ref (a 0))]) b dX12_packs_65 (by decide) rfl ?_
  refine z_iload b dX12_packs_67 rfl ?_
  refine z_iconst (v := 2) b dX12_packs_69 (by decide) ?_
  refine z_icmp_ge_f (tgt := 128) b dX12_packs_70 (by decide) (by decide) ?_
  refine z_lload_n b dX12_packs_73 rfl rfl ?_
  refine z_iconst (v := 3) b dX12_packs_74 (by decide) ?_
  refine z_lshl (v := 1572912) b dX12_packs_75 (by decide) ?_
  refine z_aload_n b dX12_packs_76 rfl rfl ?_
  refine z_get (q0 := 0) (k9 := 1) (v := .ref (a 2)) b (mw_0 cy a S) rfl in_X12 (by decide) wf_X12_17 rfl dX12_packs_77 ?_
  refine z_iconst (v := 3) b dX12_packs_80 (by decide) ?_
  refine z_iload_n b dX12_packs_81 rfl rfl ?_
  refine z_imul (v := 3) b dX12_packs_82 (by decide) ?_
  refine z_iload_n b dX12_packs_83 rfl rfl ?_
  refine z_iload b dX12_packs_84 rfl ?_
  refine z_calli b (z_runS (As := [.int 1, .int 0]) (st := [.int 3, .ref (a 2), .long 1572912]) b (c_X12_other_4 S ) cf_X12_other wm_X12_160 ws_X12_other dX12_packs_86 rfl (Nat.le_of_ble_eq_true rfl) ⟨by decide, by decide, by decide, by decide⟩) (fun r1601 u1602 h1600 => ?_)
  obtain ⟨rfl, rfl⟩ := h1600
  refine z_iadd (v := 5) b dX12_packs_89 (by decide) ?_
  refine y_iald (q0 := 2) (j := 5) (v := (ar S 1 5)) b (mw_2 cy a S) (by decide) rfl dX12_packs_90 ?_
  refine z_eqi h_a_1_5 ?_
  refine z_i2l (v := 0) b dX12_packs_91 (by decide) ?_
  refine z_lor (v := 1572912) b dX12_packs_92 (by decide) ?_
  refine z_lstore_n (lv' := [(1, .long 1572912), (4, .int 0), (3, .int 1), (0, .ref (a 0))]) b dX12_packs_93 rfl (by decide) rfl ?_
  refine z_lload_n b dX12_packs_94 rfl rfl ?_
  refine z_iconst (v := 1) b dX12_packs_95 (by decide) ?_
  refine z_lshl (v := 3145824) b dX12_packs_96 (by decide) ?_
  refine z_aload_n b dX12_packs_97 rfl rfl ?_
  refine z_get (q0 := 0) (k9 := 4) (v := .ref (a 5)) b (mw_0 cy a S) rfl in_X12 (by decide) wf_X12_27 rfl dX12_packs_98 ?_
  refine z_iconst (v := 3) b dX12_packs_101 (by decide) ?_
  refine z_iload_n b dX12_packs_102 rfl rfl ?_
  refine z_imul (v := 3) b dX12_packs_103 (by decide) ?_
  refine z_iload_n b dX12_packs_104 rfl rfl ?_
  refine z_iload b dX12_packs_105 rfl ?_
  refine z_calli b (z_runS (As := [.int 1, .int 0]) (st := [.int 3, .ref (a 5), .long 3145824]) b (c_X12_other_4 S ) cf_X12_other wm_X12_160 ws_X12_other dX12_packs_107 rfl (Nat.le_of_ble_eq_true rfl) ⟨by decide, by decide, by decide, by decide⟩) (fun r1604 u1605 h1603 => ?_)
  obtain ⟨rfl, rfl⟩ := h1603
  refine z_iadd (v := 5) b dX12_packs_110 (by decide) ?_
  refine y_zald (q0 := 5) (j := 5) (v := (ar S 4 5)) b (mw_5 cy a S) (by decide) rfl dX12_packs_111 ?_
  refine z_eqi h_a_4_5 ?_
  refine z_if_eq_t (tgt := 119) b dX12_packs_112 (by decide) (by decide) ?_
  refine z_lconst (v := 0) b dX12_packs_119 (by decide) ?_
  refine z_lor (v := 3145824) b dX12_packs_120 (by decide) ?_
  refine z_lstore_n (lv' := [(1, .long 3145824), (4, .int 0), (3, .int 1), (0, .ref (a 0))]) b dX12_packs_121 rfl (by decide) rfl ?_
  refine z_iinc (k9 := 1) (v := 1) (lv' := [(4, .int 1), (1, .long 3145824), (3, .int 1), (0, .ref (a 0))]) b dX12_packs_122 rfl (by decide) (by decide) rfl ?_
  refine z_goto (tgt := 67) b dX12_packs_125 (by decide) ?_
  refine z_iload b dX12_packs_67 rfl ?_
  refine z_iconst (v := 2) b dX12_packs_69 (by decide) ?_
  refine z_icmp_ge_f (tgt := 128) b dX12_packs_70 (by decide) (by decide) ?_
  refine z_lload_n b dX12_packs_73 rfl rfl ?_
  refine z_iconst (v := 3) b dX12_packs_74 (by decide) ?_
  refine z_lshl (v := 25166592) b dX12_packs_75 (by decide) ?_
  refine z_aload_n b dX12_packs_76 rfl rfl ?_
  refine z_get (q0 := 0) (k9 := 1) (v := .ref (a 2)) b (mw_0 cy a S) rfl in_X12 (by decide) wf_X12_17 rfl dX12_packs_77 ?_
  refine z_iconst (v := 3) b dX12_packs_80 (by decide) ?_
  refine z_iload_n b dX12_packs_81 rfl rfl ?_
  refine z_imul (v := 3) b dX12_packs_82 (by decide) ?_
  refine z_iload_n b dX12_packs_83 rfl rfl ?_
  refine z_iload b dX12_packs_84 rfl ?_
  refine z_calli b (z_runS (As := [.int 1, .int 1]) (st := [.int 3, .ref (a 2), .long 25166592]) b (c_X12_other_3 S ) cf_X12_other wm_X12_160 ws_X12_other dX12_packs_86 rfl (Nat.le_of_ble_eq_true rfl) ⟨by decide, by decide, by decide, by decide⟩) (fun r1607 u1608 h1606 => ?_)
  obtain ⟨rfl, rfl⟩ := h1606
  refine z_iadd (v := 3) b dX12_packs_89 (by decide) ?_
  refine y_iald (q0 := 2) (j := 3) (v := (ar S 1 3)) b (mw_2 cy a S) (by decide) rfl dX12_packs_90 ?_
  refine z_eqi h_a_1_3 ?_
  refine z_i2l (v := 0) b dX12_packs_91 (by decide) ?_
  refine z_lor (v := 25166592) b dX12_packs_92 (by decide) ?_
  refine z_lstore_n (lv' := [(1, .long 25166592), (4, .int 1), (3, .int 1), (0, .ref (a 0))]) b dX12_packs_93 rfl (by decide) rfl ?_
  refine z_lload_n b dX12_packs_94 rfl rfl ?_
  refine z_iconst (v := 1) b dX12_packs_95 (by decide) ?_
  refine z_lshl (v := 50333184) b dX12_packs_96 (by decide) ?_
  refine z_aload_n b dX12_packs_97 rfl rfl ?_
  refine z_get (q0 := 0) (k9 := 4) (v := .ref (a 5)) b (mw_0 cy a S) rfl in_X12 (by decide) wf_X12_27 rfl dX12_packs_98 ?_
  refine z_iconst (v := 3) b dX12_packs_101 (by decide) ?_
  refine z_iload_n b dX12_packs_102 rfl rfl ?_
  refine z_imul (v := 3) b dX12_packs_103 (by decide) ?_
  refine z_iload_n b dX12_packs_104 rfl rfl ?_
  refine z_iload b dX12_packs_105 rfl ?_
  refine z_calli b (z_runS (As := [.int 1, .int 1]) (st := [.int 3, .ref (a 5), .long 50333184]) b (c_X12_other_3 S ) cf_X12_other wm_X12_160 ws_X12_other dX12_packs_107 rfl (Nat.le_of_ble_eq_true rfl) ⟨by decide, by decide, by decide, by decide⟩) (fun r1610 u1611 h1609 => ?_)
  obtain ⟨rfl, rfl⟩ := h1609
  refine z_iadd (v := 3) b dX12_packs_110 (by decide) ?_
  refine y_zald (q0 := 5) (j := 3) (v := (ar S 4 3)) b (mw_5 cy a S) (by decide) rfl dX12_packs_111 ?_
  refine z_eqi h_a_4_3 ?_
  refine z_if_eq_t (tgt := 119) b dX12_packs_112 (by decide) (by decide) ?_
  refine z_lconst (v := 0) b dX12_packs_119 (by decide) ?_
  refine z_lor (v := 50333184) b dX12_packs_120 (by decide) ?_
  refine z_lstore_n (lv' := [(1, .long 50333184), (4, .int 1), (3, .int 1), (0, .ref (a 0))]) b dX12_packs_121 rfl (by decide) rfl ?_
  refine z_iinc (k9 := 1) (v := 2) (lv' := [(4, .int 2), (1, .long 50333184), (3, .int 1), (0, .ref (a 0))]) b dX12_packs_122 rfl (by decide) (by decide) rfl ?_
  refine z_goto (tgt := 67) b dX12_packs_125 (by decide) ?_
  refine z_iload b dX12_packs_67 rfl ?_
  refine z_iconst (v := 2) b dX12_packs_69 (by decide) ?_
  refine z_icmp_ge_t (tgt := 128) b dX12_packs_70 (by decide) (by decide) ?_
  refine z_iinc (k9 := 2) (v := 2) (lv' := [(3, .int 2), (4, .int 2), (1, .long 50333184), (0, .ref (a 0))]) b dX12_packs_128 rfl (by decide) (by decide) rfl ?_
  refine z_goto (tgt := 8) b dX12_packs_131 (by decide) ?_
  refine z_iload_n b dX12_packs_8 rfl rfl ?_
  refine z_iconst (v := 3) b dX12_packs_9 (by decide) ?_
  refine z_icmp_ge_f (tgt := 134) b dX12_packs_10 (by decide) (by decide) ?_
  refine z_lload_n b dX12_packs_13 rfl rfl ?_
  refine z_iconst (v := 4) b dX12_packs_14 (by decide) ?_
  refine z_lshl (v := 805330944) b dX12_packs_15 (by decide) ?_
  refine z_aload_n b dX12_packs_16 rfl rfl ?_
  refine z_get (q0 := 0) (k9 := 0) (v := .ref (a 1)) b (mw_0 cy a S) rfl in_X12 (by decide) wf_X12_13 rfl dX12_packs_17 ?_
  refine z_iload_n b dX12_packs_20 rfl rfl ?_
  refine y_iald (q0 := 1) (j := 2) (v := (ar S 0 2)) b (mw_1 cy a S) (by decide) rfl dX12_packs_21 ?_
  refine z_eqi h_a_0_2 ?_
  refine z_i2l (v := 0) b dX12_packs_22 (by decide) ?_
  refine z_lor (v := 805330944) b dX12_packs_23 (by decide) ?_
  refine z_lstore_n (lv' := [(1, .long 805330944), (3, .int 2), (4, .int 2), (0, .ref (a 0))]) b dX12_packs_24 rfl (by decide) rfl ?_
  refine z_lload_n b dX12_packs_25 rfl rfl ?_
  refine z_iconst (v := 2) b dX12_packs_26 (by decide) ?_
  refine z_lshl (v := 3221323776) b dX12_packs_27 (by decide) ?_
  refine z_aload_n b dX12_packs_28 rfl rfl ?_
  refine z_get (q0 := 0) (k9 := 2) (v := .ref (a 3)) b (mw_0 cy a S) rfl in_X12 (by decide) wf_X12_20 rfl dX12_packs_29 ?_
  refine z_iload_n b dX12_packs_32 rfl rfl ?_
  refine y_iald (q0 := 3) (j := 2) (v := (ar S 2 2)) b (mw_3 cy a S) (by decide) rfl dX12_packs_33 ?_
  refine z_eqi h_a_2_2 ?_
  refine z_i2l (v := 3) b dX12_packs_34 (by decide) ?_
  refine z_lor (v := 3221323779) b dX12_packs_35 (by decide) ?_
  refine z_lstore_n (lv' := [(1, .long 3221323779), (3, .int 2), (4, .int 2), (0, .ref (a 0))]) b dX12_packs_36 rfl (by decide) rfl ?_
  exact k

set_option maxHeartbeats 4000000 in
set_option maxRecDepth 100000 in
theorem c_X12_packs_12 {l : Launch} {D : va_G} {cy : Nat → ClassId} {T0 tB tE : Nat} {a : Nat → Nat} (S : GS)  (h_i_0 : fi S 0 = 0) (h_a_0_0 : ar S 0 0 = 0) (h_a_2_0 : ar S 2 0 = 3) (h_a_3_1 : ar S 3 1 = 0) (h_a_1_1 : ar S 1 1 = 0) (h_a_4_1 : ar S 4 1 = 0) (h_a_1_2 : ar S 1 2 = 0) (h_a_4_2 : ar S 4 2 = 0) (h_a_0_1 : ar S 0 1 = 0) (h_a_2_1 : ar S 2 1 = 3) (h_a_3_5 : ar S 3 5 = 0) (h_a_1_5 : ar S 1 5 = 0) (h_a_4_5 : ar S 4 5 = 0) (h_a_1_3 : ar S 1 3 = 0) (h_a_4_3 : ar S 4 3 = 0) (h_a_0_2 : ar S 0 2 = 0) (h_a_2_2 : ar S 2 2 = 3) (h_a_3_6 : ar S 3 6 = 0) (h_a_4_6 : ar S 4 6 = 0) (h_a_1_7 : ar S 1 7 = 0) (h_a_4_7 : ar S 4 7 = 0) : Ct l D cy T0 tB tE yX12_packs cX12_packs 5 (some .long) 1 21 0 0 (mw cy a S) [.ref (a 0)] (QL D (U := GS) (fun r u => (((((((51541180464 ||| ((ar S 1 6) : Int32).toInt64) <<< ((1 : Int32).toInt64 &&& 63)) ||| 0) <<< ((3 : Int32).toInt64 &&& 63)) ||| 0) <<< ((1 : Int32).toInt64 &&& 63)) ||| 0) = r ∧ S = u) (mw cy a)) := by
  refine Ct.ofZ RX12 "packs" [(0, .ref (a 0))] rfl rfl rfl rfl (Nat.le_of_ble_eq_true rfl) ?_
  intro p e R s m args below meth c A b
  refine ch_X12_packs_26 S  h_a_0_0 h_a_1_1 h_a_1_2 h_a_2_0 h_a_3_1 h_a_4_1 h_a_4_2 h_i_0  b ?_
  refine ch_X12_packs_27 S  h_a_0_1 h_a_0_2 h_a_1_3 h_a_1_5 h_a_2_1 h_a_2_2 h_a_3_5 h_a_4_3 h_a_4_5  b ?_
  refine z_lload_n b dX12_packs_37 rfl rfl ?_
  refine z_iconst (v := 1) b dX12_packs_38 (by decide) ?_
  refine z_lshl (v := 6442647558) b dX12_packs_39 (by decide) ?_
  refine z_aload_n b dX12_packs_40 rfl rfl ?_
  refine z_get (q0 := 0) (k9 := 3) (v := .ref (a 4)) b (mw_0 cy a S) rfl in_X12 (by decide) wf_X12_23 rfl dX12_packs_41 ?_
  refine z_iconst (v := 3) b dX12_packs_44 (by decide) ?_
  refine z_iload_n b dX12_packs_45 rfl rfl ?_
  refine z_imul (v := 6) b dX12_packs_46 (by decide) ?_
  refine z_iload_n b dX12_packs_47 rfl rfl ?_
  refine z_iconst (v := 0) b dX12_packs_48 (by decide) ?_
  refine z_calli b (z_runS (As := [.int 2, .int 0]) (st := [.int 6, .ref (a 4), .long 6442647558]) b (c_X12_other_2 S ) cf_X12_other wm_X12_160 ws_X12_other dX12_packs_49 rfl (Nat.le_of_ble_eq_true rfl) ⟨by decide, by decide, by decide, by decide⟩) (fun r1613 u1614 h1612 => ?_)
  obtain ⟨rfl, rfl⟩ := h1612
  refine z_iadd (v := 6) b dX12_packs_52 (by decide) ?_
  refine y_zald (q0 := 4) (j := 6) (v := (ar S 3 6)) b (mw_4 cy a S) (by decide) rfl dX12_packs_53 ?_
  refine z_eqi h_a_3_6 ?_
  refine z_if_eq_t (tgt := 61) b dX12_packs_54 (by decide) (by decide) ?_
  refine z_lconst (v := 0) b dX12_packs_61 (by decide) ?_
  refine z_lor (v := 6442647558) b dX12_packs_62 (by decide) ?_
  refine z_lstore_n (lv' := [(1, .long 6442647558), (3, .int 2), (4, .int 2), (0, .ref (a 0))]) b dX12_packs_63 rfl (by decide) rfl ?_
  refine z_iconst (v := 0) b dX12_packs_64 (by decide) ?_
  refine z_istore (lv' := [(4, .int 0), (1, .long 6442647558), (3, .int 2), (0, .ref (a 0))]) b dX12_packs_65 (by decide) rfl ?_
  refine z_iload b dX12_packs_67 rfl ?_
  refine z_iconst (v := 2) b dX12_packs_69 (by decide) ?_
  refine z_icmp_ge_f (tgt := 128) b dX12_packs_70 (by decide) (by decide) ?_
  refine z_lload_n b dX12_packs_73 rfl rfl ?_
  refine z_iconst (v := 3) b dX12_packs_74 (by decide) ?_
  refine z_lshl (v := 51541180464) b dX12_packs_75 (by decide) ?_
  refine z_aload_n b dX12_packs_76 rfl rfl ?_
  refine z_get (q0 := 0) (k9 := 1) (v := .ref (a 2)) b (mw_0 cy a S) rfl in_X12 (by decide) wf_X12_17 rfl dX12_packs_77 ?_
  refine z_iconst (v := 3) b dX12_packs_80 (by decide) ?_
  refine z_iload_n b dX12_packs_81 rfl rfl ?_
  refine z_imul (v := 6) b dX12_packs_82 (by decide) ?_
  refine z_iload_n b dX12_packs_83 rfl rfl ?_
  refine z_iload b dX12_packs_84 rfl ?_
  refine z_calli b (z_runS (As := [.int 2, .int 0]) (st := [.int 6, .ref (a 2), .long 51541180464]) b (c_X12_other_2 S ) cf_X12_other wm_X12_160 ws_X12_other dX12_packs_86 rfl (Nat.le_of_ble_eq_true rfl) ⟨by decide, by decide, by decide, by decide⟩) (fun r1616 u1617 h1615 => ?_)
  obtain ⟨rfl, rfl⟩ := h1615
  refine z_iadd (v := 6) b dX12_packs_89 (by decide) ?_
  refine y_iald (q0 := 2) (j := 6) (v := (ar S 1 6)) b (mw_2 cy a S) (by decide) rfl dX12_packs_90 ?_
  refine z_i2l b dX12_packs_91 rfl ?_
  refine z_lor b dX12_packs_92 rfl ?_
  refine z_lstore_n (lv' := [(1, .long (51541180464 ||| ((ar S 1 6) : Int32).toInt64)), (4, .int 0), (3, .int 2), (0, .ref (a 0))]) b dX12_packs_93 rfl (by decide) rfl ?_
  refine z_lload_n b dX12_packs_94 rfl rfl ?_
  refine z_iconst (v := 1) b dX12_packs_95 (by decide) ?_
  refine z_lshl b dX12_packs_96 rfl ?_
  refine z_aload_n b dX12_packs_97 rfl rfl ?_
  refine z_get (q0 := 0) (k9 := 4) (v := .ref (a 5)) b (mw_0 cy a S) rfl in_X12 (by decide) wf_X12_27 rfl dX12_packs_98 ?_
  refine z_iconst (v := 3) b dX12_packs_101 (by decide) ?_
  refine z_iload_n b dX12_packs_102 rfl rfl ?_
  refine z_imul (v := 6) b dX12_packs_103 (by decide) ?_
  refine z_iload_n b dX12_packs_104 rfl rfl ?_
  refine z_iload b dX12_packs_105 rfl ?_
  refine z_calli b (z_runS (As := [.int 2, .int 0]) (st := [.int 6, .ref (a 5), .long ((51541180464 ||| ((ar S 1 6) : Int32).toInt64) <<< ((1 : Int32).toInt64 &&& 63))]) b (c_X12_other_2 S ) cf_X12_other wm_X12_160 ws_X12_other dX12_packs_107 rfl (Nat.le_of_ble_eq_true rfl) ⟨by decide, by decide, by decide, by decide⟩) (fun r1619 u1620 h1618 => ?_)
  obtain ⟨rfl, rfl⟩ := h1618
  refine z_iadd (v := 6) b dX12_packs_110 (by decide) ?_
  refine y_zald (q0 := 5) (j := 6) (v := (ar S 4 6)) b (mw_5 cy a S) (by decide) rfl dX12_packs_111 ?_
  refine z_eqi h_a_4_6 ?_
  refine z_if_eq_t (tgt := 119) b dX12_packs_112 (by decide) (by decide) ?_
  refine z_lconst (v := 0) b dX12_packs_119 (by decide) ?_
  refine z_lor b dX12_packs_120 rfl ?_
  refine z_lstore_n (lv' := [(1, .long (((51541180464 ||| ((ar S 1 6) : Int32).toInt64) <<< ((1 : Int32).toInt64 &&& 63)) ||| 0)), (4, .int 0), (3, .int 2), (0, .ref (a 0))]) b dX12_packs_121 rfl (by decide) rfl ?_
  refine z_iinc (k9 := 1) (v := 1) (lv' := [(4, .int 1), (1, .long (((51541180464 ||| ((ar S 1 6) : Int32).toInt64) <<< ((1 : Int32).toInt64 &&& 63)) ||| 0)), (3, .int 2), (0, .ref (a 0))]) b dX12_packs_122 rfl (by decide) (by decide) rfl ?_
  refine z_goto (tgt := 67) b dX12_packs_125 (by decide) ?_
  refine z_iload b dX12_packs_67 rfl ?_
  refine z_iconst (v := 2) b dX12_packs_69 (by decide) ?_
  refine z_icmp_ge_f (tgt := 128) b dX12_packs_70 (by decide) (by decide) ?_
  refine z_lload_n b dX12_packs_73 rfl rfl ?_
  refine z_iconst (v := 3) b dX12_packs_74 (by decide) ?_
  refine z_lshl b dX12_packs_75 rfl ?_
  refine z_aload_n b dX12_packs_76 rfl rfl ?_
  refine z_get (q0 := 0) (k9 := 1) (v := .ref (a 2)) b (mw_0 cy a S) rfl in_X12 (by decide) wf_X12_17 rfl dX12_packs_77 ?_
  refine z_iconst (v := 3) b dX12_packs_80 (by decide) ?_
  refine z_iload_n b dX12_packs_81 rfl rfl ?_
  refine z_imul (v := 6) b dX12_packs_82 (by decide) ?_
  refine z_iload_n b dX12_packs_83 rfl rfl ?_
  refine z_iload b dX12_packs_84 rfl ?_
  refine z_calli b (z_runS (As := [.int 2, .int 1]) (st := [.int 6, .ref (a 2), .long ((((51541180464 ||| ((ar S 1 6) : Int32).toInt64) <<< ((1 : Int32).toInt64 &&& 63)) ||| 0) <<< ((3 : Int32).toInt64 &&& 63))]) b (c_X12_other S ) cf_X12_other wm_X12_160 ws_X12_other dX12_packs_86 rfl (Nat.le_of_ble_eq_true rfl) ⟨by decide, by decide, by decide, by decide⟩) (fun r1622 u1623 h1621 => ?_)
  obtain ⟨rfl, rfl⟩ := h1621
  refine z_iadd (v := 7) b dX12_packs_89 (by decide) ?_
  refine y_iald (q0 := 2) (j := 7) (v := (ar S 1 7)) b (mw_2 cy a S) (by decide) rfl dX12_packs_90 ?_
  refine z_eqi h_a_1_7 ?_
  refine z_i2l (v := 0) b dX12_packs_91 (by decide) ?_
  refine z_lor b dX12_packs_92 rfl ?_
  refine z_lstore_n (lv' := [(1, .long (((((51541180464 ||| ((ar S 1 6) : Int32).toInt64) <<< ((1 : Int32).toInt64 &&& 63)) ||| 0) <<< ((3 : Int32).toInt64 &&& 63)) ||| 0)), (4, .int 1), (3, .int 2), (0, .ref (a 0))]) b dX12_packs_93 rfl (by decide) rfl ?_
  refine z_lload_n b dX12_packs_94 rfl rfl ?_
  refine z_iconst (v := 1) b dX12_packs_95 (by decide) ?_
  refine z_lshl b dX12_packs_96 rfl ?_
  refine z_aload_n b dX12_packs_97 rfl rfl ?_
  refine z_get (q0 := 0) (k9 := 4) (v := .ref (a 5)) b (mw_0 cy a S) rfl in_X12 (by decide) wf_X12_27 rfl dX12_packs_98 ?_
  refine z_iconst (v := 3) b dX12_packs_101 (by decide) ?_
  refine z_iload_n b dX12_packs_102 rfl rfl ?_
  refine z_imul (v := 6) b dX12_packs_103 (by decide) ?_
  refine z_iload_n b dX12_packs_104 rfl rfl ?_
  refine z_iload b dX12_packs_105 rfl ?_
  refine z_calli b (z_runS (As := [.int 2, .int 1]) (st := [.int 6, .ref (a 5), .long ((((((51541180464 ||| ((ar S 1 6) : Int32).toInt64) <<< ((1 : Int32).toInt64 &&& 63)) ||| 0) <<< ((3 : Int32).toInt64 &&& 63)) ||| 0) <<< ((1 : Int32).toInt64 &&& 63))]) b (c_X12_other S ) cf_X12_other wm_X12_160 ws_X12_other dX12_packs_107 rfl (Nat.le_of_ble_eq_true rfl) ⟨by decide, by decide, by decide, by decide⟩) (fun r1625 u1626 h1624 => ?_)
  obtain ⟨rfl, rfl⟩ := h1624
  refine z_iadd (v := 7) b dX12_packs_110 (by decide) ?_
  refine y_zald (q0 := 5) (j := 7) (v := (ar S 4 7)) b (mw_5 cy a S) (by decide) rfl dX12_packs_111 ?_
  refine z_eqi h_a_4_7 ?_
  refine z_if_eq_t (tgt := 119) b dX12_packs_112 (by decide) (by decide) ?_
  refine z_lconst (v := 0) b dX12_packs_119 (by decide) ?_
  refine z_lor b dX12_packs_120 rfl ?_
  refine z_lstore_n (lv' := [(1, .long (((((((51541180464 ||| ((ar S 1 6) : Int32).toInt64) <<< ((1 : Int32).toInt64 &&& 63)) ||| 0) <<< ((3 : Int32).toInt64 &&& 63)) ||| 0) <<< ((1 : Int32).toInt64 &&& 63)) ||| 0)), (4, .int 1), (3, .int 2), (0, .ref (a 0))]) b dX12_packs_121 rfl (by decide) rfl ?_
  refine z_iinc (k9 := 1) (v := 2) (lv' := [(4, .int 2), (1, .long (((((((51541180464 ||| ((ar S 1 6) : Int32).toInt64) <<< ((1 : Int32).toInt64 &&& 63)) ||| 0) <<< ((3 : Int32).toInt64 &&& 63)) ||| 0) <<< ((1 : Int32).toInt64 &&& 63)) ||| 0)), (3, .int 2), (0, .ref (a 0))]) b dX12_packs_122 rfl (by decide) (by decide) rfl ?_
  refine z_goto (tgt := 67) b dX12_packs_125 (by decide) ?_
  refine z_iload b dX12_packs_67 rfl ?_
  refine z_iconst (v := 2) b dX12_packs_69 (by decide) ?_
  refine z_icmp_ge_t (tgt := 128) b dX12_packs_70 (by decide) (by decide) ?_
  refine z_iinc (k9 := 2) (v := 3) (lv' := [(3, .int 3), (4, .int 2), (1, .long (((((((51541180464 ||| ((ar S 1 6) : Int32).toInt64) <<< ((1 : Int32).toInt64 &&& 63)) ||| 0) <<< ((3 : Int32).toInt64 &&& 63)) ||| 0) <<< ((1 : Int32).toInt64 &&& 63)) ||| 0)), (0, .ref (a 0))]) b dX12_packs_128 rfl (by decide) (by decide) rfl ?_
  refine z_goto (tgt := 8) b dX12_packs_131 (by decide) ?_
  refine z_iload_n b dX12_packs_8 rfl rfl ?_
  refine z_iconst (v := 3) b dX12_packs_9 (by decide) ?_
  refine z_icmp_ge_t (tgt := 134) b dX12_packs_10 (by decide) (by decide) ?_
  refine z_lload_n b dX12_packs_134 rfl rfl ?_
  exact z_lret (u := S) b rfl dX12_packs_135 ⟨rfl, rfl⟩ rfl (by decide) (by decide)

set_option maxHeartbeats 4000000 in
set_option maxRecDepth 100000 in
theorem c_X12_told_12 {l : Launch} {D : va_G} {cy : Nat → ClassId} {T0 tB tE : Nat} {a : Nat → Nat} (S : GS)  (h_i_0 : fi S 0 = 0) (h_a_0_0 : ar S 0 0 = 0) (h_a_2_0 : ar S 2 0 = 3) (h_a_3_1 : ar S 3 1 = 0) (h_a_1_1 : ar S 1 1 = 0) (h_a_4_1 : ar S 4 1 = 0) (h_a_1_2 : ar S 1 2 = 0) (h_a_4_2 : ar S 4 2 = 0) (h_a_0_1 : ar S 0 1 = 0) (h_a_2_1 : ar S 2 1 = 3) (h_a_3_5 : ar S 3 5 = 0) (h_a_1_5 : ar S 1 5 = 0) (h_a_4_5 : ar S 4 5 = 0) (h_a_1_3 : ar S 1 3 = 0) (h_a_4_3 : ar S 4 3 = 0) (h_a_0_2 : ar S 0 2 = 0) (h_a_2_2 : ar S 2 2 = 3) (h_a_3_6 : ar S 3 6 = 0) (h_a_4_6 : ar S 4 6 = 0) (h_a_1_7 : ar S 1 7 = 0) (h_a_4_7 : ar S 4 7 = 0) : Ct l D cy T0 tB tE yX12_told cX12_told 1 (some .boolean) 2 45 0 0 (mw cy a S) [.ref (a 0)] (QI D (U := GS) (fun r u => 1 = r ∧ sl S 0 (((((((51541180464 ||| ((ar S 1 6) : Int32).toInt64) <<< ((1 : Int32).toInt64 &&& 63)) ||| 0) <<< ((3 : Int32).toInt64 &&& 63)) ||| 0) <<< ((1 : Int32).toInt64 &&& 63)) ||| 0) = u) (mw cy a)) := by
  refine Ct.ofZ RX12 "told" [(0, .ref (a 0))] rfl rfl rfl rfl (Nat.le_of_ble_eq_true rfl) ?_
  intro p e R s m args below meth c A b
  refine z_aload_n b dX12_told_0 rfl rfl ?_
  refine z_aload_n b dX12_told_1 rfl rfl ?_
  refine z_calll b (z_runV (q0 := 0) (As := []) (st := [.ref (a 0)]) b (c_X12_packs_12 S h_i_0 h_a_0_0 h_a_2_0 h_a_3_1 h_a_1_1 h_a_4_1 h_a_1_2 h_a_4_2 h_a_0_1 h_a_2_1 h_a_3_5 h_a_1_5 h_a_4_5 h_a_1_3 h_a_4_3 h_a_0_2 h_a_2_2 h_a_3_6 h_a_4_6 h_a_1_7 h_a_4_7) cf_X12_packs (mw_0 cy a S) rfl wm_X12_149 wi_X12_packs ws_X12_packs dX12_told_2 rfl (Nat.le_of_ble_eq_true rfl) ⟨by decide, by decide, by decide, by decide⟩) (fun r1628 u1629 h1627 => ?_)
  obtain ⟨rfl, rfl⟩ := h1627
  refine z_put (q0 := 0) (k9 := 6) tyX12 b (mw_0 cy a S) rfl in_X12 tyX12_ok nmX12 (by decide) wf_X12_153 rfl rfl rfl rfl (Nat.le_of_ble_eq_true rfl) dX12_told_5 (mwp_0_6 cy a S (((((((51541180464 ||| ((ar S 1 6) : Int32).toInt64) <<< ((1 : Int32).toInt64 &&& 63)) ||| 0) <<< ((3 : Int32).toInt64 &&& 63)) ||| 0) <<< ((1 : Int32).toInt64 &&& 63)) ||| 0)) ?_
  refine z_iconst (v := 1) b dX12_told_8 (by decide) ?_
  exact z_zret (u := (sl S 0 (((((((51541180464 ||| ((ar S 1 6) : Int32).toInt64) <<< ((1 : Int32).toInt64 &&& 63)) ||| 0) <<< ((3 : Int32).toInt64 &&& 63)) ||| 0) <<< ((1 : Int32).toInt64 &&& 63)) ||| 0))) b rfl (by decide) dX12_told_9 ⟨rfl, rfl⟩ rfl (by decide) (by decide)

set_option maxHeartbeats 4000000 in
set_option maxRecDepth 100000 in
theorem c_X12_debt_25 {l : Launch} {D : va_G} {cy : Nat → ClassId} {T0 tB tE : Nat} {a : Nat → Nat} (S : GS) (p0 : Int32) (h_l_0 : fl S 0 = 1649317774848) (h_a_4_7 : ar S 4 7 = 0) (h_a_1_7 : ar S 1 7 = 0) (h_a_4_6 : ar S 4 6 = 0) (h_a_1_6 : ar S 1 6 = 0) (h_a_3_6 : ar S 3 6 = 0) (h_a_3_2 : ar S 3 2 = 0) (h_a_2_2 : ar S 2 2 = 3) (h_a_0_2 : ar S 0 2 = 0) (h_a_4_3 : ar S 4 3 = 0) (h_a_1_3 : ar S 1 3 = 0) (h_a_4_5 : ar S 4 5 = 0) (h_a_1_5 : ar S 1 5 = 0) (h_a_3_5 : ar S 3 5 = 0) (h_a_3_7 : ar S 3 7 = 0) (h_a_2_1 : ar S 2 1 = 3) (h_a_0_1 : ar S 0 1 = 0) (h_a_4_2 : ar S 4 2 = 0) (h_a_1_2 : ar S 1 2 = 0) (h_a_4_1 : ar S 4 1 = 0) (h_a_1_1 : ar S 1 1 = 0) (h_a_3_1 : ar S 3 1 = 0) (h_a_3_3 : ar S 3 3 = 0) (h_a_2_0 : ar S 2 0 = 3) (h_a_0_0 : ar S 0 0 = 0) (h_i_0 : fi S 0 = 0) (hr_p0 : 0 ≤ p0.toInt ∧ p0.toInt ≤ 7) : Ct l D cy T0 tB tE yX12_debt cX12_debt 4 (some .boolean) 3 65 0 0 (mw cy a S) [.ref (a 0), .int 2, .int 0, .int p0] (QI D (U := GS) (fun r u => (((((p0.toInt < 0)) ∨ ((0 ≤ p0.toInt) ∧ (7 < p0.toInt)))) ∧ 0 = r ∧ S = u) ∨ ((((0 ≤ p0.toInt) ∧ (p0.toInt ≤ 7))) ∧ 1 = r ∧ sl (su S 1 6 p0) 0 (((((((51541180464 ||| ((ar (su S 1 6 p0) 1 6) : Int32).toInt64) <<< ((1 : Int32).toInt64 &&& 63)) ||| 0) <<< ((3 : Int32).toInt64 &&& 63)) ||| 0) <<< ((1 : Int32).toInt64 &&& 63)) ||| 0) = u)) (mw cy a)) := by
  refine Ct.ofZ RX12 "debt" [(0, .ref (a 0)), (1, .int 2), (2, .int 0), (3, .int p0)] rfl rfl rfl rfl (Nat.le_of_ble_eq_true rfl) ?_
  intro p e R s m args below meth c A b
  refine z_iload_n b dX12_debt_0 rfl rfl ?_
  refine z_calli b (z_runS (As := [.int 2]) (st := []) b (c_X12_isOne_4 S ) cf_X12_isOne wm_X12_170 ws_X12_isOne dX12_debt_1 rfl (Nat.le_of_ble_eq_true rfl) ⟨by decide, by decide, by decide, by decide⟩) (fun r1569 u1570 h1568 => ?_)
  obtain ⟨rfl, rfl⟩ := h1568
  refine z_if_eq_f (tgt := 29) b dX12_debt_4 (by decide) (by decide) ?_
  refine z_iload_n b dX12_debt_7 rfl rfl ?_
  refine z_calli b (z_runS (As := [.int 0]) (st := []) b (c_X12_isOne_2 S ) cf_X12_isOne wm_X12_170 ws_X12_isOne dX12_debt_8 rfl (Nat.le_of_ble_eq_true rfl) ⟨by decide, by decide, by decide, by decide⟩) (fun r1572 u1573 h1571 => ?_)
  obtain ⟨rfl, rfl⟩ := h1571
  refine z_if_eq_f (tgt := 29) b dX12_debt_11 (by decide) (by decide) ?_
  refine z_iload_n b dX12_debt_14 rfl rfl ?_
  refine z_iload_n b dX12_debt_15 rfl rfl ?_
  refine z_icmp_eq_f (tgt := 29) b dX12_debt_16 (by decide) (by decide) ?_
  refine z_iload_n b dX12_debt_19 rfl rfl ?_
  refine z_iconst (v := 0) b dX12_debt_20 (by decide) ?_
  refine z_bipush (v := 7) b dX12_debt_21 (by decide) ?_
  refine z_calli b (z_runS (As := [.int p0, .int 0, .int 7]) (st := []) b (c_X12_isIn_7 S p0 ) cf_X12_isIn wm_X12_1 ws_X12_isIn dX12_debt_23 rfl (Nat.le_of_ble_eq_true rfl) ⟨by decide, by decide, by decide, by decide⟩) (fun r1575 u1576 h1574 => ?_)
  rcases h1574 with ⟨c1577, rfl, rfl⟩ | ⟨c1578, rfl, rfl⟩
  · refine z_if_ne_f (tgt := 31) b dX12_debt_26 (by decide) (by decide) ?_
    refine z_iconst (v := 0) b dX12_debt_29 (by decide) ?_
    exact z_zret (u := S) b rfl (by decide) dX12_debt_30 (Or.inl ⟨c1577, rfl, rfl⟩) rfl (by decide) (by decide)
  · refine z_if_ne_t (tgt := 31) b dX12_debt_26 (by decide) (by decide) ?_
    refine z_aload_n b dX12_debt_31 rfl rfl ?_
    refine z_aload_n b dX12_debt_32 rfl rfl ?_
    refine z_get (q0 := 0) (k9 := 6) (v := .long (fl S 0)) b (mw_0 cy a S) rfl in_X12 (by decide) wf_X12_153 rfl dX12_debt_33 ?_
    refine z_eql h_l_0 ?_
    refine z_callv b (z_runV (q0 := 0) (As := [.long 1649317774848]) (st := []) b (c_X12_takes S h_a_4_7 h_a_1_7 h_a_4_6 h_a_1_6 h_a_3_6 h_a_3_2 h_a_2_2 h_a_0_2 h_a_4_3 h_a_1_3 h_a_4_5 h_a_1_5 h_a_3_5 h_a_3_7 h_a_2_1 h_a_0_1 h_a_4_2 h_a_1_2 h_a_4_1 h_a_1_1 h_a_3_1 h_a_3_3 h_a_2_0 h_a_0_0 h_i_0) cf_X12_takes (mw_0 cy a S) rfl wm_X12_174 wi_X12_takes ws_X12_takes dX12_debt_36 rfl (Nat.le_of_ble_eq_true rfl) ⟨by decide, by decide, by decide, by decide⟩) (fun u1581 h1579 => ?_)
    obtain rfl := h1579
    refine z_aload_n b dX12_debt_39 rfl rfl ?_
    refine z_get (q0 := 0) (k9 := 1) (v := .ref (a 2)) b (mw_0 cy a S) rfl in_X12 (by decide) wf_X12_17 rfl dX12_debt_40 ?_
    refine z_iconst (v := 3) b dX12_debt_43 (by decide) ?_
    refine z_iload_n b dX12_debt_44 rfl rfl ?_
    refine z_imul (v := 6) b dX12_debt_45 (by decide) ?_
    refine z_iload_n b dX12_debt_46 rfl rfl ?_
    refine z_iadd (v := 6) b dX12_debt_47 (by decide) ?_
    refine z_iload_n b dX12_debt_48 rfl rfl ?_
    refine y_iast (q0 := 2) (j := 6) b (mw_2 cy a S) (by decide) dX12_debt_49 (mwa_2 cy a S 6 p0) ?_
    refine z_aload_n b dX12_debt_50 rfl rfl ?_
    refine z_calli b (z_runV (q0 := 0) (As := []) (st := []) b (c_X12_told_12 (su S 1 6 p0) h_i_0 h_a_0_0 h_a_2_0 h_a_3_1 h_a_1_1 h_a_4_1 h_a_1_2 h_a_4_2 h_a_0_1 h_a_2_1 h_a_3_5 h_a_1_5 h_a_4_5 h_a_1_3 h_a_4_3 h_a_0_2 h_a_2_2 h_a_3_6 h_a_4_6 h_a_1_7 h_a_4_7) cf_X12_told (mw_0 cy a (su S 1 6 p0)) rfl wm_X12_178 wi_X12_told ws_X12_told dX12_debt_51 rfl (Nat.le_of_ble_eq_true rfl) ⟨by decide, by decide, by decide, by decide⟩) (fun r1631 u1632 h1630 => ?_)
    obtain ⟨rfl, rfl⟩ := h1630
    exact z_zret (u := (sl (su S 1 6 p0) 0 (((((((51541180464 ||| ((ar (su S 1 6 p0) 1 6) : Int32).toInt64) <<< ((1 : Int32).toInt64 &&& 63)) ||| 0) <<< ((3 : Int32).toInt64 &&& 63)) ||| 0) <<< ((1 : Int32).toInt64 &&& 63)) ||| 0))) b rfl (by decide) dX12_debt_54 (Or.inr ⟨c1578, rfl, rfl⟩) rfl (by decide) (by decide)

set_option maxHeartbeats 4000000 in
set_option maxRecDepth 100000 in
theorem c_X11_debt_26 {l : Launch} {D : va_G} {cy : Nat → ClassId} {T0 tB tE : Nat} {a : Nat → Nat} {rw : Nat → Option Nat} (S : GS) (p0 : Int32)  (hr_p0 : 8 ≤ p0.toInt ∧ p0.toInt ≤ 2147483647) : Ct l D cy T0 tB tE yX11_debt cX11_debt 4 (some .boolean) 2 41 0 0 (cw cy tE a rw S) [.ref (a 0), .int 2, .int 0, .int p0] (QI D (U := GS) (fun r u => 0 = r ∧ S = u) (cw cy tE a rw)) := by
  refine Ct.ofZ RX11 "debt" [(0, .ref (a 0)), (1, .int 2), (2, .int 0), (3, .int p0)] rfl rfl rfl rfl (Nat.le_of_ble_eq_true rfl) ?_
  intro p e R s m args below meth c A b
  refine z_iload_n b dX11_debt_0 rfl rfl ?_
  refine z_iload_n b dX11_debt_1 rfl rfl ?_
  refine z_calli b (z_runS (As := [.int 2, .int 0]) (st := []) b (c_X11_arePair_12 S ) cf_X11_arePair wm_X11_84 ws_X11_arePair dX11_debt_2 rfl (Nat.le_of_ble_eq_true rfl) ⟨by decide, by decide, by decide, by decide⟩) (fun r1634 u1635 h1633 => ?_)
  obtain ⟨rfl, rfl⟩ := h1633
  refine z_if_eq_f (tgt := 17) b dX11_debt_5 (by decide) (by decide) ?_
  refine z_iload_n b dX11_debt_8 rfl rfl ?_
  refine z_bipush (v := 7) b dX11_debt_9 (by decide) ?_
  refine z_calli b (z_runS (As := [.int p0, .int 7]) (st := []) b (c_X11_isWithin_3 S p0 ) cf_X11_isWithin wm_X11_73 ws_X11_isWithin dX11_debt_11 rfl (Nat.le_of_ble_eq_true rfl) ⟨by decide, by decide, by decide, by decide⟩) (fun r1637 u1638 h1636 => ?_)
  rcases h1636 with ⟨c1639, rfl, rfl⟩ | ⟨c1640, rfl, rfl⟩
  · refine z_if_ne_f (tgt := 19) b dX11_debt_14 (by decide) (by decide) ?_
    refine z_iconst (v := 0) b dX11_debt_17 (by decide) ?_
    exact z_zret (u := S) b rfl (by decide) dX11_debt_18 ⟨rfl, rfl⟩ rfl (by decide) (by decide)
  · exfalso; omega

set_option maxHeartbeats 4000000 in
set_option maxRecDepth 100000 in
theorem c_X12_debt_26 {l : Launch} {D : va_G} {cy : Nat → ClassId} {T0 tB tE : Nat} {a : Nat → Nat} (S : GS) (p0 : Int32)  (hr_p0 : 8 ≤ p0.toInt ∧ p0.toInt ≤ 2147483647) : Ct l D cy T0 tB tE yX12_debt cX12_debt 4 (some .boolean) 2 42 0 0 (mw cy a S) [.ref (a 0), .int 2, .int 0, .int p0] (QI D (U := GS) (fun r u => 0 = r ∧ S = u) (mw cy a)) := by
  refine Ct.ofZ RX12 "debt" [(0, .ref (a 0)), (1, .int 2), (2, .int 0), (3, .int p0)] rfl rfl rfl rfl (Nat.le_of_ble_eq_true rfl) ?_
  intro p e R s m args below meth c A b
  refine z_iload_n b dX12_debt_0 rfl rfl ?_
  refine z_calli b (z_runS (As := [.int 2]) (st := []) b (c_X12_isOne_4 S ) cf_X12_isOne wm_X12_170 ws_X12_isOne dX12_debt_1 rfl (Nat.le_of_ble_eq_true rfl) ⟨by decide, by decide, by decide, by decide⟩) (fun r1642 u1643 h1641 => ?_)
  obtain ⟨rfl, rfl⟩ := h1641
  refine z_if_eq_f (tgt := 29) b dX12_debt_4 (by decide) (by decide) ?_
  refine z_iload_n b dX12_debt_7 rfl rfl ?_
  refine z_calli b (z_runS (As := [.int 0]) (st := []) b (c_X12_isOne_2 S ) cf_X12_isOne wm_X12_170 ws_X12_isOne dX12_debt_8 rfl (Nat.le_of_ble_eq_true rfl) ⟨by decide, by decide, by decide, by decide⟩) (fun r1645 u1646 h1644 => ?_)
  obtain ⟨rfl, rfl⟩ := h1644
  refine z_if_eq_f (tgt := 29) b dX12_debt_11 (by decide) (by decide) ?_
  refine z_iload_n b dX12_debt_14 rfl rfl ?_
  refine z_iload_n b dX12_debt_15 rfl rfl ?_
  refine z_icmp_eq_f (tgt := 29) b dX12_debt_16 (by decide) (by decide) ?_
  refine z_iload_n b dX12_debt_19 rfl rfl ?_
  refine z_iconst (v := 0) b dX12_debt_20 (by decide) ?_
  refine z_bipush (v := 7) b dX12_debt_21 (by decide) ?_
  refine z_calli b (z_runS (As := [.int p0, .int 0, .int 7]) (st := []) b (c_X12_isIn_7 S p0 ) cf_X12_isIn wm_X12_1 ws_X12_isIn dX12_debt_23 rfl (Nat.le_of_ble_eq_true rfl) ⟨by decide, by decide, by decide, by decide⟩) (fun r1648 u1649 h1647 => ?_)
  rcases h1647 with ⟨c1650, rfl, rfl⟩ | ⟨c1651, rfl, rfl⟩
  · refine z_if_ne_f (tgt := 31) b dX12_debt_26 (by decide) (by decide) ?_
    refine z_iconst (v := 0) b dX12_debt_29 (by decide) ?_
    exact z_zret (u := S) b rfl (by decide) dX12_debt_30 ⟨rfl, rfl⟩ rfl (by decide) (by decide)
  · exfalso; omega

set_option maxHeartbeats 4000000 in
set_option maxRecDepth 100000 in
theorem c_X11_arePair_13 {l : Launch} {D : va_G} {cy : Nat → ClassId} {T0 tB tE : Nat} {a : Nat → Nat} {rw : Nat → Option Nat} (S : GS)   : Ct l D cy T0 tB tE yX11_arePair cX11_arePair 2 (some .boolean) 1 20 0 0 (cw cy tE a rw S) [.int 2, .int 1] (QI D (U := GS) (fun r u => 1 = r ∧ S = u) (cw cy tE a rw)) := by
  refine Ct.ofZ RX11 "arePair" [(0, .int 2), (1, .int 1)] rfl rfl rfl rfl (Nat.le_of_ble_eq_true rfl) ?_
  intro p e R s m args below meth c A b
  refine z_iload_n b dX11_arePair_0 rfl rfl ?_
  refine z_calli b (z_runS (As := [.int 2]) (st := []) b (c_X11_isPerson_4 S ) cf_X11_isPerson wm_X11_69 ws_X11_isPerson dX11_arePair_1 rfl (Nat.le_of_ble_eq_true rfl) ⟨by decide, by decide, by decide, by decide⟩) (fun r1653 u1654 h1652 => ?_)
  obtain ⟨rfl, rfl⟩ := h1652
  refine z_if_eq_f (tgt := 23) b dX11_arePair_4 (by decide) (by decide) ?_
  refine z_iload_n b dX11_arePair_7 rfl rfl ?_
  refine z_calli b (z_runS (As := [.int 1]) (st := []) b (c_X11_isPerson_3 S ) cf_X11_isPerson wm_X11_69 ws_X11_isPerson dX11_arePair_8 rfl (Nat.le_of_ble_eq_true rfl) ⟨by decide, by decide, by decide, by decide⟩) (fun r1656 u1657 h1655 => ?_)
  obtain ⟨rfl, rfl⟩ := h1655
  refine z_if_eq_f (tgt := 23) b dX11_arePair_11 (by decide) (by decide) ?_
  refine z_iload_n b dX11_arePair_14 rfl rfl ?_
  refine z_iload_n b dX11_arePair_15 rfl rfl ?_
  refine z_icmp_eq_f (tgt := 23) b dX11_arePair_16 (by decide) (by decide) ?_
  refine z_iconst (v := 1) b dX11_arePair_19 (by decide) ?_
  refine z_goto (tgt := 24) b dX11_arePair_20 (by decide) ?_
  exact z_zret (u := S) b rfl (by decide) dX11_arePair_24 ⟨rfl, rfl⟩ rfl (by decide) (by decide)

set_option maxHeartbeats 4000000 in
set_option maxRecDepth 100000 in
theorem c_X11_debt_27 {l : Launch} {D : va_G} {cy : Nat → ClassId} {T0 tB tE : Nat} {a : Nat → Nat} {rw : Nat → Option Nat} (S : GS) (p0 : Int32)  (hr_p0 : (-2147483648) ≤ p0.toInt ∧ p0.toInt ≤ (-1)) : Ct l D cy T0 tB tE yX11_debt cX11_debt 4 (some .boolean) 2 41 0 0 (cw cy tE a rw S) [.ref (a 0), .int 2, .int 1, .int p0] (QI D (U := GS) (fun r u => 0 = r ∧ S = u) (cw cy tE a rw)) := by
  refine Ct.ofZ RX11 "debt" [(0, .ref (a 0)), (1, .int 2), (2, .int 1), (3, .int p0)] rfl rfl rfl rfl (Nat.le_of_ble_eq_true rfl) ?_
  intro p e R s m args below meth c A b
  refine z_iload_n b dX11_debt_0 rfl rfl ?_
  refine z_iload_n b dX11_debt_1 rfl rfl ?_
  refine z_calli b (z_runS (As := [.int 2, .int 1]) (st := []) b (c_X11_arePair_13 S ) cf_X11_arePair wm_X11_84 ws_X11_arePair dX11_debt_2 rfl (Nat.le_of_ble_eq_true rfl) ⟨by decide, by decide, by decide, by decide⟩) (fun r1659 u1660 h1658 => ?_)
  obtain ⟨rfl, rfl⟩ := h1658
  refine z_if_eq_f (tgt := 17) b dX11_debt_5 (by decide) (by decide) ?_
  refine z_iload_n b dX11_debt_8 rfl rfl ?_
  refine z_bipush (v := 7) b dX11_debt_9 (by decide) ?_
  refine z_calli b (z_runS (As := [.int p0, .int 7]) (st := []) b (c_X11_isWithin_3 S p0 ) cf_X11_isWithin wm_X11_73 ws_X11_isWithin dX11_debt_11 rfl (Nat.le_of_ble_eq_true rfl) ⟨by decide, by decide, by decide, by decide⟩) (fun r1662 u1663 h1661 => ?_)
  rcases h1661 with ⟨c1664, rfl, rfl⟩ | ⟨c1665, rfl, rfl⟩
  · refine z_if_ne_f (tgt := 19) b dX11_debt_14 (by decide) (by decide) ?_
    refine z_iconst (v := 0) b dX11_debt_17 (by decide) ?_
    exact z_zret (u := S) b rfl (by decide) dX11_debt_18 ⟨rfl, rfl⟩ rfl (by decide) (by decide)
  · exfalso; omega

set_option maxHeartbeats 4000000 in
set_option maxRecDepth 100000 in
theorem c_X12_debt_27 {l : Launch} {D : va_G} {cy : Nat → ClassId} {T0 tB tE : Nat} {a : Nat → Nat} (S : GS) (p0 : Int32)  (hr_p0 : (-2147483648) ≤ p0.toInt ∧ p0.toInt ≤ (-1)) : Ct l D cy T0 tB tE yX12_debt cX12_debt 4 (some .boolean) 2 42 0 0 (mw cy a S) [.ref (a 0), .int 2, .int 1, .int p0] (QI D (U := GS) (fun r u => 0 = r ∧ S = u) (mw cy a)) := by
  refine Ct.ofZ RX12 "debt" [(0, .ref (a 0)), (1, .int 2), (2, .int 1), (3, .int p0)] rfl rfl rfl rfl (Nat.le_of_ble_eq_true rfl) ?_
  intro p e R s m args below meth c A b
  refine z_iload_n b dX12_debt_0 rfl rfl ?_
  refine z_calli b (z_runS (As := [.int 2]) (st := []) b (c_X12_isOne_4 S ) cf_X12_isOne wm_X12_170 ws_X12_isOne dX12_debt_1 rfl (Nat.le_of_ble_eq_true rfl) ⟨by decide, by decide, by decide, by decide⟩) (fun r1667 u1668 h1666 => ?_)
  obtain ⟨rfl, rfl⟩ := h1666
  refine z_if_eq_f (tgt := 29) b dX12_debt_4 (by decide) (by decide) ?_
  refine z_iload_n b dX12_debt_7 rfl rfl ?_
  refine z_calli b (z_runS (As := [.int 1]) (st := []) b (c_X12_isOne_3 S ) cf_X12_isOne wm_X12_170 ws_X12_isOne dX12_debt_8 rfl (Nat.le_of_ble_eq_true rfl) ⟨by decide, by decide, by decide, by decide⟩) (fun r1670 u1671 h1669 => ?_)
  obtain ⟨rfl, rfl⟩ := h1669
  refine z_if_eq_f (tgt := 29) b dX12_debt_11 (by decide) (by decide) ?_
  refine z_iload_n b dX12_debt_14 rfl rfl ?_
  refine z_iload_n b dX12_debt_15 rfl rfl ?_
  refine z_icmp_eq_f (tgt := 29) b dX12_debt_16 (by decide) (by decide) ?_
  refine z_iload_n b dX12_debt_19 rfl rfl ?_
  refine z_iconst (v := 0) b dX12_debt_20 (by decide) ?_
  refine z_bipush (v := 7) b dX12_debt_21 (by decide) ?_
  refine z_calli b (z_runS (As := [.int p0, .int 0, .int 7]) (st := []) b (c_X12_isIn_7 S p0 ) cf_X12_isIn wm_X12_1 ws_X12_isIn dX12_debt_23 rfl (Nat.le_of_ble_eq_true rfl) ⟨by decide, by decide, by decide, by decide⟩) (fun r1673 u1674 h1672 => ?_)
  rcases h1672 with ⟨c1675, rfl, rfl⟩ | ⟨c1676, rfl, rfl⟩
  · refine z_if_ne_f (tgt := 31) b dX12_debt_26 (by decide) (by decide) ?_
    refine z_iconst (v := 0) b dX12_debt_29 (by decide) ?_
    exact z_zret (u := S) b rfl (by decide) dX12_debt_30 ⟨rfl, rfl⟩ rfl (by decide) (by decide)
  · exfalso; omega

set_option maxHeartbeats 4000000 in
set_option maxRecDepth 100000 in
theorem c_X9_set_13 {l : Launch} {D : va_G} {cy : Nat → ClassId} {T0 tB tE : Nat} {a : Nat → Nat} {rw : Nat → Option Nat} (S : GS) (p0 : Int32)  : Ct l D cy T0 tB tE yX9_set cX9_set 3 none 0 0 0 0 (cw cy tE a rw S) [.ref (a 14), .int 17, .int p0] (QV D (U := GS) (fun u => su S 4 17 p0 = u) (cw cy tE a rw)) := by
  refine Ct.ofZ RX9 "set" [(0, .ref (a 14)), (1, .int 17), (2, .int p0)] rfl rfl rfl rfl (Nat.le_of_ble_eq_true rfl) ?_
  intro p e R s m args below meth c A b
  refine z_iload_n b dX9_set_0 rfl rfl ?_
  refine z_if_lt_f (tgt := 20) b dX9_set_1 (by decide) (by decide) ?_
  refine z_iload_n b dX9_set_4 rfl rfl ?_
  refine z_aload_n b dX9_set_5 rfl rfl ?_
  refine z_get (q0 := 14) (k9 := 0) (v := .ref (a 15)) b (cw_14 cy tE a rw S) rfl in_X9 (by decide) wf_X9_11 rfl dX9_set_6 ?_
  refine z_alen (q0 := 15) (t0 := 0) (v := 51) b (cw_15 cy tE a rw S) rfl rfl dX9_set_9 ?_
  refine z_icmp_ge_f (tgt := 20) b dX9_set_10 (by decide) (by decide) ?_
  refine z_aload_n b dX9_set_13 rfl rfl ?_
  refine z_get (q0 := 14) (k9 := 0) (v := .ref (a 15)) b (cw_14 cy tE a rw S) rfl in_X9 (by decide) wf_X9_11 rfl dX9_set_14 ?_
  refine z_iload_n b dX9_set_17 rfl rfl ?_
  refine z_iload_n b dX9_set_18 rfl rfl ?_
  refine y_iast (q0 := 15) (j := 17) b (cw_15 cy tE a rw S) (by decide) dX9_set_19 (cwa_15 cy tE a rw S 17 p0) ?_
  exact z_vret (u := (su S 4 17 p0)) b rfl dX9_set_20 rfl rfl (by decide) (by decide)

set_option maxHeartbeats 4000000 in
set_option maxRecDepth 100000 in
theorem c_X11_debt_28 {l : Launch} {D : va_G} {cy : Nat → ClassId} {T0 tB tE : Nat} {a : Nat → Nat} {rw : Nat → Option Nat} (S : GS) (p0 : Int32) (h_i_24 : fi S 24 = 0) (hr_p0 : 0 ≤ p0.toInt ∧ p0.toInt ≤ 7) : Ct l D cy T0 tB tE yX11_debt cX11_debt 4 (some .boolean) 2 41 0 0 (cw cy tE a rw S) [.ref (a 0), .int 2, .int 1, .int p0] (QI D (U := GS) (fun r u => (((((p0.toInt < 0)) ∨ ((0 ≤ p0.toInt) ∧ (7 < p0.toInt)))) ∧ 0 = r ∧ S = u) ∨ ((((0 ≤ p0.toInt) ∧ (p0.toInt ≤ 7))) ∧ 1 = r ∧ (su S 4 17 p0) = u)) (cw cy tE a rw)) := by
  refine Ct.ofZ RX11 "debt" [(0, .ref (a 0)), (1, .int 2), (2, .int 1), (3, .int p0)] rfl rfl rfl rfl (Nat.le_of_ble_eq_true rfl) ?_
  intro p e R s m args below meth c A b
  refine z_iload_n b dX11_debt_0 rfl rfl ?_
  refine z_iload_n b dX11_debt_1 rfl rfl ?_
  refine z_calli b (z_runS (As := [.int 2, .int 1]) (st := []) b (c_X11_arePair_13 S ) cf_X11_arePair wm_X11_84 ws_X11_arePair dX11_debt_2 rfl (Nat.le_of_ble_eq_true rfl) ⟨by decide, by decide, by decide, by decide⟩) (fun r1678 u1679 h1677 => ?_)
  obtain ⟨rfl, rfl⟩ := h1677
  refine z_if_eq_f (tgt := 17) b dX11_debt_5 (by decide) (by decide) ?_
  refine z_iload_n b dX11_debt_8 rfl rfl ?_
  refine z_bipush (v := 7) b dX11_debt_9 (by decide) ?_
  refine z_calli b (z_runS (As := [.int p0, .int 7]) (st := []) b (c_X11_isWithin_3 S p0 ) cf_X11_isWithin wm_X11_73 ws_X11_isWithin dX11_debt_11 rfl (Nat.le_of_ble_eq_true rfl) ⟨by decide, by decide, by decide, by decide⟩) (fun r1681 u1682 h1680 => ?_)
  rcases h1680 with ⟨c1683, rfl, rfl⟩ | ⟨c1684, rfl, rfl⟩
  · refine z_if_ne_f (tgt := 19) b dX11_debt_14 (by decide) (by decide) ?_
    refine z_iconst (v := 0) b dX11_debt_17 (by decide) ?_
    exact z_zret (u := S) b rfl (by decide) dX11_debt_18 (Or.inl ⟨c1683, rfl, rfl⟩) rfl (by decide) (by decide)
  · refine z_if_ne_t (tgt := 19) b dX11_debt_14 (by decide) (by decide) ?_
    refine z_aload_n b dX11_debt_19 rfl rfl ?_
    refine z_get (q0 := 0) (k9 := 4) (v := .ref (a 14)) b (cw_0 cy tE a rw S) rfl in_X11 (by decide) wf_X11_34 rfl dX11_debt_20 ?_
    refine z_bipush (v := 10) b dX11_debt_23 (by decide) ?_
    refine z_iconst (v := 3) b dX11_debt_25 (by decide) ?_
    refine z_iload_n b dX11_debt_26 rfl rfl ?_
    refine z_imul (v := 6) b dX11_debt_27 (by decide) ?_
    refine z_iadd (v := 16) b dX11_debt_28 (by decide) ?_
    refine z_iload_n b dX11_debt_29 rfl rfl ?_
    refine z_iadd (v := 17) b dX11_debt_30 (by decide) ?_
    refine z_iload_n b dX11_debt_31 rfl rfl ?_
    refine z_callv b (z_runV (q0 := 14) (As := [.int 17, .int p0]) (st := []) b (c_X9_set_13 S p0 ) cf_X9_set (cw_14 cy tE a rw S) rfl wm_X11_77 wi_X9_set ws_X9_set dX11_debt_32 rfl (Nat.le_of_ble_eq_true rfl) ⟨by decide, by decide, by decide, by decide⟩) (fun u1687 h1685 => ?_)
    obtain rfl := h1685
    refine z_aload_n b dX11_debt_35 rfl rfl ?_
    refine z_get (q0 := 0) (k9 := 6) (v := .ref (a 25)) b (cw_0 cy tE a rw (su S 4 17 p0)) rfl in_X11 (by decide) wf_X11_52 rfl dX11_debt_36 ?_
    refine z_callv b (z_runV (q0 := 25) (As := []) (st := []) b (c_X8_forget (su S 4 17 p0) h_i_24) cf_X8_forget (cw_25 cy tE a rw (su S 4 17 p0)) rfl wm_X11_81 wi_X8_forget ws_X8_forget dX11_debt_39 rfl (Nat.le_of_ble_eq_true rfl) ⟨by decide, by decide, by decide, by decide⟩) (fun u1690 h1688 => ?_)
    obtain rfl := h1688
    refine z_iconst (v := 1) b dX11_debt_42 (by decide) ?_
    exact z_zret (u := (su S 4 17 p0)) b rfl (by decide) dX11_debt_43 (Or.inr ⟨c1684, rfl, rfl⟩) rfl (by decide) (by decide)

set_option maxHeartbeats 4000000 in
set_option maxRecDepth 100000 in
theorem ch_X12_packs_28 {p : Program} {l : Launch} {e : Env} {R : Room} {s : State} {m : MethodId} {args : Array Value} {below : List Frame} {meth : Method} {c : Code} {D : va_G} {cy : Nat → ClassId} {T0 tB tE : Nat} {A : Nat → Prop} {Q : State → Prop} {a : Nat → Nat} (S : GS)  (h_a_0_0 : ar S 0 0 = 0) (h_a_1_1 : ar S 1 1 = 0) (h_a_1_2 : ar S 1 2 = 0) (h_a_2_0 : ar S 2 0 = 3) (h_a_3_1 : ar S 3 1 = 0) (h_a_4_1 : ar S 4 1 = 0) (h_a_4_2 : ar S 4 2 = 0) (h_i_0 : fi S 0 = 0) (b : Bz p R s m args meth c D cy T0 tB tE A 5 cX12_packs RX12 (some .long) "packs" 1 21 0 0) (k : Z p l e R s m args below meth c D A 5 Q 0 0 (mw cy a S) [(3, .int 1), (4, .int 2), (1, .long 1536), (0, .ref (a 0))] 21 [.int 1, .ref (a 1), .long 24576]) : Z p l e R s m args below meth c D A 5 Q 0 0 (mw cy a S) [(0, .ref (a 0))] 0 [] := by
  refine z_aload_n b dX12_packs_0 rfl rfl ?_
  refine z_get (q0 := 0) (k9 := 5) (v := .int (fi S 0)) b (mw_0 cy a S) rfl in_X12 (by decide) wf_X12_157 rfl dX12_packs_1 ?_
  refine z_eqi h_i_0 ?_
  refine z_i2l (v := 0) b dX12_packs_4 (by decide) ?_
  refine z_lstore_n (lv' := [(1, .long 0), (0, .ref (a 0))]) b dX12_packs_5 rfl (by decide) rfl ?_
  refine z_iconst (v := 0) b dX12_packs_6 (by decide) ?_
  refine z_istore_n (lv' := [(3, .int 0), (1, .long 0), (0, .ref (a 0))]) b dX12_packs_7 rfl (by decide) rfl ?_
  refine z_iload_n b dX12_packs_8 rfl rfl ?_
  refine z_iconst (v := 3) b dX12_packs_9 (by decide) ?_
  refine z_icmp_ge_f (tgt := 134) b dX12_packs_10 (by decide) (by decide) ?_
  refine z_lload_n b dX12_packs_13 rfl rfl ?_
  refine z_iconst (v := 4) b dX12_packs_14 (by decide) ?_
  refine z_lshl (v := 0) b dX12_packs_15 (by decide) ?_
  refine z_aload_n b dX12_packs_16 rfl rfl ?_
  refine z_get (q0 := 0) (k9 := 0) (v := .ref (a 1)) b (mw_0 cy a S) rfl in_X12 (by decide) wf_X12_13 rfl dX12_packs_17 ?_
  refine z_iload_n b dX12_packs_20 rfl rfl ?_
  refine y_iald (q0 := 1) (j := 0) (v := (ar S 0 0)) b (mw_1 cy a S) (by decide) rfl dX12_packs_21 ?_
  refine z_eqi h_a_0_0 ?_
  refine z_i2l (v := 0) b dX12_packs_22 (by decide) ?_
  refine z_lor (v := 0) b dX12_packs_23 (by decide) ?_
  refine z_lstore_n (lv' := [(1, .long 0), (3, .int 0), (0, .ref (a 0))]) b dX12_packs_24 rfl (by decide) rfl ?_
  refine z_lload_n b dX12_packs_25 rfl rfl ?_
  refine z_iconst (v := 2) b dX12_packs_26 (by decide) ?_
  refine z_lshl (v := 0) b dX12_packs_27 (by decide) ?_
  refine z_aload_n b dX12_packs_28 rfl rfl ?_
  refine z_get (q0 := 0) (k9 := 2) (v := .ref (a 3)) b (mw_0 cy a S) rfl in_X12 (by decide) wf_X12_20 rfl dX12_packs_29 ?_
  refine z_iload_n b dX12_packs_32 rfl rfl ?_
  refine y_iald (q0 := 3) (j := 0) (v := (ar S 2 0)) b (mw_3 cy a S) (by decide) rfl dX12_packs_33 ?_
  refine z_eqi h_a_2_0 ?_
  refine z_i2l (v := 3) b dX12_packs_34 (by decide) ?_
  refine z_lor (v := 3) b dX12_packs_35 (by decide) ?_
  refine z_lstore_n (lv' := [(1, .long 3), (3, .int 0), (0, .ref (a 0))]) b dX12_packs_36 rfl (by decide) rfl ?_
  refine z_lload_n b dX12_packs_37 rfl rfl ?_
  refine z_iconst (v := 1) b dX12_packs_38 (by decide) ?_
  refine z_lshl (v := 6) b dX12_packs_39 (by decide) ?_
  refine z_aload_n b dX12_packs_40 rfl rfl ?_
  refine z_get (q0 := 0) (k9 := 3) (v := .ref (a 4)) b (mw_0 cy a S) rfl in_X12 (by decide) wf_X12_23 rfl dX12_packs_41 ?_
  refine z_iconst (v := 3) b dX12_packs_44 (by decide) ?_
  refine z_iload_n b dX12_packs_45 rfl rfl ?_
  refine z_imul (v := 0) b dX12_packs_46 (by decide) ?_
  refine z_iload_n b dX12_packs_47 rfl rfl ?_
  refine z_iconst (v := 0) b dX12_packs_48 (by decide) ?_
  refine z_calli b (z_runS (As := [.int 0, .int 0]) (st := [.int 0, .ref (a 4), .long 6]) b (c_X12_other_6 S ) cf_X12_other wm_X12_160 ws_X12_other dX12_packs_49 rfl (Nat.le_of_ble_eq_true rfl) ⟨by decide, by decide, by decide, by decide⟩) (fun r1706 u1707 h1705 => ?_)
  obtain ⟨rfl, rfl⟩ := h1705
  refine z_iadd (v := 1) b dX12_packs_52 (by decide) ?_
  refine y_zald (q0 := 4) (j := 1) (v := (ar S 3 1)) b (mw_4 cy a S) (by decide) rfl dX12_packs_53 ?_
  refine z_eqi h_a_3_1 ?_
  refine z_if_eq_t (tgt := 61) b dX12_packs_54 (by decide) (by decide) ?_
  refine z_lconst (v := 0) b dX12_packs_61 (by decide) ?_
  refine z_lor (v := 6) b dX12_packs_62 (by decide) ?_
  refine z_lstore_n (lv' := [(1, .long 6), (3, .int 0), (0, .ref (a 0))]) b dX12_packs_63 rfl (by decide) rfl ?_
  refine z_iconst (v := 0) b dX12_packs_64 (by decide) ?_
  refine z_istore (lv' := [(4, .int 0), (1, .long 6), (3, .int 0), (0, .ref (a 0))]) b dX12_packs_65 (by decide) rfl ?_
  refine z_iload b dX12_packs_67 rfl ?_
  refine z_iconst (v := 2) b dX12_packs_69 (by decide) ?_
  refine z_icmp_ge_f (tgt := 128) b dX12_packs_70 (by decide) (by decide) ?_
  refine z_lload_n b dX12_packs_73 rfl rfl ?_
  refine z_iconst (v := 3) b dX12_packs_74 (by decide) ?_
  refine z_lshl (v := 48) b dX12_packs_75 (by decide) ?_
  refine z_aload_n b dX12_packs_76 rfl rfl ?_
  refine z_get (q0 := 0) (k9 := 1) (v := .ref (a 2)) b (mw_0 cy a S) rfl in_X12 (by decide) wf_X12_17 rfl dX12_packs_77 ?_
  refine z_iconst (v := 3) b dX12_packs_80 (by decide) ?_
  refine z_iload_n b dX12_packs_81 rfl rfl ?_
  refine z_imul (v := 0) b dX12_packs_82 (by decide) ?_
  refine z_iload_n b dX12_packs_83 rfl rfl ?_
  refine z_iload b dX12_packs_84 rfl ?_
  refine z_calli b (z_runS (As := [.int 0, .int 0]) (st := [.int 0, .ref (a 2), .long 48]) b (c_X12_other_6 S ) cf_X12_other wm_X12_160 ws_X12_other dX12_packs_86 rfl (Nat.le_of_ble_eq_true rfl) ⟨by decide, by decide, by decide, by decide⟩) (fun r1709 u1710 h1708 => ?_)
  obtain ⟨rfl, rfl⟩ := h1708
  refine z_iadd (v := 1) b dX12_packs_89 (by decide) ?_
  refine y_iald (q0 := 2) (j := 1) (v := (ar S 1 1)) b (mw_2 cy a S) (by decide) rfl dX12_packs_90 ?_
  refine z_eqi h_a_1_1 ?_
  refine z_i2l (v := 0) b dX12_packs_91 (by decide) ?_
  refine z_lor (v := 48) b dX12_packs_92 (by decide) ?_
  refine z_lstore_n (lv' := [(1, .long 48), (4, .int 0), (3, .int 0), (0, .ref (a 0))]) b dX12_packs_93 rfl (by decide) rfl ?_
  refine z_lload_n b dX12_packs_94 rfl rfl ?_
  refine z_iconst (v := 1) b dX12_packs_95 (by decide) ?_
  refine z_lshl (v := 96) b dX12_packs_96 (by decide) ?_
  refine z_aload_n b dX12_packs_97 rfl rfl ?_
  refine z_get (q0 := 0) (k9 := 4) (v := .ref (a 5)) b (mw_0 cy a S) rfl in_X12 (by decide) wf_X12_27 rfl dX12_packs_98 ?_
  refine z_iconst (v := 3) b dX12_packs_101 (by decide) ?_
  refine z_iload_n b dX12_packs_102 rfl rfl ?_
  refine z_imul (v := 0) b dX12_packs_103 (by decide) ?_
  refine z_iload_n b dX12_packs_104 rfl rfl ?_
  refine z_iload b dX12_packs_105 rfl ?_
  refine z_calli b (z_runS (As := [.int 0, .int 0]) (st := [.int 0, .ref (a 5), .long 96]) b (c_X12_other_6 S ) cf_X12_other wm_X12_160 ws_X12_other dX12_packs_107 rfl (Nat.le_of_ble_eq_true rfl) ⟨by decide, by decide, by decide, by decide⟩) (fun r1712 u1713 h1711 => ?_)
  obtain ⟨rfl, rfl⟩ := h1711
  refine z_iadd (v := 1) b dX12_packs_110 (by decide) ?_
  refine y_zald (q0 := 5) (j := 1) (v := (ar S 4 1)) b (mw_5 cy a S) (by decide) rfl dX12_packs_111 ?_
  refine z_eqi h_a_4_1 ?_
  refine z_if_eq_t (tgt := 119) b dX12_packs_112 (by decide) (by decide) ?_
  refine z_lconst (v := 0) b dX12_packs_119 (by decide) ?_
  refine z_lor (v := 96) b dX12_packs_120 (by decide) ?_
  refine z_lstore_n (lv' := [(1, .long 96), (4, .int 0), (3, .int 0), (0, .ref (a 0))]) b dX12_packs_121 rfl (by decide) rfl ?_
  refine z_iinc (k9 := 1) (v := 1) (lv' := [(4, .int 1), (1, .long 96), (3, .int 0), (0, .ref (a 0))]) b dX12_packs_122 rfl (by decide) (by decide) rfl ?_
  refine z_goto (tgt := 67) b dX12_packs_125 (by decide) ?_
  refine z_iload b dX12_packs_67 rfl ?_
  refine z_iconst (v := 2) b dX12_packs_69 (by decide) ?_
  refine z_icmp_ge_f (tgt := 128) b dX12_packs_70 (by decide) (by decide) ?_
  refine z_lload_n b dX12_packs_73 rfl rfl ?_
  refine z_iconst (v := 3) b dX12_packs_74 (by decide) ?_
  refine z_lshl (v := 768) b dX12_packs_75 (by decide) ?_
  refine z_aload_n b dX12_packs_76 rfl rfl ?_
  refine z_get (q0 := 0) (k9 := 1) (v := .ref (a 2)) b (mw_0 cy a S) rfl in_X12 (by decide) wf_X12_17 rfl dX12_packs_77 ?_
  refine z_iconst (v := 3) b dX12_packs_80 (by decide) ?_
  refine z_iload_n b dX12_packs_81 rfl rfl ?_
  refine z_imul (v := 0) b dX12_packs_82 (by decide) ?_
  refine z_iload_n b dX12_packs_83 rfl rfl ?_
  refine z_iload b dX12_packs_84 rfl ?_
  refine z_calli b (z_runS (As := [.int 0, .int 1]) (st := [.int 0, .ref (a 2), .long 768]) b (c_X12_other_5 S ) cf_X12_other wm_X12_160 ws_X12_other dX12_packs_86 rfl (Nat.le_of_ble_eq_true rfl) ⟨by decide, by decide, by decide, by decide⟩) (fun r1715 u1716 h1714 => ?_)
  obtain ⟨rfl, rfl⟩ := h1714
  refine z_iadd (v := 2) b dX12_packs_89 (by decide) ?_
  refine y_iald (q0 := 2) (j := 2) (v := (ar S 1 2)) b (mw_2 cy a S) (by decide) rfl dX12_packs_90 ?_
  refine z_eqi h_a_1_2 ?_
  refine z_i2l (v := 0) b dX12_packs_91 (by decide) ?_
  refine z_lor (v := 768) b dX12_packs_92 (by decide) ?_
  refine z_lstore_n (lv' := [(1, .long 768), (4, .int 1), (3, .int 0), (0, .ref (a 0))]) b dX12_packs_93 rfl (by decide) rfl ?_
  refine z_lload_n b dX12_packs_94 rfl rfl ?_
  refine z_iconst (v := 1) b dX12_packs_95 (by decide) ?_
  refine z_lshl (v := 1536) b dX12_packs_96 (by decide) ?_
  refine z_aload_n b dX12_packs_97 rfl rfl ?_
  refine z_get (q0 := 0) (k9 := 4) (v := .ref (a 5)) b (mw_0 cy a S) rfl in_X12 (by decide) wf_X12_27 rfl dX12_packs_98 ?_
  refine z_iconst (v := 3) b dX12_packs_101 (by decide) ?_
  refine z_iload_n b dX12_packs_102 rfl rfl ?_
  refine z_imul (v := 0) b dX12_packs_103 (by decide) ?_
  refine z_iload_n b dX12_packs_104 rfl rfl ?_
  refine z_iload b dX12_packs_105 rfl ?_
  refine z_calli b (z_runS (As := [.int 0, .int 1]) (st := [.int 0, .ref (a 5), .long 1536]) b (c_X12_other_5 S ) cf_X12_other wm_X12_160 ws_X12_other dX12_packs_107 rfl (Nat.le_of_ble_eq_true rfl) ⟨by decide, by decide, by decide, by decide⟩) (fun r1718 u1719 h1717 => ?_)
  obtain ⟨rfl, rfl⟩ := h1717
  refine z_iadd (v := 2) b dX12_packs_110 (by decide) ?_
  refine y_zald (q0 := 5) (j := 2) (v := (ar S 4 2)) b (mw_5 cy a S) (by decide) rfl dX12_packs_111 ?_
  refine z_eqi h_a_4_2 ?_
  refine z_if_eq_t (tgt := 119) b dX12_packs_112 (by decide) (by decide) ?_
  refine z_lconst (v := 0) b dX12_packs_119 (by decide) ?_
  refine z_lor (v := 1536) b dX12_packs_120 (by decide) ?_
  refine z_lstore_n (lv' := [(1, .long 1536), (4, .int 1), (3, .int 0), (0, .ref (a 0))]) b dX12_packs_121 rfl (by decide) rfl ?_
  refine z_iinc (k9 := 1) (v := 2) (lv' := [(4, .int 2), (1, .long 1536), (3, .int 0), (0, .ref (a 0))]) b dX12_packs_122 rfl (by decide) (by decide) rfl ?_
  refine z_goto (tgt := 67) b dX12_packs_125 (by decide) ?_
  refine z_iload b dX12_packs_67 rfl ?_
  refine z_iconst (v := 2) b dX12_packs_69 (by decide) ?_
  refine z_icmp_ge_t (tgt := 128) b dX12_packs_70 (by decide) (by decide) ?_
  refine z_iinc (k9 := 2) (v := 1) (lv' := [(3, .int 1), (4, .int 2), (1, .long 1536), (0, .ref (a 0))]) b dX12_packs_128 rfl (by decide) (by decide) rfl ?_
  refine z_goto (tgt := 8) b dX12_packs_131 (by decide) ?_
  refine z_iload_n b dX12_packs_8 rfl rfl ?_
  refine z_iconst (v := 3) b dX12_packs_9 (by decide) ?_
  refine z_icmp_ge_f (tgt := 134) b dX12_packs_10 (by decide) (by decide) ?_
  refine z_lload_n b dX12_packs_13 rfl rfl ?_
  refine z_iconst (v := 4) b dX12_packs_14 (by decide) ?_
  refine z_lshl (v := 24576) b dX12_packs_15 (by decide) ?_
  refine z_aload_n b dX12_packs_16 rfl rfl ?_
  refine z_get (q0 := 0) (k9 := 0) (v := .ref (a 1)) b (mw_0 cy a S) rfl in_X12 (by decide) wf_X12_13 rfl dX12_packs_17 ?_
  refine z_iload_n b dX12_packs_20 rfl rfl ?_
  exact k

set_option maxHeartbeats 4000000 in
set_option maxRecDepth 100000 in
theorem ch_X12_packs_29 {p : Program} {l : Launch} {e : Env} {R : Room} {s : State} {m : MethodId} {args : Array Value} {below : List Frame} {meth : Method} {c : Code} {D : va_G} {cy : Nat → ClassId} {T0 tB tE : Nat} {A : Nat → Prop} {Q : State → Prop} {a : Nat → Nat} (S : GS)  (h_a_0_1 : ar S 0 1 = 0) (h_a_0_2 : ar S 0 2 = 0) (h_a_1_3 : ar S 1 3 = 0) (h_a_1_5 : ar S 1 5 = 0) (h_a_2_1 : ar S 2 1 = 3) (h_a_2_2 : ar S 2 2 = 3) (h_a_3_5 : ar S 3 5 = 0) (h_a_4_3 : ar S 4 3 = 0) (h_a_4_5 : ar S 4 5 = 0) (b : Bz p R s m args meth c D cy T0 tB tE A 5 cX12_packs RX12 (some .long) "packs" 1 21 0 0) (k : Z p l e R s m args below meth c D A 5 Q 0 0 (mw cy a S) [(1, .long 3221323779), (3, .int 2), (4, .int 2), (0, .ref (a 0))] 37 []) : Z p l e R s m args below meth c D A 5 Q 0 0 (mw cy a S) [(3, .int 1), (4, .int 2), (1, .long 1536), (0, .ref (a 0))] 21 [.int 1, .ref (a 1), .long 24576] := by
  refine y_iald (q0 := 1) (j := 1) (v := (ar S 0 1)) b (mw_1 cy a S) (by decide) rfl dX12_packs_21 ?_
  refine z_eqi h_a_0_1 ?_
  refine z_i2l (v := 0) b dX12_packs_22 (by decide) ?_
  refine z_lor (v := 24576) b dX12_packs_23 (by decide) ?_
  refine z_lstore_n (lv' := [(1, .long 24576), (3, .int 1), (4, .int 2), (0, .ref (a 0))]) b dX12_packs_24 rfl (by decide) rfl ?_
  refine z_lload_n b dX12_packs_25 rfl rfl ?_
  refine z_iconst (v := 2) b dX12_packs_26 (by decide) ?_
  refine z_lshl (v := 98304) b dX12_packs_27 (by decide) ?_
  refine z_aload_n b dX12_packs_28 rfl rfl ?_
  refine z_get (q0 := 0) (k9 := 2) (v := .ref (a 3)) b (mw_0 cy a S) rfl in_X12 (by decide) wf_X12_20 rfl dX12_packs_29 ?_
  refine z_iload_n b dX12_packs_32 rfl rfl ?_
  refine y_iald (q0 := 3) (j := 1) (v := (ar S 2 1)) b (mw_3 cy a S) (by decide) rfl dX12_packs_33 ?_
  refine z_eqi h_a_2_1 ?_
  refine z_i2l (v := 3) b dX12_packs_34 (by decide) ?_
  refine z_lor (v := 98307) b dX12_packs_35 (by decide) ?_
  refine z_lstore_n (lv' := [(1, .long 98307), (3, .int 1), (4, .int 2), (0, .ref (a 0))]) b dX12_packs_36 rfl (by decide) rfl ?_
  refine z_lload_n b dX12_packs_37 rfl rfl ?_
  refine z_iconst (v := 1) b dX12_packs_38 (by decide) ?_
  refine z_lshl (v := 196614) b dX12_packs_39 (by decide) ?_
  refine z_aload_n b dX12_packs_40 rfl rfl ?_
  refine z_get (q0 := 0) (k9 := 3) (v := .ref (a 4)) b (mw_0 cy a S) rfl in_X12 (by decide) wf_X12_23 rfl dX12_packs_41 ?_
  refine z_iconst (v := 3) b dX12_packs_44 (by decide) ?_
  refine z_iload_n b dX12_packs_45 rfl rfl ?_
  refine z_imul (v := 3) b dX12_packs_46 (by decide) ?_
  refine z_iload_n b dX12_packs_47 rfl rfl ?_
  refine z_iconst (v := 0) b dX12_packs_48 (by decide) ?_
  refine z_calli b (z_runS (As := [.int 1, .int 0]) (st := [.int 3, .ref (a 4), .long 196614]) b (c_X12_other_4 S ) cf_X12_other wm_X12_160 ws_X12_other dX12_packs_49 rfl (Nat.le_of_ble_eq_true rfl) ⟨by decide, by decide, by decide, by decide⟩) (fun r1721 u1722 h1720 => ?_)
  obtain ⟨rfl, rfl⟩ := h1720
  refine z_iadd (v := 5) b dX12_packs_52 (by decide) ?_
  refine y_zald (q0 := 4) (j := 5) (v := (ar S 3 5)) b (mw_4 cy a S) (by decide) rfl dX12_packs_53 ?_
  refine z_eqi h_a_3_5 ?_
  refine z_if_eq_t (tgt := 61) b dX12_packs_54 (by decide) (by decide) ?_
  refine z_lconst (v := 0) b dX12_packs_61 (by decide) ?_
  refine z_lor (v := 196614) b dX12_packs_62 (by decide) ?_
  refine z_lstore_n (lv' := [(1, .long 196614), (3, .int 1), (4, .int 2), (0, .ref (a 0))]) b dX12_packs_63 rfl (by decide) rfl ?_
  refine z_iconst (v := 0) b dX12_packs_64 (by decide) ?_
  refine z_istore (lv' := [(4, .int 0), (1, .long 196614), (3, .int 1), (0, .ref (a 0))]) b dX12_packs_65 (by decide) rfl ?_
  refine z_iload b dX12_packs_67 rfl ?_
  refine z_iconst (v := 2) b dX12_packs_69 (by decide) ?_
  refine z_icmp_ge_f (tgt := 128) b dX12_packs_70 (by decide) (by decide) ?_
  refine z_lload_n b dX12_packs_73 rfl rfl ?_
  refine z_iconst (v := 3) b dX12_packs_74 (by decide) ?_
  refine z_lshl (v := 1572912) b dX12_packs_75 (by decide) ?_
  refine z_aload_n b dX12_packs_76 rfl rfl ?_
  refine z_get (q0 := 0) (k9 := 1) (v := .ref (a 2)) b (mw_0 cy a S) rfl in_X12 (by decide) wf_X12_17 rfl dX12_packs_77 ?_
  refine z_iconst (v := 3) b dX12_packs_80 (by decide) ?_
  refine z_iload_n b dX12_packs_81 rfl rfl ?_
  refine z_imul (v := 3) b dX12_packs_82 (by decide) ?_
  refine z_iload_n b dX12_packs_83 rfl rfl ?_
  refine z_iload b dX12_packs_84 rfl ?_
  refine z_calli b (z_runS (As := [.int 1, .int 0]) (st := [.int 3, .ref (a 2), .long 1572912]) b (c_X12_other_4 S ) cf_X12_other wm_X12_160 ws_X12_other dX12_packs_86 rfl (Nat.le_of_ble_eq_true rfl) ⟨by decide, by decide, by decide, by decide⟩) (fun r1724 u1725 h1723 => ?_)
  obtain ⟨rfl, rfl⟩ := h1723
  refine z_iadd (v := 5) b dX12_packs_89 (by decide) ?_
  refine y_iald (q0 := 2) (j := 5) (v := (ar S 1 5)) b (mw_2 cy a S) (by decide) rfl dX12_packs_90 ?_
  refine z_eqi h_a_1_5 ?_
  refine z_i2l (v := 0) b dX12_packs_91 (by decide) ?_
  refine z_lor (v := 1572912) b dX12_packs_92 (by decide) ?_
  refine z_lstore_n (lv' := [(1, .long 1572912), (4, .int 0), (3, .int 1), (0, .ref (a 0))]) b dX12_packs_93 rfl (by decide) rfl ?_
  refine z_lload_n b dX12_packs_94 rfl rfl ?_
  refine z_iconst (v := 1) b dX12_packs_95 (by decide) ?_
  refine z_lshl (v := 3145824) b dX12_packs_96 (by decide) ?_
  refine z_aload_n b dX12_packs_97 rfl rfl ?_
  refine z_get (q0 := 0) (k9 := 4) (v := .ref (a 5)) b (mw_0 cy a S) rfl in_X12 (by decide) wf_X12_27 rfl dX12_packs_98 ?_
  refine z_iconst (v := 3) b dX12_packs_101 (by decide) ?_
  refine z_iload_n b dX12_packs_102 rfl rfl ?_
  refine z_imul (v := 3) b dX12_packs_103 (by decide) ?_
  refine z_iload_n b dX12_packs_104 rfl rfl ?_
  refine z_iload b dX12_packs_105 rfl ?_
  refine z_calli b (z_runS (As := [.int 1, .int 0]) (st := [.int 3, .ref (a 5), .long 3145824]) b (c_X12_other_4 S ) cf_X12_other wm_X12_160 ws_X12_other dX12_packs_107 rfl (Nat.le_of_ble_eq_true rfl) ⟨by decide, by decide, by decide, by decide⟩) (fun r1727 u1728 h1726 => ?_)
  obtain ⟨rfl, rfl⟩ := h1726
  refine z_iadd (v := 5) b dX12_packs_110 (by decide) ?_
  refine y_zald (q0 := 5) (j := 5) (v := (ar S 4 5)) b (mw_5 cy a S) (by decide) rfl dX12_packs_111 ?_
  refine z_eqi h_a_4_5 ?_
  refine z_if_eq_t (tgt := 119) b dX12_packs_112 (by decide) (by decide) ?_
  refine z_lconst (v := 0) b dX12_packs_119 (by decide) ?_
  refine z_lor (v := 3145824) b dX12_packs_120 (by decide) ?_
  refine z_lstore_n (lv' := [(1, .long 3145824), (4, .int 0), (3, .int 1), (0, .ref (a 0))]) b dX12_packs_121 rfl (by decide) rfl ?_
  refine z_iinc (k9 := 1) (v := 1) (lv' := [(4, .int 1), (1, .long 3145824), (3, .int 1), (0, .ref (a 0))]) b dX12_packs_122 rfl (by decide) (by decide) rfl ?_
  refine z_goto (tgt := 67) b dX12_packs_125 (by decide) ?_
  refine z_iload b dX12_packs_67 rfl ?_
  refine z_iconst (v := 2) b dX12_packs_69 (by decide) ?_
  refine z_icmp_ge_f (tgt := 128) b dX12_packs_70 (by decide) (by decide) ?_
  refine z_lload_n b dX12_packs_73 rfl rfl ?_
  refine z_iconst (v := 3) b dX12_packs_74 (by decide) ?_
  refine z_lshl (v := 25166592) b dX12_packs_75 (by decide) ?_
  refine z_aload_n b dX12_packs_76 rfl rfl ?_
  refine z_get (q0 := 0) (k9 := 1) (v := .ref (a 2)) b (mw_0 cy a S) rfl in_X12 (by decide) wf_X12_17 rfl dX12_packs_77 ?_
  refine z_iconst (v := 3) b dX12_packs_80 (by decide) ?_
  refine z_iload_n b dX12_packs_81 rfl rfl ?_
  refine z_imul (v := 3) b dX12_packs_82 (by decide) ?_
  refine z_iload_n b dX12_packs_83 rfl rfl ?_
  refine z_iload b dX12_packs_84 rfl ?_
  refine z_calli b (z_runS (As := [.int 1, .int 1]) (st := [.int 3, .ref (a 2), .long 25166592]) b (c_X12_other_3 S ) cf_X12_other wm_X12_160 ws_X12_other dX12_packs_86 rfl (Nat.le_of_ble_eq_true rfl) ⟨by decide, by decide, by decide, by decide⟩) (fun r1730 u1731 h1729 => ?_)
  obtain ⟨rfl, rfl⟩ := h1729
  refine z_iadd (v := 3) b dX12_packs_89 (by decide) ?_
  refine y_iald (q0 := 2) (j := 3) (v := (ar S 1 3)) b (mw_2 cy a S) (by decide) rfl dX12_packs_90 ?_
  refine z_eqi h_a_1_3 ?_
  refine z_i2l (v := 0) b dX12_packs_91 (by decide) ?_
  refine z_lor (v := 25166592) b dX12_packs_92 (by decide) ?_
  refine z_lstore_n (lv' := [(1, .long 25166592), (4, .int 1), (3, .int 1), (0, .ref (a 0))]) b dX12_packs_93 rfl (by decide) rfl ?_
  refine z_lload_n b dX12_packs_94 rfl rfl ?_
  refine z_iconst (v := 1) b dX12_packs_95 (by decide) ?_
  refine z_lshl (v := 50333184) b dX12_packs_96 (by decide) ?_
  refine z_aload_n b dX12_packs_97 rfl rfl ?_
  refine z_get (q0 := 0) (k9 := 4) (v := .ref (a 5)) b (mw_0 cy a S) rfl in_X12 (by decide) wf_X12_27 rfl dX12_packs_98 ?_
  refine z_iconst (v := 3) b dX12_packs_101 (by decide) ?_
  refine z_iload_n b dX12_packs_102 rfl rfl ?_
  refine z_imul (v := 3) b dX12_packs_103 (by decide) ?_
  refine z_iload_n b dX12_packs_104 rfl rfl ?_
  refine z_iload b dX12_packs_105 rfl ?_
  refine z_calli b (z_runS (As := [.int 1, .int 1]) (st := [.int 3, .ref (a 5), .long 50333184]) b (c_X12_other_3 S ) cf_X12_other wm_X12_160 ws_X12_other dX12_packs_107 rfl (Nat.le_of_ble_eq_true rfl) ⟨by decide, by decide, by decide, by decide⟩) (fun r1733 u1734 h1732 => ?_)
  obtain ⟨rfl, rfl⟩ := h1732
  refine z_iadd (v := 3) b dX12_packs_110 (by decide) ?_
  refine y_zald (q0 := 5) (j := 3) (v := (ar S 4 3)) b (mw_5 cy a S) (by decide) rfl dX12_packs_111 ?_
  refine z_eqi h_a_4_3 ?_
  refine z_if_eq_t (tgt := 119) b dX12_packs_112 (by decide) (by decide) ?_
  refine z_lconst (v := 0) b dX12_packs_119 (by decide) ?_
  refine z_lor (v := 50333184) b dX12_packs_120 (by decide) ?_
  refine z_lstore_n (lv' := [(1, .long 50333184), (4, .int 1), (3, .int 1), (0, .ref (a 0))]) b dX12_packs_121 rfl (by decide) rfl ?_
  refine z_iinc (k9 := 1) (v := 2) (lv' := [(4, .int 2), (1, .long 50333184), (3, .int 1), (0, .ref (a 0))]) b dX12_packs_122 rfl (by decide) (by decide) rfl ?_
  refine z_goto (tgt := 67) b dX12_packs_125 (by decide) ?_
  refine z_iload b dX12_packs_67 rfl ?_
  refine z_iconst (v := 2) b dX12_packs_69 (by decide) ?_
  refine z_icmp_ge_t (tgt := 128) b dX12_packs_70 (by decide) (by decide) ?_
  refine z_iinc (k9 := 2) (v := 2) (lv' := [(3, .int 2), (4, .int 2), (1, .long 50333184), (0, .ref (a 0))]) b dX12_packs_128 rfl (by decide) (by decide) rfl ?_
  refine z_goto (tgt := 8) b dX12_packs_131 (by decide) ?_
  refine z_iload_n b dX12_packs_8 rfl rfl ?_
  refine z_iconst (v := 3) b dX12_packs_9 (by decide) ?_
  refine z_icmp_ge_f (tgt := 134) b dX12_packs_10 (by decide) (by decide) ?_
  refine z_lload_n b dX12_packs_13 rfl rfl ?_
  refine z_iconst (v := 4) b dX12_packs_14 (by decide) ?_
  refine z_lshl (v := 805330944) b dX12_packs_15 (by decide) ?_
  refine z_aload_n b dX12_packs_16 rfl rfl ?_
  refine z_get (q0 := 0) (k9 := 0) (v := .ref (a 1)) b (mw_0 cy a S) rfl in_X12 (by decide) wf_X12_13 rfl dX12_packs_17 ?_
  refine z_iload_n b dX12_packs_20 rfl rfl ?_
  refine y_iald (q0 := 1) (j := 2) (v := (ar S 0 2)) b (mw_1 cy a S) (by decide) rfl dX12_packs_21 ?_
  refine z_eqi h_a_0_2 ?_
  refine z_i2l (v := 0) b dX12_packs_22 (by decide) ?_
  refine z_lor (v := 805330944) b dX12_packs_23 (by decide) ?_
  refine z_lstore_n (lv' := [(1, .long 805330944), (3, .int 2), (4, .int 2), (0, .ref (a 0))]) b dX12_packs_24 rfl (by decide) rfl ?_
  refine z_lload_n b dX12_packs_25 rfl rfl ?_
  refine z_iconst (v := 2) b dX12_packs_26 (by decide) ?_
  refine z_lshl (v := 3221323776) b dX12_packs_27 (by decide) ?_
  refine z_aload_n b dX12_packs_28 rfl rfl ?_
  refine z_get (q0 := 0) (k9 := 2) (v := .ref (a 3)) b (mw_0 cy a S) rfl in_X12 (by decide) wf_X12_20 rfl dX12_packs_29 ?_
  refine z_iload_n b dX12_packs_32 rfl rfl ?_
  refine y_iald (q0 := 3) (j := 2) (v := (ar S 2 2)) b (mw_3 cy a S) (by decide) rfl dX12_packs_33 ?_
  refine z_eqi h_a_2_2 ?_
  refine z_i2l (v := 3) b dX12_packs_34 (by decide) ?_
  refine z_lor (v := 3221323779) b dX12_packs_35 (by decide) ?_
  refine z_lstore_n (lv' := [(1, .long 3221323779), (3, .int 2), (4, .int 2), (0, .ref (a 0))]) b dX12_packs_36 rfl (by decide) rfl ?_
  exact k

set_option maxHeartbeats 4000000 in
set_option maxRecDepth 100000 in
theorem c_X12_packs_13 {l : Launch} {D : va_G} {cy : Nat → ClassId} {T0 tB tE : Nat} {a : Nat → Nat} (S : GS)  (h_i_0 : fi S 0 = 0) (h_a_0_0 : ar S 0 0 = 0) (h_a_2_0 : ar S 2 0 = 3) (h_a_3_1 : ar S 3 1 = 0) (h_a_1_1 : ar S 1 1 = 0) (h_a_4_1 : ar S 4 1 = 0) (h_a_1_2 : ar S 1 2 = 0) (h_a_4_2 : ar S 4 2 = 0) (h_a_0_1 : ar S 0 1 = 0) (h_a_2_1 : ar S 2 1 = 3) (h_a_3_5 : ar S 3 5 = 0) (h_a_1_5 : ar S 1 5 = 0) (h_a_4_5 : ar S 4 5 = 0) (h_a_1_3 : ar S 1 3 = 0) (h_a_4_3 : ar S 4 3 = 0) (h_a_0_2 : ar S 0 2 = 0) (h_a_2_2 : ar S 2 2 = 3) (h_a_3_6 : ar S 3 6 = 0) (h_a_1_6 : ar S 1 6 = 0) (h_a_4_6 : ar S 4 6 = 0) (h_a_4_7 : ar S 4 7 = 0) : Ct l D cy T0 tB tE yX12_packs cX12_packs 5 (some .long) 1 21 0 0 (mw cy a S) [.ref (a 0)] (QL D (U := GS) (fun r u => (((824658887424 ||| ((ar S 1 7) : Int32).toInt64) <<< ((1 : Int32).toInt64 &&& 63)) ||| 0) = r ∧ S = u) (mw cy a)) := by
  refine Ct.ofZ RX12 "packs" [(0, .ref (a 0))] rfl rfl rfl rfl (Nat.le_of_ble_eq_true rfl) ?_
  intro p e R s m args below meth c A b
  refine ch_X12_packs_28 S  h_a_0_0 h_a_1_1 h_a_1_2 h_a_2_0 h_a_3_1 h_a_4_1 h_a_4_2 h_i_0  b ?_
  refine ch_X12_packs_29 S  h_a_0_1 h_a_0_2 h_a_1_3 h_a_1_5 h_a_2_1 h_a_2_2 h_a_3_5 h_a_4_3 h_a_4_5  b ?_
  refine z_lload_n b dX12_packs_37 rfl rfl ?_
  refine z_iconst (v := 1) b dX12_packs_38 (by decide) ?_
  refine z_lshl (v := 6442647558) b dX12_packs_39 (by decide) ?_
  refine z_aload_n b dX12_packs_40 rfl rfl ?_
  refine z_get (q0 := 0) (k9 := 3) (v := .ref (a 4)) b (mw_0 cy a S) rfl in_X12 (by decide) wf_X12_23 rfl dX12_packs_41 ?_
  refine z_iconst (v := 3) b dX12_packs_44 (by decide) ?_
  refine z_iload_n b dX12_packs_45 rfl rfl ?_
  refine z_imul (v := 6) b dX12_packs_46 (by decide) ?_
  refine z_iload_n b dX12_packs_47 rfl rfl ?_
  refine z_iconst (v := 0) b dX12_packs_48 (by decide) ?_
  refine z_calli b (z_runS (As := [.int 2, .int 0]) (st := [.int 6, .ref (a 4), .long 6442647558]) b (c_X12_other_2 S ) cf_X12_other wm_X12_160 ws_X12_other dX12_packs_49 rfl (Nat.le_of_ble_eq_true rfl) ⟨by decide, by decide, by decide, by decide⟩) (fun r1736 u1737 h1735 => ?_)
  obtain ⟨rfl, rfl⟩ := h1735
  refine z_iadd (v := 6) b dX12_packs_52 (by decide) ?_
  refine y_zald (q0 := 4) (j := 6) (v := (ar S 3 6)) b (mw_4 cy a S) (by decide) rfl dX12_packs_53 ?_
  refine z_eqi h_a_3_6 ?_
  refine z_if_eq_t (tgt := 61) b dX12_packs_54 (by decide) (by decide) ?_
  refine z_lconst (v := 0) b dX12_packs_61 (by decide) ?_
  refine z_lor (v := 6442647558) b dX12_packs_62 (by decide) ?_
  refine z_lstore_n (lv' := [(1, .long 6442647558), (3, .int 2), (4, .int 2), (0, .ref (a 0))]) b dX12_packs_63 rfl (by decide) rfl ?_
  refine z_iconst (v := 0) b dX12_packs_64 (by decide) ?_
  refine z_istore (lv' := [(4, .int 0), (1, .long 6442647558), (3, .int 2), (0, .ref (a 0))]) b dX12_packs_65 (by decide) rfl ?_
  refine z_iload b dX12_packs_67 rfl ?_
  refine z_iconst (v := 2) b dX12_packs_69 (by decide) ?_
  refine z_icmp_ge_f (tgt := 128) b dX12_packs_70 (by decide) (by decide) ?_
  refine z_lload_n b dX12_packs_73 rfl rfl ?_
  refine z_iconst (v := 3) b dX12_packs_74 (by decide) ?_
  refine z_lshl (v := 51541180464) b dX12_packs_75 (by decide) ?_
  refine z_aload_n b dX12_packs_76 rfl rfl ?_
  refine z_get (q0 := 0) (k9 := 1) (v := .ref (a 2)) b (mw_0 cy a S) rfl in_X12 (by decide) wf_X12_17 rfl dX12_packs_77 ?_
  refine z_iconst (v := 3) b dX12_packs_80 (by decide) ?_
  refine z_iload_n b dX12_packs_81 rfl rfl ?_
  refine z_imul (v := 6) b dX12_packs_82 (by decide) ?_
  refine z_iload_n b dX12_packs_83 rfl rfl ?_
  refine z_iload b dX12_packs_84 rfl ?_
  refine z_calli b (z_runS (As := [.int 2, .int 0]) (st := [.int 6, .ref (a 2), .long 51541180464]) b (c_X12_other_2 S ) cf_X12_other wm_X12_160 ws_X12_other dX12_packs_86 rfl (Nat.le_of_ble_eq_true rfl) ⟨by decide, by decide, by decide, by decide⟩) (fun r1739 u1740 h1738 => ?_)
  obtain ⟨rfl, rfl⟩ := h1738
  refine z_iadd (v := 6) b dX12_packs_89 (by decide) ?_
  refine y_iald (q0 := 2) (j := 6) (v := (ar S 1 6)) b (mw_2 cy a S) (by decide) rfl dX12_packs_90 ?_
  refine z_eqi h_a_1_6 ?_
  refine z_i2l (v := 0) b dX12_packs_91 (by decide) ?_
  refine z_lor (v := 51541180464) b dX12_packs_92 (by decide) ?_
  refine z_lstore_n (lv' := [(1, .long 51541180464), (4, .int 0), (3, .int 2), (0, .ref (a 0))]) b dX12_packs_93 rfl (by decide) rfl ?_
  refine z_lload_n b dX12_packs_94 rfl rfl ?_
  refine z_iconst (v := 1) b dX12_packs_95 (by decide) ?_
  refine z_lshl (v := 103082360928) b dX12_packs_96 (by decide) ?_
  refine z_aload_n b dX12_packs_97 rfl rfl ?_
  refine z_get (q0 := 0) (k9 := 4) (v := .ref (a 5)) b (mw_0 cy a S) rfl in_X12 (by decide) wf_X12_27 rfl dX12_packs_98 ?_
  refine z_iconst (v := 3) b dX12_packs_101 (by decide) ?_
  refine z_iload_n b dX12_packs_102 rfl rfl ?_
  refine z_imul (v := 6) b dX12_packs_103 (by decide) ?_
  refine z_iload_n b dX12_packs_104 rfl rfl ?_
  refine z_iload b dX12_packs_105 rfl ?_
  refine z_calli b (z_runS (As := [.int 2, .int 0]) (st := [.int 6, .ref (a 5), .long 103082360928]) b (c_X12_other_2 S ) cf_X12_other wm_X12_160 ws_X12_other dX12_packs_107 rfl (Nat.le_of_ble_eq_true rfl) ⟨by decide, by decide, by decide, by decide⟩) (fun r1742 u1743 h1741 => ?_)
  obtain ⟨rfl, rfl⟩ := h1741
  refine z_iadd (v := 6) b dX12_packs_110 (by decide) ?_
  refine y_zald (q0 := 5) (j := 6) (v := (ar S 4 6)) b (mw_5 cy a S) (by decide) rfl dX12_packs_111 ?_
  refine z_eqi h_a_4_6 ?_
  refine z_if_eq_t (tgt := 119) b dX12_packs_112 (by decide) (by decide) ?_
  refine z_lconst (v := 0) b dX12_packs_119 (by decide) ?_
  refine z_lor (v := 103082360928) b dX12_packs_120 (by decide) ?_
  refine z_lstore_n (lv' := [(1, .long 103082360928), (4, .int 0), (3, .int 2), (0, .ref (a 0))]) b dX12_packs_121 rfl (by decide) rfl ?_
  refine z_iinc (k9 := 1) (v := 1) (lv' := [(4, .int 1), (1, .long 103082360928), (3, .int 2), (0, .ref (a 0))]) b dX12_packs_122 rfl (by decide) (by decide) rfl ?_
  refine z_goto (tgt := 67) b dX12_packs_125 (by decide) ?_
  refine z_iload b dX12_packs_67 rfl ?_
  refine z_iconst (v := 2) b dX12_packs_69 (by decide) ?_
  refine z_icmp_ge_f (tgt := 128) b dX12_packs_70 (by decide) (by decide) ?_
  refine z_lload_n b dX12_packs_73 rfl rfl ?_
  refine z_iconst (v := 3) b dX12_packs_74 (by decide) ?_
  refine z_lshl (v := 824658887424) b dX12_packs_75 (by decide) ?_
  refine z_aload_n b dX12_packs_76 rfl rfl ?_
  refine z_get (q0 := 0) (k9 := 1) (v := .ref (a 2)) b (mw_0 cy a S) rfl in_X12 (by decide) wf_X12_17 rfl dX12_packs_77 ?_
  refine z_iconst (v := 3) b dX12_packs_80 (by decide) ?_
  refine z_iload_n b dX12_packs_81 rfl rfl ?_
  refine z_imul (v := 6) b dX12_packs_82 (by decide) ?_
  refine z_iload_n b dX12_packs_83 rfl rfl ?_
  refine z_iload b dX12_packs_84 rfl ?_
  refine z_calli b (z_runS (As := [.int 2, .int 1]) (st := [.int 6, .ref (a 2), .long 824658887424]) b (c_X12_other S ) cf_X12_other wm_X12_160 ws_X12_other dX12_packs_86 rfl (Nat.le_of_ble_eq_true rfl) ⟨by decide, by decide, by decide, by decide⟩) (fun r1745 u1746 h1744 => ?_)
  obtain ⟨rfl, rfl⟩ := h1744
  refine z_iadd (v := 7) b dX12_packs_89 (by decide) ?_
  refine y_iald (q0 := 2) (j := 7) (v := (ar S 1 7)) b (mw_2 cy a S) (by decide) rfl dX12_packs_90 ?_
  refine z_i2l b dX12_packs_91 rfl ?_
  refine z_lor b dX12_packs_92 rfl ?_
  refine z_lstore_n (lv' := [(1, .long (824658887424 ||| ((ar S 1 7) : Int32).toInt64)), (4, .int 1), (3, .int 2), (0, .ref (a 0))]) b dX12_packs_93 rfl (by decide) rfl ?_
  refine z_lload_n b dX12_packs_94 rfl rfl ?_
  refine z_iconst (v := 1) b dX12_packs_95 (by decide) ?_
  refine z_lshl b dX12_packs_96 rfl ?_
  refine z_aload_n b dX12_packs_97 rfl rfl ?_
  refine z_get (q0 := 0) (k9 := 4) (v := .ref (a 5)) b (mw_0 cy a S) rfl in_X12 (by decide) wf_X12_27 rfl dX12_packs_98 ?_
  refine z_iconst (v := 3) b dX12_packs_101 (by decide) ?_
  refine z_iload_n b dX12_packs_102 rfl rfl ?_
  refine z_imul (v := 6) b dX12_packs_103 (by decide) ?_
  refine z_iload_n b dX12_packs_104 rfl rfl ?_
  refine z_iload b dX12_packs_105 rfl ?_
  refine z_calli b (z_runS (As := [.int 2, .int 1]) (st := [.int 6, .ref (a 5), .long ((824658887424 ||| ((ar S 1 7) : Int32).toInt64) <<< ((1 : Int32).toInt64 &&& 63))]) b (c_X12_other S ) cf_X12_other wm_X12_160 ws_X12_other dX12_packs_107 rfl (Nat.le_of_ble_eq_true rfl) ⟨by decide, by decide, by decide, by decide⟩) (fun r1748 u1749 h1747 => ?_)
  obtain ⟨rfl, rfl⟩ := h1747
  refine z_iadd (v := 7) b dX12_packs_110 (by decide) ?_
  refine y_zald (q0 := 5) (j := 7) (v := (ar S 4 7)) b (mw_5 cy a S) (by decide) rfl dX12_packs_111 ?_
  refine z_eqi h_a_4_7 ?_
  refine z_if_eq_t (tgt := 119) b dX12_packs_112 (by decide) (by decide) ?_
  refine z_lconst (v := 0) b dX12_packs_119 (by decide) ?_
  refine z_lor b dX12_packs_120 rfl ?_
  refine z_lstore_n (lv' := [(1, .long (((824658887424 ||| ((ar S 1 7) : Int32).toInt64) <<< ((1 : Int32).toInt64 &&& 63)) ||| 0)), (4, .int 1), (3, .int 2), (0, .ref (a 0))]) b dX12_packs_121 rfl (by decide) rfl ?_
  refine z_iinc (k9 := 1) (v := 2) (lv' := [(4, .int 2), (1, .long (((824658887424 ||| ((ar S 1 7) : Int32).toInt64) <<< ((1 : Int32).toInt64 &&& 63)) ||| 0)), (3, .int 2), (0, .ref (a 0))]) b dX12_packs_122 rfl (by decide) (by decide) rfl ?_
  refine z_goto (tgt := 67) b dX12_packs_125 (by decide) ?_
  refine z_iload b dX12_packs_67 rfl ?_
  refine z_iconst (v := 2) b dX12_packs_69 (by decide) ?_
  refine z_icmp_ge_t (tgt := 128) b dX12_packs_70 (by decide) (by decide) ?_
  refine z_iinc (k9 := 2) (v := 3) (lv' := [(3, .int 3), (4, .int 2), (1, .long (((824658887424 ||| ((ar S 1 7) : Int32).toInt64) <<< ((1 : Int32).toInt64 &&& 63)) ||| 0)), (0, .ref (a 0))]) b dX12_packs_128 rfl (by decide) (by decide) rfl ?_
  refine z_goto (tgt := 8) b dX12_packs_131 (by decide) ?_
  refine z_iload_n b dX12_packs_8 rfl rfl ?_
  refine z_iconst (v := 3) b dX12_packs_9 (by decide) ?_
  refine z_icmp_ge_t (tgt := 134) b dX12_packs_10 (by decide) (by decide) ?_
  refine z_lload_n b dX12_packs_134 rfl rfl ?_
  exact z_lret (u := S) b rfl dX12_packs_135 ⟨rfl, rfl⟩ rfl (by decide) (by decide)

set_option maxHeartbeats 4000000 in
set_option maxRecDepth 100000 in
theorem c_X12_told_13 {l : Launch} {D : va_G} {cy : Nat → ClassId} {T0 tB tE : Nat} {a : Nat → Nat} (S : GS)  (h_i_0 : fi S 0 = 0) (h_a_0_0 : ar S 0 0 = 0) (h_a_2_0 : ar S 2 0 = 3) (h_a_3_1 : ar S 3 1 = 0) (h_a_1_1 : ar S 1 1 = 0) (h_a_4_1 : ar S 4 1 = 0) (h_a_1_2 : ar S 1 2 = 0) (h_a_4_2 : ar S 4 2 = 0) (h_a_0_1 : ar S 0 1 = 0) (h_a_2_1 : ar S 2 1 = 3) (h_a_3_5 : ar S 3 5 = 0) (h_a_1_5 : ar S 1 5 = 0) (h_a_4_5 : ar S 4 5 = 0) (h_a_1_3 : ar S 1 3 = 0) (h_a_4_3 : ar S 4 3 = 0) (h_a_0_2 : ar S 0 2 = 0) (h_a_2_2 : ar S 2 2 = 3) (h_a_3_6 : ar S 3 6 = 0) (h_a_1_6 : ar S 1 6 = 0) (h_a_4_6 : ar S 4 6 = 0) (h_a_4_7 : ar S 4 7 = 0) : Ct l D cy T0 tB tE yX12_told cX12_told 1 (some .boolean) 2 45 0 0 (mw cy a S) [.ref (a 0)] (QI D (U := GS) (fun r u => 1 = r ∧ sl S 0 (((824658887424 ||| ((ar S 1 7) : Int32).toInt64) <<< ((1 : Int32).toInt64 &&& 63)) ||| 0) = u) (mw cy a)) := by
  refine Ct.ofZ RX12 "told" [(0, .ref (a 0))] rfl rfl rfl rfl (Nat.le_of_ble_eq_true rfl) ?_
  intro p e R s m args below meth c A b
  refine z_aload_n b dX12_told_0 rfl rfl ?_
  refine z_aload_n b dX12_told_1 rfl rfl ?_
  refine z_calll b (z_runV (q0 := 0) (As := []) (st := [.ref (a 0)]) b (c_X12_packs_13 S h_i_0 h_a_0_0 h_a_2_0 h_a_3_1 h_a_1_1 h_a_4_1 h_a_1_2 h_a_4_2 h_a_0_1 h_a_2_1 h_a_3_5 h_a_1_5 h_a_4_5 h_a_1_3 h_a_4_3 h_a_0_2 h_a_2_2 h_a_3_6 h_a_1_6 h_a_4_6 h_a_4_7) cf_X12_packs (mw_0 cy a S) rfl wm_X12_149 wi_X12_packs ws_X12_packs dX12_told_2 rfl (Nat.le_of_ble_eq_true rfl) ⟨by decide, by decide, by decide, by decide⟩) (fun r1751 u1752 h1750 => ?_)
  obtain ⟨rfl, rfl⟩ := h1750
  refine z_put (q0 := 0) (k9 := 6) tyX12 b (mw_0 cy a S) rfl in_X12 tyX12_ok nmX12 (by decide) wf_X12_153 rfl rfl rfl rfl (Nat.le_of_ble_eq_true rfl) dX12_told_5 (mwp_0_6 cy a S (((824658887424 ||| ((ar S 1 7) : Int32).toInt64) <<< ((1 : Int32).toInt64 &&& 63)) ||| 0)) ?_
  refine z_iconst (v := 1) b dX12_told_8 (by decide) ?_
  exact z_zret (u := (sl S 0 (((824658887424 ||| ((ar S 1 7) : Int32).toInt64) <<< ((1 : Int32).toInt64 &&& 63)) ||| 0))) b rfl (by decide) dX12_told_9 ⟨rfl, rfl⟩ rfl (by decide) (by decide)

set_option maxHeartbeats 4000000 in
set_option maxRecDepth 100000 in
theorem c_X12_debt_28 {l : Launch} {D : va_G} {cy : Nat → ClassId} {T0 tB tE : Nat} {a : Nat → Nat} (S : GS) (p0 : Int32) (h_l_0 : fl S 0 = 1649317774848) (h_a_4_7 : ar S 4 7 = 0) (h_a_1_7 : ar S 1 7 = 0) (h_a_4_6 : ar S 4 6 = 0) (h_a_1_6 : ar S 1 6 = 0) (h_a_3_6 : ar S 3 6 = 0) (h_a_3_2 : ar S 3 2 = 0) (h_a_2_2 : ar S 2 2 = 3) (h_a_0_2 : ar S 0 2 = 0) (h_a_4_3 : ar S 4 3 = 0) (h_a_1_3 : ar S 1 3 = 0) (h_a_4_5 : ar S 4 5 = 0) (h_a_1_5 : ar S 1 5 = 0) (h_a_3_5 : ar S 3 5 = 0) (h_a_3_7 : ar S 3 7 = 0) (h_a_2_1 : ar S 2 1 = 3) (h_a_0_1 : ar S 0 1 = 0) (h_a_4_2 : ar S 4 2 = 0) (h_a_1_2 : ar S 1 2 = 0) (h_a_4_1 : ar S 4 1 = 0) (h_a_1_1 : ar S 1 1 = 0) (h_a_3_1 : ar S 3 1 = 0) (h_a_3_3 : ar S 3 3 = 0) (h_a_2_0 : ar S 2 0 = 3) (h_a_0_0 : ar S 0 0 = 0) (h_i_0 : fi S 0 = 0) (hr_p0 : 0 ≤ p0.toInt ∧ p0.toInt ≤ 7) : Ct l D cy T0 tB tE yX12_debt cX12_debt 4 (some .boolean) 3 65 0 0 (mw cy a S) [.ref (a 0), .int 2, .int 1, .int p0] (QI D (U := GS) (fun r u => (((((p0.toInt < 0)) ∨ ((0 ≤ p0.toInt) ∧ (7 < p0.toInt)))) ∧ 0 = r ∧ S = u) ∨ ((((0 ≤ p0.toInt) ∧ (p0.toInt ≤ 7))) ∧ 1 = r ∧ sl (su S 1 7 p0) 0 (((824658887424 ||| ((ar (su S 1 7 p0) 1 7) : Int32).toInt64) <<< ((1 : Int32).toInt64 &&& 63)) ||| 0) = u)) (mw cy a)) := by
  refine Ct.ofZ RX12 "debt" [(0, .ref (a 0)), (1, .int 2), (2, .int 1), (3, .int p0)] rfl rfl rfl rfl (Nat.le_of_ble_eq_true rfl) ?_
  intro p e R s m args below meth c A b
  refine z_iload_n b dX12_debt_0 rfl rfl ?_
  refine z_calli b (z_runS (As := [.int 2]) (st := []) b (c_X12_isOne_4 S ) cf_X12_isOne wm_X12_170 ws_X12_isOne dX12_debt_1 rfl (Nat.le_of_ble_eq_true rfl) ⟨by decide, by decide, by decide, by decide⟩) (fun r1692 u1693 h1691 => ?_)
  obtain ⟨rfl, rfl⟩ := h1691
  refine z_if_eq_f (tgt := 29) b dX12_debt_4 (by decide) (by decide) ?_
  refine z_iload_n b dX12_debt_7 rfl rfl ?_
  refine z_calli b (z_runS (As := [.int 1]) (st := []) b (c_X12_isOne_3 S ) cf_X12_isOne wm_X12_170 ws_X12_isOne dX12_debt_8 rfl (Nat.le_of_ble_eq_true rfl) ⟨by decide, by decide, by decide, by decide⟩) (fun r1695 u1696 h1694 => ?_)
  obtain ⟨rfl, rfl⟩ := h1694
  refine z_if_eq_f (tgt := 29) b dX12_debt_11 (by decide) (by decide) ?_
  refine z_iload_n b dX12_debt_14 rfl rfl ?_
  refine z_iload_n b dX12_debt_15 rfl rfl ?_
  refine z_icmp_eq_f (tgt := 29) b dX12_debt_16 (by decide) (by decide) ?_
  refine z_iload_n b dX12_debt_19 rfl rfl ?_
  refine z_iconst (v := 0) b dX12_debt_20 (by decide) ?_
  refine z_bipush (v := 7) b dX12_debt_21 (by decide) ?_
  refine z_calli b (z_runS (As := [.int p0, .int 0, .int 7]) (st := []) b (c_X12_isIn_7 S p0 ) cf_X12_isIn wm_X12_1 ws_X12_isIn dX12_debt_23 rfl (Nat.le_of_ble_eq_true rfl) ⟨by decide, by decide, by decide, by decide⟩) (fun r1698 u1699 h1697 => ?_)
  rcases h1697 with ⟨c1700, rfl, rfl⟩ | ⟨c1701, rfl, rfl⟩
  · refine z_if_ne_f (tgt := 31) b dX12_debt_26 (by decide) (by decide) ?_
    refine z_iconst (v := 0) b dX12_debt_29 (by decide) ?_
    exact z_zret (u := S) b rfl (by decide) dX12_debt_30 (Or.inl ⟨c1700, rfl, rfl⟩) rfl (by decide) (by decide)
  · refine z_if_ne_t (tgt := 31) b dX12_debt_26 (by decide) (by decide) ?_
    refine z_aload_n b dX12_debt_31 rfl rfl ?_
    refine z_aload_n b dX12_debt_32 rfl rfl ?_
    refine z_get (q0 := 0) (k9 := 6) (v := .long (fl S 0)) b (mw_0 cy a S) rfl in_X12 (by decide) wf_X12_153 rfl dX12_debt_33 ?_
    refine z_eql h_l_0 ?_
    refine z_callv b (z_runV (q0 := 0) (As := [.long 1649317774848]) (st := []) b (c_X12_takes S h_a_4_7 h_a_1_7 h_a_4_6 h_a_1_6 h_a_3_6 h_a_3_2 h_a_2_2 h_a_0_2 h_a_4_3 h_a_1_3 h_a_4_5 h_a_1_5 h_a_3_5 h_a_3_7 h_a_2_1 h_a_0_1 h_a_4_2 h_a_1_2 h_a_4_1 h_a_1_1 h_a_3_1 h_a_3_3 h_a_2_0 h_a_0_0 h_i_0) cf_X12_takes (mw_0 cy a S) rfl wm_X12_174 wi_X12_takes ws_X12_takes dX12_debt_36 rfl (Nat.le_of_ble_eq_true rfl) ⟨by decide, by decide, by decide, by decide⟩) (fun u1704 h1702 => ?_)
    obtain rfl := h1702
    refine z_aload_n b dX12_debt_39 rfl rfl ?_
    refine z_get (q0 := 0) (k9 := 1) (v := .ref (a 2)) b (mw_0 cy a S) rfl in_X12 (by decide) wf_X12_17 rfl dX12_debt_40 ?_
    refine z_iconst (v := 3) b dX12_debt_43 (by decide) ?_
    refine z_iload_n b dX12_debt_44 rfl rfl ?_
    refine z_imul (v := 6) b dX12_debt_45 (by decide) ?_
    refine z_iload_n b dX12_debt_46 rfl rfl ?_
    refine z_iadd (v := 7) b dX12_debt_47 (by decide) ?_
    refine z_iload_n b dX12_debt_48 rfl rfl ?_
    refine y_iast (q0 := 2) (j := 7) b (mw_2 cy a S) (by decide) dX12_debt_49 (mwa_2 cy a S 7 p0) ?_
    refine z_aload_n b dX12_debt_50 rfl rfl ?_
    refine z_calli b (z_runV (q0 := 0) (As := []) (st := []) b (c_X12_told_13 (su S 1 7 p0) h_i_0 h_a_0_0 h_a_2_0 h_a_3_1 h_a_1_1 h_a_4_1 h_a_1_2 h_a_4_2 h_a_0_1 h_a_2_1 h_a_3_5 h_a_1_5 h_a_4_5 h_a_1_3 h_a_4_3 h_a_0_2 h_a_2_2 h_a_3_6 h_a_1_6 h_a_4_6 h_a_4_7) cf_X12_told (mw_0 cy a (su S 1 7 p0)) rfl wm_X12_178 wi_X12_told ws_X12_told dX12_debt_51 rfl (Nat.le_of_ble_eq_true rfl) ⟨by decide, by decide, by decide, by decide⟩) (fun r1754 u1755 h1753 => ?_)
    obtain ⟨rfl, rfl⟩ := h1753
    exact z_zret (u := (sl (su S 1 7 p0) 0 (((824658887424 ||| ((ar (su S 1 7 p0) 1 7) : Int32).toInt64) <<< ((1 : Int32).toInt64 &&& 63)) ||| 0))) b rfl (by decide) dX12_debt_54 (Or.inr ⟨c1701, rfl, rfl⟩) rfl (by decide) (by decide)

set_option maxHeartbeats 4000000 in
set_option maxRecDepth 100000 in
theorem c_X11_debt_29 {l : Launch} {D : va_G} {cy : Nat → ClassId} {T0 tB tE : Nat} {a : Nat → Nat} {rw : Nat → Option Nat} (S : GS) (p0 : Int32)  (hr_p0 : 8 ≤ p0.toInt ∧ p0.toInt ≤ 2147483647) : Ct l D cy T0 tB tE yX11_debt cX11_debt 4 (some .boolean) 2 41 0 0 (cw cy tE a rw S) [.ref (a 0), .int 2, .int 1, .int p0] (QI D (U := GS) (fun r u => 0 = r ∧ S = u) (cw cy tE a rw)) := by
  refine Ct.ofZ RX11 "debt" [(0, .ref (a 0)), (1, .int 2), (2, .int 1), (3, .int p0)] rfl rfl rfl rfl (Nat.le_of_ble_eq_true rfl) ?_
  intro p e R s m args below meth c A b
  refine z_iload_n b dX11_debt_0 rfl rfl ?_
  refine z_iload_n b dX11_debt_1 rfl rfl ?_
  refine z_calli b (z_runS (As := [.int 2, .int 1]) (st := []) b (c_X11_arePair_13 S ) cf_X11_arePair wm_X11_84 ws_X11_arePair dX11_debt_2 rfl (Nat.le_of_ble_eq_true rfl) ⟨by decide, by decide, by decide, by decide⟩) (fun r1757 u1758 h1756 => ?_)
  obtain ⟨rfl, rfl⟩ := h1756
  refine z_if_eq_f (tgt := 17) b dX11_debt_5 (by decide) (by decide) ?_
  refine z_iload_n b dX11_debt_8 rfl rfl ?_
  refine z_bipush (v := 7) b dX11_debt_9 (by decide) ?_
  refine z_calli b (z_runS (As := [.int p0, .int 7]) (st := []) b (c_X11_isWithin_3 S p0 ) cf_X11_isWithin wm_X11_73 ws_X11_isWithin dX11_debt_11 rfl (Nat.le_of_ble_eq_true rfl) ⟨by decide, by decide, by decide, by decide⟩) (fun r1760 u1761 h1759 => ?_)
  rcases h1759 with ⟨c1762, rfl, rfl⟩ | ⟨c1763, rfl, rfl⟩
  · refine z_if_ne_f (tgt := 19) b dX11_debt_14 (by decide) (by decide) ?_
    refine z_iconst (v := 0) b dX11_debt_17 (by decide) ?_
    exact z_zret (u := S) b rfl (by decide) dX11_debt_18 ⟨rfl, rfl⟩ rfl (by decide) (by decide)
  · exfalso; omega

set_option maxHeartbeats 4000000 in
set_option maxRecDepth 100000 in
theorem c_X12_debt_29 {l : Launch} {D : va_G} {cy : Nat → ClassId} {T0 tB tE : Nat} {a : Nat → Nat} (S : GS) (p0 : Int32)  (hr_p0 : 8 ≤ p0.toInt ∧ p0.toInt ≤ 2147483647) : Ct l D cy T0 tB tE yX12_debt cX12_debt 4 (some .boolean) 2 42 0 0 (mw cy a S) [.ref (a 0), .int 2, .int 1, .int p0] (QI D (U := GS) (fun r u => 0 = r ∧ S = u) (mw cy a)) := by
  refine Ct.ofZ RX12 "debt" [(0, .ref (a 0)), (1, .int 2), (2, .int 1), (3, .int p0)] rfl rfl rfl rfl (Nat.le_of_ble_eq_true rfl) ?_
  intro p e R s m args below meth c A b
  refine z_iload_n b dX12_debt_0 rfl rfl ?_
  refine z_calli b (z_runS (As := [.int 2]) (st := []) b (c_X12_isOne_4 S ) cf_X12_isOne wm_X12_170 ws_X12_isOne dX12_debt_1 rfl (Nat.le_of_ble_eq_true rfl) ⟨by decide, by decide, by decide, by decide⟩) (fun r1765 u1766 h1764 => ?_)
  obtain ⟨rfl, rfl⟩ := h1764
  refine z_if_eq_f (tgt := 29) b dX12_debt_4 (by decide) (by decide) ?_
  refine z_iload_n b dX12_debt_7 rfl rfl ?_
  refine z_calli b (z_runS (As := [.int 1]) (st := []) b (c_X12_isOne_3 S ) cf_X12_isOne wm_X12_170 ws_X12_isOne dX12_debt_8 rfl (Nat.le_of_ble_eq_true rfl) ⟨by decide, by decide, by decide, by decide⟩) (fun r1768 u1769 h1767 => ?_)
  obtain ⟨rfl, rfl⟩ := h1767
  refine z_if_eq_f (tgt := 29) b dX12_debt_11 (by decide) (by decide) ?_
  refine z_iload_n b dX12_debt_14 rfl rfl ?_
  refine z_iload_n b dX12_debt_15 rfl rfl ?_
  refine z_icmp_eq_f (tgt := 29) b dX12_debt_16 (by decide) (by decide) ?_
  refine z_iload_n b dX12_debt_19 rfl rfl ?_
  refine z_iconst (v := 0) b dX12_debt_20 (by decide) ?_
  refine z_bipush (v := 7) b dX12_debt_21 (by decide) ?_
  refine z_calli b (z_runS (As := [.int p0, .int 0, .int 7]) (st := []) b (c_X12_isIn_7 S p0 ) cf_X12_isIn wm_X12_1 ws_X12_isIn dX12_debt_23 rfl (Nat.le_of_ble_eq_true rfl) ⟨by decide, by decide, by decide, by decide⟩) (fun r1771 u1772 h1770 => ?_)
  rcases h1770 with ⟨c1773, rfl, rfl⟩ | ⟨c1774, rfl, rfl⟩
  · refine z_if_ne_f (tgt := 31) b dX12_debt_26 (by decide) (by decide) ?_
    refine z_iconst (v := 0) b dX12_debt_29 (by decide) ?_
    exact z_zret (u := S) b rfl (by decide) dX12_debt_30 ⟨rfl, rfl⟩ rfl (by decide) (by decide)
  · exfalso; omega

