theorem dX11_kin_0 : decode cX11_kin 0 = .ok (.iload_n 1, 1) := by decide +kernel
theorem dX11_kin_1 : decode cX11_kin 1 = .ok (.iload_n 2, 1) := by decide +kernel
theorem dX11_kin_2 : decode cX11_kin 2 = .ok (.invokestatic 84, 3) := by decide +kernel
theorem dX11_kin_5 : decode cX11_kin 5 = .ok (.ifCond .eq 11, 3) := by decide +kernel
theorem dX11_kin_8 : decode cX11_kin 8 = .ok (.iload_n 3, 1) := by decide +kernel
theorem dX11_kin_9 : decode cX11_kin 9 = .ok (.iconst 1, 1) := by decide +kernel
theorem dX11_kin_10 : decode cX11_kin 10 = .ok (.invokestatic 73, 3) := by decide +kernel
theorem dX11_kin_13 : decode cX11_kin 13 = .ok (.ifCond .ne 5, 3) := by decide +kernel
theorem dX11_kin_16 : decode cX11_kin 16 = .ok (.iconst 0, 1) := by decide +kernel
theorem dX11_kin_17 : decode cX11_kin 17 = .ok (.ireturn, 1) := by decide +kernel
theorem dX11_kin_18 : decode cX11_kin 18 = .ok (.iload 4, 2) := by decide +kernel
theorem dX11_kin_20 : decode cX11_kin 20 = .ok (.ifCond .eq 7, 3) := by decide +kernel
theorem dX11_kin_23 : decode cX11_kin 23 = .ok (.iconst 1, 1) := by decide +kernel
theorem dX11_kin_24 : decode cX11_kin 24 = .ok (.goto 4, 3) := by decide +kernel
theorem dX11_kin_27 : decode cX11_kin 27 = .ok (.iconst 0, 1) := by decide +kernel
theorem dX11_kin_28 : decode cX11_kin 28 = .ok (.istore 5, 2) := by decide +kernel
theorem dX11_kin_30 : decode cX11_kin 30 = .ok (.iload_n 3, 1) := by decide +kernel
theorem dX11_kin_31 : decode cX11_kin 31 = .ok (.ifCond .ne 40, 3) := by decide +kernel
theorem dX11_kin_34 : decode cX11_kin 34 = .ok (.aload_n 0, 1) := by decide +kernel
theorem dX11_kin_35 : decode cX11_kin 35 = .ok (.getfield 34, 3) := by decide +kernel
theorem dX11_kin_38 : decode cX11_kin 38 = .ok (.bipush 20, 2) := by decide +kernel
theorem dX11_kin_40 : decode cX11_kin 40 = .ok (.iconst 3, 1) := by decide +kernel
theorem dX11_kin_41 : decode cX11_kin 41 = .ok (.iload_n 1, 1) := by decide +kernel
theorem dX11_kin_42 : decode cX11_kin 42 = .ok (.imul, 1) := by decide +kernel
theorem dX11_kin_43 : decode cX11_kin 43 = .ok (.iadd, 1) := by decide +kernel
theorem dX11_kin_44 : decode cX11_kin 44 = .ok (.iload_n 2, 1) := by decide +kernel
theorem dX11_kin_45 : decode cX11_kin 45 = .ok (.iadd, 1) := by decide +kernel
theorem dX11_kin_46 : decode cX11_kin 46 = .ok (.iload 5, 2) := by decide +kernel
theorem dX11_kin_48 : decode cX11_kin 48 = .ok (.invokevirtual 77, 3) := by decide +kernel
theorem dX11_kin_51 : decode cX11_kin 51 = .ok (.aload_n 0, 1) := by decide +kernel
theorem dX11_kin_52 : decode cX11_kin 52 = .ok (.getfield 34, 3) := by decide +kernel
theorem dX11_kin_55 : decode cX11_kin 55 = .ok (.bipush 20, 2) := by decide +kernel
theorem dX11_kin_57 : decode cX11_kin 57 = .ok (.iconst 3, 1) := by decide +kernel
theorem dX11_kin_58 : decode cX11_kin 58 = .ok (.iload_n 2, 1) := by decide +kernel
theorem dX11_kin_59 : decode cX11_kin 59 = .ok (.imul, 1) := by decide +kernel
theorem dX11_kin_60 : decode cX11_kin 60 = .ok (.iadd, 1) := by decide +kernel
theorem dX11_kin_61 : decode cX11_kin 61 = .ok (.iload_n 1, 1) := by decide +kernel
theorem dX11_kin_62 : decode cX11_kin 62 = .ok (.iadd, 1) := by decide +kernel
theorem dX11_kin_63 : decode cX11_kin 63 = .ok (.iload 5, 2) := by decide +kernel
theorem dX11_kin_65 : decode cX11_kin 65 = .ok (.invokevirtual 77, 3) := by decide +kernel
theorem dX11_kin_68 : decode cX11_kin 68 = .ok (.goto 20, 3) := by decide +kernel
theorem dX11_kin_71 : decode cX11_kin 71 = .ok (.aload_n 0, 1) := by decide +kernel
theorem dX11_kin_72 : decode cX11_kin 72 = .ok (.getfield 34, 3) := by decide +kernel
theorem dX11_kin_75 : decode cX11_kin 75 = .ok (.bipush 30, 2) := by decide +kernel
theorem dX11_kin_77 : decode cX11_kin 77 = .ok (.iconst 3, 1) := by decide +kernel
theorem dX11_kin_78 : decode cX11_kin 78 = .ok (.iload_n 1, 1) := by decide +kernel
theorem dX11_kin_79 : decode cX11_kin 79 = .ok (.imul, 1) := by decide +kernel
theorem dX11_kin_80 : decode cX11_kin 80 = .ok (.iadd, 1) := by decide +kernel
theorem dX11_kin_81 : decode cX11_kin 81 = .ok (.iload_n 2, 1) := by decide +kernel
theorem dX11_kin_82 : decode cX11_kin 82 = .ok (.iadd, 1) := by decide +kernel
theorem dX11_kin_83 : decode cX11_kin 83 = .ok (.iload 5, 2) := by decide +kernel
theorem dX11_kin_85 : decode cX11_kin 85 = .ok (.invokevirtual 77, 3) := by decide +kernel
theorem dX11_kin_88 : decode cX11_kin 88 = .ok (.aload_n 0, 1) := by decide +kernel
theorem dX11_kin_89 : decode cX11_kin 89 = .ok (.getfield 52, 3) := by decide +kernel
theorem dX11_kin_92 : decode cX11_kin 92 = .ok (.invokevirtual 81, 3) := by decide +kernel
theorem dX11_kin_95 : decode cX11_kin 95 = .ok (.iconst 1, 1) := by decide +kernel
theorem dX11_kin_96 : decode cX11_kin 96 = .ok (.ireturn, 1) := by decide +kernel
theorem dX12_kin_0 : decode cX12_kin 0 = .ok (.iload_n 1, 1) := by decide +kernel
theorem dX12_kin_1 : decode cX12_kin 1 = .ok (.invokestatic 170, 3) := by decide +kernel
theorem dX12_kin_4 : decode cX12_kin 4 = .ok (.ifCond .eq 24, 3) := by decide +kernel
theorem dX12_kin_7 : decode cX12_kin 7 = .ok (.iload_n 2, 1) := by decide +kernel
theorem dX12_kin_8 : decode cX12_kin 8 = .ok (.invokestatic 170, 3) := by decide +kernel
theorem dX12_kin_11 : decode cX12_kin 11 = .ok (.ifCond .eq 17, 3) := by decide +kernel
theorem dX12_kin_14 : decode cX12_kin 14 = .ok (.iload_n 1, 1) := by decide +kernel
theorem dX12_kin_15 : decode cX12_kin 15 = .ok (.iload_n 2, 1) := by decide +kernel
theorem dX12_kin_16 : decode cX12_kin 16 = .ok (.if_icmp .eq 12, 3) := by decide +kernel
theorem dX12_kin_19 : decode cX12_kin 19 = .ok (.iload_n 3, 1) := by decide +kernel
theorem dX12_kin_20 : decode cX12_kin 20 = .ok (.iconst 0, 1) := by decide +kernel
theorem dX12_kin_21 : decode cX12_kin 21 = .ok (.iconst 1, 1) := by decide +kernel
theorem dX12_kin_22 : decode cX12_kin 22 = .ok (.invokestatic 1, 3) := by decide +kernel
theorem dX12_kin_25 : decode cX12_kin 25 = .ok (.ifCond .ne 5, 3) := by decide +kernel
theorem dX12_kin_28 : decode cX12_kin 28 = .ok (.iconst 0, 1) := by decide +kernel
theorem dX12_kin_29 : decode cX12_kin 29 = .ok (.ireturn, 1) := by decide +kernel
theorem dX12_kin_30 : decode cX12_kin 30 = .ok (.aload_n 0, 1) := by decide +kernel
theorem dX12_kin_31 : decode cX12_kin 31 = .ok (.aload_n 0, 1) := by decide +kernel
theorem dX12_kin_32 : decode cX12_kin 32 = .ok (.getfield 153, 3) := by decide +kernel
theorem dX12_kin_35 : decode cX12_kin 35 = .ok (.invokevirtual 174, 3) := by decide +kernel
theorem dX12_kin_38 : decode cX12_kin 38 = .ok (.iload_n 3, 1) := by decide +kernel
theorem dX12_kin_39 : decode cX12_kin 39 = .ok (.iconst 1, 1) := by decide +kernel
theorem dX12_kin_40 : decode cX12_kin 40 = .ok (.if_icmp .ne 18, 3) := by decide +kernel
theorem dX12_kin_43 : decode cX12_kin 43 = .ok (.aload_n 0, 1) := by decide +kernel
theorem dX12_kin_44 : decode cX12_kin 44 = .ok (.getfield 27, 3) := by decide +kernel
theorem dX12_kin_47 : decode cX12_kin 47 = .ok (.iconst 3, 1) := by decide +kernel
theorem dX12_kin_48 : decode cX12_kin 48 = .ok (.iload_n 1, 1) := by decide +kernel
theorem dX12_kin_49 : decode cX12_kin 49 = .ok (.imul, 1) := by decide +kernel
theorem dX12_kin_50 : decode cX12_kin 50 = .ok (.iload_n 2, 1) := by decide +kernel
theorem dX12_kin_51 : decode cX12_kin 51 = .ok (.iadd, 1) := by decide +kernel
theorem dX12_kin_52 : decode cX12_kin 52 = .ok (.iload 4, 2) := by decide +kernel
theorem dX12_kin_54 : decode cX12_kin 54 = .ok (.bastore, 1) := by decide +kernel
theorem dX12_kin_55 : decode cX12_kin 55 = .ok (.goto 27, 3) := by decide +kernel
theorem dX12_kin_58 : decode cX12_kin 58 = .ok (.aload_n 0, 1) := by decide +kernel
theorem dX12_kin_59 : decode cX12_kin 59 = .ok (.getfield 23, 3) := by decide +kernel
theorem dX12_kin_62 : decode cX12_kin 62 = .ok (.iconst 3, 1) := by decide +kernel
theorem dX12_kin_63 : decode cX12_kin 63 = .ok (.iload_n 1, 1) := by decide +kernel
theorem dX12_kin_64 : decode cX12_kin 64 = .ok (.imul, 1) := by decide +kernel
theorem dX12_kin_65 : decode cX12_kin 65 = .ok (.iload_n 2, 1) := by decide +kernel
theorem dX12_kin_66 : decode cX12_kin 66 = .ok (.iadd, 1) := by decide +kernel
theorem dX12_kin_67 : decode cX12_kin 67 = .ok (.iload 4, 2) := by decide +kernel
theorem dX12_kin_69 : decode cX12_kin 69 = .ok (.bastore, 1) := by decide +kernel
theorem dX12_kin_70 : decode cX12_kin 70 = .ok (.aload_n 0, 1) := by decide +kernel
theorem dX12_kin_71 : decode cX12_kin 71 = .ok (.getfield 23, 3) := by decide +kernel
theorem dX12_kin_74 : decode cX12_kin 74 = .ok (.iconst 3, 1) := by decide +kernel
theorem dX12_kin_75 : decode cX12_kin 75 = .ok (.iload_n 2, 1) := by decide +kernel
theorem dX12_kin_76 : decode cX12_kin 76 = .ok (.imul, 1) := by decide +kernel
theorem dX12_kin_77 : decode cX12_kin 77 = .ok (.iload_n 1, 1) := by decide +kernel
theorem dX12_kin_78 : decode cX12_kin 78 = .ok (.iadd, 1) := by decide +kernel
theorem dX12_kin_79 : decode cX12_kin 79 = .ok (.iload 4, 2) := by decide +kernel
theorem dX12_kin_81 : decode cX12_kin 81 = .ok (.bastore, 1) := by decide +kernel
theorem dX12_kin_82 : decode cX12_kin 82 = .ok (.aload_n 0, 1) := by decide +kernel
theorem dX12_kin_83 : decode cX12_kin 83 = .ok (.invokevirtual 178, 3) := by decide +kernel
theorem dX12_kin_86 : decode cX12_kin 86 = .ok (.ireturn, 1) := by decide +kernel
set_option maxHeartbeats 4000000 in
set_option maxRecDepth 100000 in
theorem c_X11_kin {l : Launch} {D : va_G} {cy : Nat → ClassId} {T0 tB tE : Nat} {a : Nat → Nat} {rw : Nat → Option Nat} (S : GS) (p0 : Int32) (p1 : Int32) (p2 : Int32)  (hr_p0 : (-2147483648) ≤ p0.toInt ∧ p0.toInt ≤ (-1)) : Ct l D cy T0 tB tE yX11_kin cX11_kin 6 (some .boolean) 2 41 0 0 (cw cy tE a rw S) [.ref (a 0), .int p0, .int p1, .int p2, .int 0] (QI D (U := GS) (fun r u => 0 = r ∧ S = u) (cw cy tE a rw)) := by
  refine Ct.ofZ RX11 "kin" [(0, .ref (a 0)), (1, .int p0), (2, .int p1), (3, .int p2), (4, .int 0)] rfl rfl rfl rfl (Nat.le_of_ble_eq_true rfl) ?_
  intro p e R s m args below meth c A b
  refine z_iload_n b dX11_kin_0 rfl rfl ?_
  refine z_iload_n b dX11_kin_1 rfl rfl ?_
  refine z_calli b (z_runS (As := [.int p0, .int p1]) (st := []) b (c_X11_arePair S p0 p1 ⟨by omega, by omega⟩) cf_X11_arePair wm_X11_84 ws_X11_arePair dX11_kin_2 rfl (Nat.le_of_ble_eq_true rfl) ⟨by decide, by decide, by decide, by decide⟩) (fun r1598 u1599 h1597 => ?_)
  obtain ⟨rfl, rfl⟩ := h1597
  refine z_if_eq_t (tgt := 16) b dX11_kin_5 (by decide) (by decide) ?_
  refine z_iconst (v := 0) b dX11_kin_16 (by decide) ?_
  exact z_zret (u := S) b rfl (by decide) dX11_kin_17 ⟨rfl, rfl⟩ rfl (by decide) (by decide)

set_option maxHeartbeats 4000000 in
set_option maxRecDepth 100000 in
theorem c_X12_kin {l : Launch} {D : va_G} {cy : Nat → ClassId} {T0 tB tE : Nat} {a : Nat → Nat} (S : GS) (p0 : Int32) (p1 : Int32) (p2 : Int32)  (hr_p0 : (-2147483648) ≤ p0.toInt ∧ p0.toInt ≤ (-1)) : Ct l D cy T0 tB tE yX12_kin cX12_kin 5 (some .boolean) 2 42 0 0 (mw cy a S) [.ref (a 0), .int p0, .int p1, .int p2, .int 0] (QI D (U := GS) (fun r u => 0 = r ∧ S = u) (mw cy a)) := by
  refine Ct.ofZ RX12 "kin" [(0, .ref (a 0)), (1, .int p0), (2, .int p1), (3, .int p2), (4, .int 0)] rfl rfl rfl rfl (Nat.le_of_ble_eq_true rfl) ?_
  intro p e R s m args below meth c A b
  refine z_iload_n b dX12_kin_0 rfl rfl ?_
  refine z_calli b (z_runS (As := [.int p0]) (st := []) b (c_X12_isOne S p0 ⟨by omega, by omega⟩) cf_X12_isOne wm_X12_170 ws_X12_isOne dX12_kin_1 rfl (Nat.le_of_ble_eq_true rfl) ⟨by decide, by decide, by decide, by decide⟩) (fun r1601 u1602 h1600 => ?_)
  obtain ⟨rfl, rfl⟩ := h1600
  refine z_if_eq_t (tgt := 28) b dX12_kin_4 (by decide) (by decide) ?_
  refine z_iconst (v := 0) b dX12_kin_28 (by decide) ?_
  exact z_zret (u := S) b rfl (by decide) dX12_kin_29 ⟨rfl, rfl⟩ rfl (by decide) (by decide)

set_option maxHeartbeats 4000000 in
set_option maxRecDepth 100000 in
theorem c_X11_kin_2 {l : Launch} {D : va_G} {cy : Nat → ClassId} {T0 tB tE : Nat} {a : Nat → Nat} {rw : Nat → Option Nat} (S : GS) (p0 : Int32) (p1 : Int32) (p2 : Int32)  (hr_p0 : (-2147483648) ≤ p0.toInt ∧ p0.toInt ≤ (-1)) : Ct l D cy T0 tB tE yX11_kin cX11_kin 6 (some .boolean) 2 41 0 0 (cw cy tE a rw S) [.ref (a 0), .int p0, .int p1, .int p2, .int 1] (QI D (U := GS) (fun r u => 0 = r ∧ S = u) (cw cy tE a rw)) := by
  refine Ct.ofZ RX11 "kin" [(0, .ref (a 0)), (1, .int p0), (2, .int p1), (3, .int p2), (4, .int 1)] rfl rfl rfl rfl (Nat.le_of_ble_eq_true rfl) ?_
  intro p e R s m args below meth c A b
  refine z_iload_n b dX11_kin_0 rfl rfl ?_
  refine z_iload_n b dX11_kin_1 rfl rfl ?_
  refine z_calli b (z_runS (As := [.int p0, .int p1]) (st := []) b (c_X11_arePair S p0 p1 ⟨by omega, by omega⟩) cf_X11_arePair wm_X11_84 ws_X11_arePair dX11_kin_2 rfl (Nat.le_of_ble_eq_true rfl) ⟨by decide, by decide, by decide, by decide⟩) (fun r1604 u1605 h1603 => ?_)
  obtain ⟨rfl, rfl⟩ := h1603
  refine z_if_eq_t (tgt := 16) b dX11_kin_5 (by decide) (by decide) ?_
  refine z_iconst (v := 0) b dX11_kin_16 (by decide) ?_
  exact z_zret (u := S) b rfl (by decide) dX11_kin_17 ⟨rfl, rfl⟩ rfl (by decide) (by decide)

set_option maxHeartbeats 4000000 in
set_option maxRecDepth 100000 in
theorem c_X12_kin_2 {l : Launch} {D : va_G} {cy : Nat → ClassId} {T0 tB tE : Nat} {a : Nat → Nat} (S : GS) (p0 : Int32) (p1 : Int32) (p2 : Int32)  (hr_p0 : (-2147483648) ≤ p0.toInt ∧ p0.toInt ≤ (-1)) : Ct l D cy T0 tB tE yX12_kin cX12_kin 5 (some .boolean) 2 42 0 0 (mw cy a S) [.ref (a 0), .int p0, .int p1, .int p2, .int 1] (QI D (U := GS) (fun r u => 0 = r ∧ S = u) (mw cy a)) := by
  refine Ct.ofZ RX12 "kin" [(0, .ref (a 0)), (1, .int p0), (2, .int p1), (3, .int p2), (4, .int 1)] rfl rfl rfl rfl (Nat.le_of_ble_eq_true rfl) ?_
  intro p e R s m args below meth c A b
  refine z_iload_n b dX12_kin_0 rfl rfl ?_
  refine z_calli b (z_runS (As := [.int p0]) (st := []) b (c_X12_isOne S p0 ⟨by omega, by omega⟩) cf_X12_isOne wm_X12_170 ws_X12_isOne dX12_kin_1 rfl (Nat.le_of_ble_eq_true rfl) ⟨by decide, by decide, by decide, by decide⟩) (fun r1607 u1608 h1606 => ?_)
  obtain ⟨rfl, rfl⟩ := h1606
  refine z_if_eq_t (tgt := 28) b dX12_kin_4 (by decide) (by decide) ?_
  refine z_iconst (v := 0) b dX12_kin_28 (by decide) ?_
  exact z_zret (u := S) b rfl (by decide) dX12_kin_29 ⟨rfl, rfl⟩ rfl (by decide) (by decide)

set_option maxHeartbeats 4000000 in
set_option maxRecDepth 100000 in
theorem c_X11_kin_3 {l : Launch} {D : va_G} {cy : Nat → ClassId} {T0 tB tE : Nat} {a : Nat → Nat} {rw : Nat → Option Nat} (S : GS) (p0 : Int32) (p1 : Int32) (p2 : Int32)  (hr_p0 : 3 ≤ p0.toInt ∧ p0.toInt ≤ 2147483647) : Ct l D cy T0 tB tE yX11_kin cX11_kin 6 (some .boolean) 2 41 0 0 (cw cy tE a rw S) [.ref (a 0), .int p0, .int p1, .int p2, .int 0] (QI D (U := GS) (fun r u => 0 = r ∧ S = u) (cw cy tE a rw)) := by
  refine Ct.ofZ RX11 "kin" [(0, .ref (a 0)), (1, .int p0), (2, .int p1), (3, .int p2), (4, .int 0)] rfl rfl rfl rfl (Nat.le_of_ble_eq_true rfl) ?_
  intro p e R s m args below meth c A b
  refine z_iload_n b dX11_kin_0 rfl rfl ?_
  refine z_iload_n b dX11_kin_1 rfl rfl ?_
  refine z_calli b (z_runS (As := [.int p0, .int p1]) (st := []) b (c_X11_arePair_2 S p0 p1 ⟨by omega, by omega⟩) cf_X11_arePair wm_X11_84 ws_X11_arePair dX11_kin_2 rfl (Nat.le_of_ble_eq_true rfl) ⟨by decide, by decide, by decide, by decide⟩) (fun r1610 u1611 h1609 => ?_)
  obtain ⟨rfl, rfl⟩ := h1609
  refine z_if_eq_t (tgt := 16) b dX11_kin_5 (by decide) (by decide) ?_
  refine z_iconst (v := 0) b dX11_kin_16 (by decide) ?_
  exact z_zret (u := S) b rfl (by decide) dX11_kin_17 ⟨rfl, rfl⟩ rfl (by decide) (by decide)

set_option maxHeartbeats 4000000 in
set_option maxRecDepth 100000 in
theorem c_X12_kin_3 {l : Launch} {D : va_G} {cy : Nat → ClassId} {T0 tB tE : Nat} {a : Nat → Nat} (S : GS) (p0 : Int32) (p1 : Int32) (p2 : Int32)  (hr_p0 : 3 ≤ p0.toInt ∧ p0.toInt ≤ 2147483647) : Ct l D cy T0 tB tE yX12_kin cX12_kin 5 (some .boolean) 2 42 0 0 (mw cy a S) [.ref (a 0), .int p0, .int p1, .int p2, .int 0] (QI D (U := GS) (fun r u => 0 = r ∧ S = u) (mw cy a)) := by
  refine Ct.ofZ RX12 "kin" [(0, .ref (a 0)), (1, .int p0), (2, .int p1), (3, .int p2), (4, .int 0)] rfl rfl rfl rfl (Nat.le_of_ble_eq_true rfl) ?_
  intro p e R s m args below meth c A b
  refine z_iload_n b dX12_kin_0 rfl rfl ?_
  refine z_calli b (z_runS (As := [.int p0]) (st := []) b (c_X12_isOne_2 S p0 ⟨by omega, by omega⟩) cf_X12_isOne wm_X12_170 ws_X12_isOne dX12_kin_1 rfl (Nat.le_of_ble_eq_true rfl) ⟨by decide, by decide, by decide, by decide⟩) (fun r1613 u1614 h1612 => ?_)
  obtain ⟨rfl, rfl⟩ := h1612
  refine z_if_eq_t (tgt := 28) b dX12_kin_4 (by decide) (by decide) ?_
  refine z_iconst (v := 0) b dX12_kin_28 (by decide) ?_
  exact z_zret (u := S) b rfl (by decide) dX12_kin_29 ⟨rfl, rfl⟩ rfl (by decide) (by decide)

set_option maxHeartbeats 4000000 in
set_option maxRecDepth 100000 in
theorem c_X11_kin_4 {l : Launch} {D : va_G} {cy : Nat → ClassId} {T0 tB tE : Nat} {a : Nat → Nat} {rw : Nat → Option Nat} (S : GS) (p0 : Int32) (p1 : Int32) (p2 : Int32)  (hr_p0 : 3 ≤ p0.toInt ∧ p0.toInt ≤ 2147483647) : Ct l D cy T0 tB tE yX11_kin cX11_kin 6 (some .boolean) 2 41 0 0 (cw cy tE a rw S) [.ref (a 0), .int p0, .int p1, .int p2, .int 1] (QI D (U := GS) (fun r u => 0 = r ∧ S = u) (cw cy tE a rw)) := by
  refine Ct.ofZ RX11 "kin" [(0, .ref (a 0)), (1, .int p0), (2, .int p1), (3, .int p2), (4, .int 1)] rfl rfl rfl rfl (Nat.le_of_ble_eq_true rfl) ?_
  intro p e R s m args below meth c A b
  refine z_iload_n b dX11_kin_0 rfl rfl ?_
  refine z_iload_n b dX11_kin_1 rfl rfl ?_
  refine z_calli b (z_runS (As := [.int p0, .int p1]) (st := []) b (c_X11_arePair_2 S p0 p1 ⟨by omega, by omega⟩) cf_X11_arePair wm_X11_84 ws_X11_arePair dX11_kin_2 rfl (Nat.le_of_ble_eq_true rfl) ⟨by decide, by decide, by decide, by decide⟩) (fun r1616 u1617 h1615 => ?_)
  obtain ⟨rfl, rfl⟩ := h1615
  refine z_if_eq_t (tgt := 16) b dX11_kin_5 (by decide) (by decide) ?_
  refine z_iconst (v := 0) b dX11_kin_16 (by decide) ?_
  exact z_zret (u := S) b rfl (by decide) dX11_kin_17 ⟨rfl, rfl⟩ rfl (by decide) (by decide)

set_option maxHeartbeats 4000000 in
set_option maxRecDepth 100000 in
theorem c_X12_kin_4 {l : Launch} {D : va_G} {cy : Nat → ClassId} {T0 tB tE : Nat} {a : Nat → Nat} (S : GS) (p0 : Int32) (p1 : Int32) (p2 : Int32)  (hr_p0 : 3 ≤ p0.toInt ∧ p0.toInt ≤ 2147483647) : Ct l D cy T0 tB tE yX12_kin cX12_kin 5 (some .boolean) 2 42 0 0 (mw cy a S) [.ref (a 0), .int p0, .int p1, .int p2, .int 1] (QI D (U := GS) (fun r u => 0 = r ∧ S = u) (mw cy a)) := by
  refine Ct.ofZ RX12 "kin" [(0, .ref (a 0)), (1, .int p0), (2, .int p1), (3, .int p2), (4, .int 1)] rfl rfl rfl rfl (Nat.le_of_ble_eq_true rfl) ?_
  intro p e R s m args below meth c A b
  refine z_iload_n b dX12_kin_0 rfl rfl ?_
  refine z_calli b (z_runS (As := [.int p0]) (st := []) b (c_X12_isOne_2 S p0 ⟨by omega, by omega⟩) cf_X12_isOne wm_X12_170 ws_X12_isOne dX12_kin_1 rfl (Nat.le_of_ble_eq_true rfl) ⟨by decide, by decide, by decide, by decide⟩) (fun r1619 u1620 h1618 => ?_)
  obtain ⟨rfl, rfl⟩ := h1618
  refine z_if_eq_t (tgt := 28) b dX12_kin_4 (by decide) (by decide) ?_
  refine z_iconst (v := 0) b dX12_kin_28 (by decide) ?_
  exact z_zret (u := S) b rfl (by decide) dX12_kin_29 ⟨rfl, rfl⟩ rfl (by decide) (by decide)

set_option maxHeartbeats 4000000 in
set_option maxRecDepth 100000 in
theorem c_X11_kin_5 {l : Launch} {D : va_G} {cy : Nat → ClassId} {T0 tB tE : Nat} {a : Nat → Nat} {rw : Nat → Option Nat} (S : GS) (p0 : Int32) (p1 : Int32)  (hr_p0 : (-2147483648) ≤ p0.toInt ∧ p0.toInt ≤ (-1)) : Ct l D cy T0 tB tE yX11_kin cX11_kin 6 (some .boolean) 2 41 0 0 (cw cy tE a rw S) [.ref (a 0), .int 0, .int p0, .int p1, .int 0] (QI D (U := GS) (fun r u => 0 = r ∧ S = u) (cw cy tE a rw)) := by
  refine Ct.ofZ RX11 "kin" [(0, .ref (a 0)), (1, .int 0), (2, .int p0), (3, .int p1), (4, .int 0)] rfl rfl rfl rfl (Nat.le_of_ble_eq_true rfl) ?_
  intro p e R s m args below meth c A b
  refine z_iload_n b dX11_kin_0 rfl rfl ?_
  refine z_iload_n b dX11_kin_1 rfl rfl ?_
  refine z_calli b (z_runS (As := [.int 0, .int p0]) (st := []) b (c_X11_arePair_3 S p0 ⟨by omega, by omega⟩) cf_X11_arePair wm_X11_84 ws_X11_arePair dX11_kin_2 rfl (Nat.le_of_ble_eq_true rfl) ⟨by decide, by decide, by decide, by decide⟩) (fun r1622 u1623 h1621 => ?_)
  obtain ⟨rfl, rfl⟩ := h1621
  refine z_if_eq_t (tgt := 16) b dX11_kin_5 (by decide) (by decide) ?_
  refine z_iconst (v := 0) b dX11_kin_16 (by decide) ?_
  exact z_zret (u := S) b rfl (by decide) dX11_kin_17 ⟨rfl, rfl⟩ rfl (by decide) (by decide)

set_option maxHeartbeats 4000000 in
set_option maxRecDepth 100000 in
theorem c_X12_kin_5 {l : Launch} {D : va_G} {cy : Nat → ClassId} {T0 tB tE : Nat} {a : Nat → Nat} (S : GS) (p0 : Int32) (p1 : Int32)  (hr_p0 : (-2147483648) ≤ p0.toInt ∧ p0.toInt ≤ (-1)) : Ct l D cy T0 tB tE yX12_kin cX12_kin 5 (some .boolean) 2 42 0 0 (mw cy a S) [.ref (a 0), .int 0, .int p0, .int p1, .int 0] (QI D (U := GS) (fun r u => 0 = r ∧ S = u) (mw cy a)) := by
  refine Ct.ofZ RX12 "kin" [(0, .ref (a 0)), (1, .int 0), (2, .int p0), (3, .int p1), (4, .int 0)] rfl rfl rfl rfl (Nat.le_of_ble_eq_true rfl) ?_
  intro p e R s m args below meth c A b
  refine z_iload_n b dX12_kin_0 rfl rfl ?_
  refine z_calli b (z_runS (As := [.int 0]) (st := []) b (c_X12_isOne_3 S ) cf_X12_isOne wm_X12_170 ws_X12_isOne dX12_kin_1 rfl (Nat.le_of_ble_eq_true rfl) ⟨by decide, by decide, by decide, by decide⟩) (fun r1625 u1626 h1624 => ?_)
  obtain ⟨rfl, rfl⟩ := h1624
  refine z_if_eq_f (tgt := 28) b dX12_kin_4 (by decide) (by decide) ?_
  refine z_iload_n b dX12_kin_7 rfl rfl ?_
  refine z_calli b (z_runS (As := [.int p0]) (st := []) b (c_X12_isOne S p0 ⟨by omega, by omega⟩) cf_X12_isOne wm_X12_170 ws_X12_isOne dX12_kin_8 rfl (Nat.le_of_ble_eq_true rfl) ⟨by decide, by decide, by decide, by decide⟩) (fun r1628 u1629 h1627 => ?_)
  obtain ⟨rfl, rfl⟩ := h1627
  refine z_if_eq_t (tgt := 28) b dX12_kin_11 (by decide) (by decide) ?_
  refine z_iconst (v := 0) b dX12_kin_28 (by decide) ?_
  exact z_zret (u := S) b rfl (by decide) dX12_kin_29 ⟨rfl, rfl⟩ rfl (by decide) (by decide)

set_option maxHeartbeats 4000000 in
set_option maxRecDepth 100000 in
theorem c_X11_kin_6 {l : Launch} {D : va_G} {cy : Nat → ClassId} {T0 tB tE : Nat} {a : Nat → Nat} {rw : Nat → Option Nat} (S : GS) (p0 : Int32) (p1 : Int32)  (hr_p0 : (-2147483648) ≤ p0.toInt ∧ p0.toInt ≤ (-1)) : Ct l D cy T0 tB tE yX11_kin cX11_kin 6 (some .boolean) 2 41 0 0 (cw cy tE a rw S) [.ref (a 0), .int 0, .int p0, .int p1, .int 1] (QI D (U := GS) (fun r u => 0 = r ∧ S = u) (cw cy tE a rw)) := by
  refine Ct.ofZ RX11 "kin" [(0, .ref (a 0)), (1, .int 0), (2, .int p0), (3, .int p1), (4, .int 1)] rfl rfl rfl rfl (Nat.le_of_ble_eq_true rfl) ?_
  intro p e R s m args below meth c A b
  refine z_iload_n b dX11_kin_0 rfl rfl ?_
  refine z_iload_n b dX11_kin_1 rfl rfl ?_
  refine z_calli b (z_runS (As := [.int 0, .int p0]) (st := []) b (c_X11_arePair_3 S p0 ⟨by omega, by omega⟩) cf_X11_arePair wm_X11_84 ws_X11_arePair dX11_kin_2 rfl (Nat.le_of_ble_eq_true rfl) ⟨by decide, by decide, by decide, by decide⟩) (fun r1631 u1632 h1630 => ?_)
  obtain ⟨rfl, rfl⟩ := h1630
  refine z_if_eq_t (tgt := 16) b dX11_kin_5 (by decide) (by decide) ?_
  refine z_iconst (v := 0) b dX11_kin_16 (by decide) ?_
  exact z_zret (u := S) b rfl (by decide) dX11_kin_17 ⟨rfl, rfl⟩ rfl (by decide) (by decide)

set_option maxHeartbeats 4000000 in
set_option maxRecDepth 100000 in
theorem c_X12_kin_6 {l : Launch} {D : va_G} {cy : Nat → ClassId} {T0 tB tE : Nat} {a : Nat → Nat} (S : GS) (p0 : Int32) (p1 : Int32)  (hr_p0 : (-2147483648) ≤ p0.toInt ∧ p0.toInt ≤ (-1)) : Ct l D cy T0 tB tE yX12_kin cX12_kin 5 (some .boolean) 2 42 0 0 (mw cy a S) [.ref (a 0), .int 0, .int p0, .int p1, .int 1] (QI D (U := GS) (fun r u => 0 = r ∧ S = u) (mw cy a)) := by
  refine Ct.ofZ RX12 "kin" [(0, .ref (a 0)), (1, .int 0), (2, .int p0), (3, .int p1), (4, .int 1)] rfl rfl rfl rfl (Nat.le_of_ble_eq_true rfl) ?_
  intro p e R s m args below meth c A b
  refine z_iload_n b dX12_kin_0 rfl rfl ?_
  refine z_calli b (z_runS (As := [.int 0]) (st := []) b (c_X12_isOne_3 S ) cf_X12_isOne wm_X12_170 ws_X12_isOne dX12_kin_1 rfl (Nat.le_of_ble_eq_true rfl) ⟨by decide, by decide, by decide, by decide⟩) (fun r1634 u1635 h1633 => ?_)
  obtain ⟨rfl, rfl⟩ := h1633
  refine z_if_eq_f (tgt := 28) b dX12_kin_4 (by decide) (by decide) ?_
  refine z_iload_n b dX12_kin_7 rfl rfl ?_
  refine z_calli b (z_runS (As := [.int p0]) (st := []) b (c_X12_isOne S p0 ⟨by omega, by omega⟩) cf_X12_isOne wm_X12_170 ws_X12_isOne dX12_kin_8 rfl (Nat.le_of_ble_eq_true rfl) ⟨by decide, by decide, by decide, by decide⟩) (fun r1637 u1638 h1636 => ?_)
  obtain ⟨rfl, rfl⟩ := h1636
  refine z_if_eq_t (tgt := 28) b dX12_kin_11 (by decide) (by decide) ?_
  refine z_iconst (v := 0) b dX12_kin_28 (by decide) ?_
  exact z_zret (u := S) b rfl (by decide) dX12_kin_29 ⟨rfl, rfl⟩ rfl (by decide) (by decide)

set_option maxHeartbeats 4000000 in
set_option maxRecDepth 100000 in
theorem c_X11_kin_7 {l : Launch} {D : va_G} {cy : Nat → ClassId} {T0 tB tE : Nat} {a : Nat → Nat} {rw : Nat → Option Nat} (S : GS) (p0 : Int32) (p1 : Int32)  (hr_p0 : 3 ≤ p0.toInt ∧ p0.toInt ≤ 2147483647) : Ct l D cy T0 tB tE yX11_kin cX11_kin 6 (some .boolean) 2 41 0 0 (cw cy tE a rw S) [.ref (a 0), .int 0, .int p0, .int p1, .int 0] (QI D (U := GS) (fun r u => 0 = r ∧ S = u) (cw cy tE a rw)) := by
  refine Ct.ofZ RX11 "kin" [(0, .ref (a 0)), (1, .int 0), (2, .int p0), (3, .int p1), (4, .int 0)] rfl rfl rfl rfl (Nat.le_of_ble_eq_true rfl) ?_
  intro p e R s m args below meth c A b
  refine z_iload_n b dX11_kin_0 rfl rfl ?_
  refine z_iload_n b dX11_kin_1 rfl rfl ?_
  refine z_calli b (z_runS (As := [.int 0, .int p0]) (st := []) b (c_X11_arePair_4 S p0 ⟨by omega, by omega⟩) cf_X11_arePair wm_X11_84 ws_X11_arePair dX11_kin_2 rfl (Nat.le_of_ble_eq_true rfl) ⟨by decide, by decide, by decide, by decide⟩) (fun r1640 u1641 h1639 => ?_)
  obtain ⟨rfl, rfl⟩ := h1639
  refine z_if_eq_t (tgt := 16) b dX11_kin_5 (by decide) (by decide) ?_
  refine z_iconst (v := 0) b dX11_kin_16 (by decide) ?_
  exact z_zret (u := S) b rfl (by decide) dX11_kin_17 ⟨rfl, rfl⟩ rfl (by decide) (by decide)

set_option maxHeartbeats 4000000 in
set_option maxRecDepth 100000 in
theorem c_X12_kin_7 {l : Launch} {D : va_G} {cy : Nat → ClassId} {T0 tB tE : Nat} {a : Nat → Nat} (S : GS) (p0 : Int32) (p1 : Int32)  (hr_p0 : 3 ≤ p0.toInt ∧ p0.toInt ≤ 2147483647) : Ct l D cy T0 tB tE yX12_kin cX12_kin 5 (some .boolean) 2 42 0 0 (mw cy a S) [.ref (a 0), .int 0, .int p0, .int p1, .int 0] (QI D (U := GS) (fun r u => 0 = r ∧ S = u) (mw cy a)) := by
  refine Ct.ofZ RX12 "kin" [(0, .ref (a 0)), (1, .int 0), (2, .int p0), (3, .int p1), (4, .int 0)] rfl rfl rfl rfl (Nat.le_of_ble_eq_true rfl) ?_
  intro p e R s m args below meth c A b
  refine z_iload_n b dX12_kin_0 rfl rfl ?_
  refine z_calli b (z_runS (As := [.int 0]) (st := []) b (c_X12_isOne_3 S ) cf_X12_isOne wm_X12_170 ws_X12_isOne dX12_kin_1 rfl (Nat.le_of_ble_eq_true rfl) ⟨by decide, by decide, by decide, by decide⟩) (fun r1643 u1644 h1642 => ?_)
  obtain ⟨rfl, rfl⟩ := h1642
  refine z_if_eq_f (tgt := 28) b dX12_kin_4 (by decide) (by decide) ?_
  refine z_iload_n b dX12_kin_7 rfl rfl ?_
  refine z_calli b (z_runS (As := [.int p0]) (st := []) b (c_X12_isOne_2 S p0 ⟨by omega, by omega⟩) cf_X12_isOne wm_X12_170 ws_X12_isOne dX12_kin_8 rfl (Nat.le_of_ble_eq_true rfl) ⟨by decide, by decide, by decide, by decide⟩) (fun r1646 u1647 h1645 => ?_)
  obtain ⟨rfl, rfl⟩ := h1645
  refine z_if_eq_t (tgt := 28) b dX12_kin_11 (by decide) (by decide) ?_
  refine z_iconst (v := 0) b dX12_kin_28 (by decide) ?_
  exact z_zret (u := S) b rfl (by decide) dX12_kin_29 ⟨rfl, rfl⟩ rfl (by decide) (by decide)

set_option maxHeartbeats 4000000 in
set_option maxRecDepth 100000 in
theorem c_X11_kin_8 {l : Launch} {D : va_G} {cy : Nat → ClassId} {T0 tB tE : Nat} {a : Nat → Nat} {rw : Nat → Option Nat} (S : GS) (p0 : Int32) (p1 : Int32)  (hr_p0 : 3 ≤ p0.toInt ∧ p0.toInt ≤ 2147483647) : Ct l D cy T0 tB tE yX11_kin cX11_kin 6 (some .boolean) 2 41 0 0 (cw cy tE a rw S) [.ref (a 0), .int 0, .int p0, .int p1, .int 1] (QI D (U := GS) (fun r u => 0 = r ∧ S = u) (cw cy tE a rw)) := by
  refine Ct.ofZ RX11 "kin" [(0, .ref (a 0)), (1, .int 0), (2, .int p0), (3, .int p1), (4, .int 1)] rfl rfl rfl rfl (Nat.le_of_ble_eq_true rfl) ?_
  intro p e R s m args below meth c A b
  refine z_iload_n b dX11_kin_0 rfl rfl ?_
  refine z_iload_n b dX11_kin_1 rfl rfl ?_
  refine z_calli b (z_runS (As := [.int 0, .int p0]) (st := []) b (c_X11_arePair_4 S p0 ⟨by omega, by omega⟩) cf_X11_arePair wm_X11_84 ws_X11_arePair dX11_kin_2 rfl (Nat.le_of_ble_eq_true rfl) ⟨by decide, by decide, by decide, by decide⟩) (fun r1649 u1650 h1648 => ?_)
  obtain ⟨rfl, rfl⟩ := h1648
  refine z_if_eq_t (tgt := 16) b dX11_kin_5 (by decide) (by decide) ?_
  refine z_iconst (v := 0) b dX11_kin_16 (by decide) ?_
  exact z_zret (u := S) b rfl (by decide) dX11_kin_17 ⟨rfl, rfl⟩ rfl (by decide) (by decide)

set_option maxHeartbeats 4000000 in
set_option maxRecDepth 100000 in
theorem c_X12_kin_8 {l : Launch} {D : va_G} {cy : Nat → ClassId} {T0 tB tE : Nat} {a : Nat → Nat} (S : GS) (p0 : Int32) (p1 : Int32)  (hr_p0 : 3 ≤ p0.toInt ∧ p0.toInt ≤ 2147483647) : Ct l D cy T0 tB tE yX12_kin cX12_kin 5 (some .boolean) 2 42 0 0 (mw cy a S) [.ref (a 0), .int 0, .int p0, .int p1, .int 1] (QI D (U := GS) (fun r u => 0 = r ∧ S = u) (mw cy a)) := by
  refine Ct.ofZ RX12 "kin" [(0, .ref (a 0)), (1, .int 0), (2, .int p0), (3, .int p1), (4, .int 1)] rfl rfl rfl rfl (Nat.le_of_ble_eq_true rfl) ?_
  intro p e R s m args below meth c A b
  refine z_iload_n b dX12_kin_0 rfl rfl ?_
  refine z_calli b (z_runS (As := [.int 0]) (st := []) b (c_X12_isOne_3 S ) cf_X12_isOne wm_X12_170 ws_X12_isOne dX12_kin_1 rfl (Nat.le_of_ble_eq_true rfl) ⟨by decide, by decide, by decide, by decide⟩) (fun r1652 u1653 h1651 => ?_)
  obtain ⟨rfl, rfl⟩ := h1651
  refine z_if_eq_f (tgt := 28) b dX12_kin_4 (by decide) (by decide) ?_
  refine z_iload_n b dX12_kin_7 rfl rfl ?_
  refine z_calli b (z_runS (As := [.int p0]) (st := []) b (c_X12_isOne_2 S p0 ⟨by omega, by omega⟩) cf_X12_isOne wm_X12_170 ws_X12_isOne dX12_kin_8 rfl (Nat.le_of_ble_eq_true rfl) ⟨by decide, by decide, by decide, by decide⟩) (fun r1655 u1656 h1654 => ?_)
  obtain ⟨rfl, rfl⟩ := h1654
  refine z_if_eq_t (tgt := 28) b dX12_kin_11 (by decide) (by decide) ?_
  refine z_iconst (v := 0) b dX12_kin_28 (by decide) ?_
  exact z_zret (u := S) b rfl (by decide) dX12_kin_29 ⟨rfl, rfl⟩ rfl (by decide) (by decide)

set_option maxHeartbeats 4000000 in
set_option maxRecDepth 100000 in
theorem c_X11_kin_9 {l : Launch} {D : va_G} {cy : Nat → ClassId} {T0 tB tE : Nat} {a : Nat → Nat} {rw : Nat → Option Nat} (S : GS) (p0 : Int32)  : Ct l D cy T0 tB tE yX11_kin cX11_kin 6 (some .boolean) 2 41 0 0 (cw cy tE a rw S) [.ref (a 0), .int 0, .int 0, .int p0, .int 0] (QI D (U := GS) (fun r u => 0 = r ∧ S = u) (cw cy tE a rw)) := by
  refine Ct.ofZ RX11 "kin" [(0, .ref (a 0)), (1, .int 0), (2, .int 0), (3, .int p0), (4, .int 0)] rfl rfl rfl rfl (Nat.le_of_ble_eq_true rfl) ?_
  intro p e R s m args below meth c A b
  refine z_iload_n b dX11_kin_0 rfl rfl ?_
  refine z_iload_n b dX11_kin_1 rfl rfl ?_
  refine z_calli b (z_runS (As := [.int 0, .int 0]) (st := []) b (c_X11_arePair_9 S ) cf_X11_arePair wm_X11_84 ws_X11_arePair dX11_kin_2 rfl (Nat.le_of_ble_eq_true rfl) ⟨by decide, by decide, by decide, by decide⟩) (fun r1658 u1659 h1657 => ?_)
  obtain ⟨rfl, rfl⟩ := h1657
  refine z_if_eq_t (tgt := 16) b dX11_kin_5 (by decide) (by decide) ?_
  refine z_iconst (v := 0) b dX11_kin_16 (by decide) ?_
  exact z_zret (u := S) b rfl (by decide) dX11_kin_17 ⟨rfl, rfl⟩ rfl (by decide) (by decide)

set_option maxHeartbeats 4000000 in
set_option maxRecDepth 100000 in
theorem c_X12_kin_9 {l : Launch} {D : va_G} {cy : Nat → ClassId} {T0 tB tE : Nat} {a : Nat → Nat} (S : GS) (p0 : Int32)  : Ct l D cy T0 tB tE yX12_kin cX12_kin 5 (some .boolean) 2 42 0 0 (mw cy a S) [.ref (a 0), .int 0, .int 0, .int p0, .int 0] (QI D (U := GS) (fun r u => 0 = r ∧ S = u) (mw cy a)) := by
  refine Ct.ofZ RX12 "kin" [(0, .ref (a 0)), (1, .int 0), (2, .int 0), (3, .int p0), (4, .int 0)] rfl rfl rfl rfl (Nat.le_of_ble_eq_true rfl) ?_
  intro p e R s m args below meth c A b
  refine z_iload_n b dX12_kin_0 rfl rfl ?_
  refine z_calli b (z_runS (As := [.int 0]) (st := []) b (c_X12_isOne_3 S ) cf_X12_isOne wm_X12_170 ws_X12_isOne dX12_kin_1 rfl (Nat.le_of_ble_eq_true rfl) ⟨by decide, by decide, by decide, by decide⟩) (fun r1661 u1662 h1660 => ?_)
  obtain ⟨rfl, rfl⟩ := h1660
  refine z_if_eq_f (tgt := 28) b dX12_kin_4 (by decide) (by decide) ?_
  refine z_iload_n b dX12_kin_7 rfl rfl ?_
  refine z_calli b (z_runS (As := [.int 0]) (st := []) b (c_X12_isOne_3 S ) cf_X12_isOne wm_X12_170 ws_X12_isOne dX12_kin_8 rfl (Nat.le_of_ble_eq_true rfl) ⟨by decide, by decide, by decide, by decide⟩) (fun r1664 u1665 h1663 => ?_)
  obtain ⟨rfl, rfl⟩ := h1663
  refine z_if_eq_f (tgt := 28) b dX12_kin_11 (by decide) (by decide) ?_
  refine z_iload_n b dX12_kin_14 rfl rfl ?_
  refine z_iload_n b dX12_kin_15 rfl rfl ?_
  refine z_icmp_eq_t (tgt := 28) b dX12_kin_16 (by decide) (by decide) ?_
  refine z_iconst (v := 0) b dX12_kin_28 (by decide) ?_
  exact z_zret (u := S) b rfl (by decide) dX12_kin_29 ⟨rfl, rfl⟩ rfl (by decide) (by decide)

set_option maxHeartbeats 4000000 in
set_option maxRecDepth 100000 in
theorem c_X11_kin_10 {l : Launch} {D : va_G} {cy : Nat → ClassId} {T0 tB tE : Nat} {a : Nat → Nat} {rw : Nat → Option Nat} (S : GS) (p0 : Int32)  : Ct l D cy T0 tB tE yX11_kin cX11_kin 6 (some .boolean) 2 41 0 0 (cw cy tE a rw S) [.ref (a 0), .int 0, .int 0, .int p0, .int 1] (QI D (U := GS) (fun r u => 0 = r ∧ S = u) (cw cy tE a rw)) := by
  refine Ct.ofZ RX11 "kin" [(0, .ref (a 0)), (1, .int 0), (2, .int 0), (3, .int p0), (4, .int 1)] rfl rfl rfl rfl (Nat.le_of_ble_eq_true rfl) ?_
  intro p e R s m args below meth c A b
  refine z_iload_n b dX11_kin_0 rfl rfl ?_
  refine z_iload_n b dX11_kin_1 rfl rfl ?_
  refine z_calli b (z_runS (As := [.int 0, .int 0]) (st := []) b (c_X11_arePair_9 S ) cf_X11_arePair wm_X11_84 ws_X11_arePair dX11_kin_2 rfl (Nat.le_of_ble_eq_true rfl) ⟨by decide, by decide, by decide, by decide⟩) (fun r1667 u1668 h1666 => ?_)
  obtain ⟨rfl, rfl⟩ := h1666
  refine z_if_eq_t (tgt := 16) b dX11_kin_5 (by decide) (by decide) ?_
  refine z_iconst (v := 0) b dX11_kin_16 (by decide) ?_
  exact z_zret (u := S) b rfl (by decide) dX11_kin_17 ⟨rfl, rfl⟩ rfl (by decide) (by decide)

set_option maxHeartbeats 4000000 in
set_option maxRecDepth 100000 in
theorem c_X12_kin_10 {l : Launch} {D : va_G} {cy : Nat → ClassId} {T0 tB tE : Nat} {a : Nat → Nat} (S : GS) (p0 : Int32)  : Ct l D cy T0 tB tE yX12_kin cX12_kin 5 (some .boolean) 2 42 0 0 (mw cy a S) [.ref (a 0), .int 0, .int 0, .int p0, .int 1] (QI D (U := GS) (fun r u => 0 = r ∧ S = u) (mw cy a)) := by
  refine Ct.ofZ RX12 "kin" [(0, .ref (a 0)), (1, .int 0), (2, .int 0), (3, .int p0), (4, .int 1)] rfl rfl rfl rfl (Nat.le_of_ble_eq_true rfl) ?_
  intro p e R s m args below meth c A b
  refine z_iload_n b dX12_kin_0 rfl rfl ?_
  refine z_calli b (z_runS (As := [.int 0]) (st := []) b (c_X12_isOne_3 S ) cf_X12_isOne wm_X12_170 ws_X12_isOne dX12_kin_1 rfl (Nat.le_of_ble_eq_true rfl) ⟨by decide, by decide, by decide, by decide⟩) (fun r1670 u1671 h1669 => ?_)
  obtain ⟨rfl, rfl⟩ := h1669
  refine z_if_eq_f (tgt := 28) b dX12_kin_4 (by decide) (by decide) ?_
  refine z_iload_n b dX12_kin_7 rfl rfl ?_
  refine z_calli b (z_runS (As := [.int 0]) (st := []) b (c_X12_isOne_3 S ) cf_X12_isOne wm_X12_170 ws_X12_isOne dX12_kin_8 rfl (Nat.le_of_ble_eq_true rfl) ⟨by decide, by decide, by decide, by decide⟩) (fun r1673 u1674 h1672 => ?_)
  obtain ⟨rfl, rfl⟩ := h1672
  refine z_if_eq_f (tgt := 28) b dX12_kin_11 (by decide) (by decide) ?_
  refine z_iload_n b dX12_kin_14 rfl rfl ?_
  refine z_iload_n b dX12_kin_15 rfl rfl ?_
  refine z_icmp_eq_t (tgt := 28) b dX12_kin_16 (by decide) (by decide) ?_
  refine z_iconst (v := 0) b dX12_kin_28 (by decide) ?_
  exact z_zret (u := S) b rfl (by decide) dX12_kin_29 ⟨rfl, rfl⟩ rfl (by decide) (by decide)

set_option maxHeartbeats 4000000 in
set_option maxRecDepth 100000 in
theorem c_X11_kin_11 {l : Launch} {D : va_G} {cy : Nat → ClassId} {T0 tB tE : Nat} {a : Nat → Nat} {rw : Nat → Option Nat} (S : GS) (p0 : Int32) (p1 : Int32)  (hr_p0 : (-2147483648) ≤ p0.toInt ∧ p0.toInt ≤ (-1)) : Ct l D cy T0 tB tE yX11_kin cX11_kin 6 (some .boolean) 2 41 0 0 (cw cy tE a rw S) [.ref (a 0), .int 1, .int p0, .int p1, .int 0] (QI D (U := GS) (fun r u => 0 = r ∧ S = u) (cw cy tE a rw)) := by
  refine Ct.ofZ RX11 "kin" [(0, .ref (a 0)), (1, .int 1), (2, .int p0), (3, .int p1), (4, .int 0)] rfl rfl rfl rfl (Nat.le_of_ble_eq_true rfl) ?_
  intro p e R s m args below meth c A b
  refine z_iload_n b dX11_kin_0 rfl rfl ?_
  refine z_iload_n b dX11_kin_1 rfl rfl ?_
  refine z_calli b (z_runS (As := [.int 1, .int p0]) (st := []) b (c_X11_arePair_5 S p0 ⟨by omega, by omega⟩) cf_X11_arePair wm_X11_84 ws_X11_arePair dX11_kin_2 rfl (Nat.le_of_ble_eq_true rfl) ⟨by decide, by decide, by decide, by decide⟩) (fun r1676 u1677 h1675 => ?_)
  obtain ⟨rfl, rfl⟩ := h1675
  refine z_if_eq_t (tgt := 16) b dX11_kin_5 (by decide) (by decide) ?_
  refine z_iconst (v := 0) b dX11_kin_16 (by decide) ?_
  exact z_zret (u := S) b rfl (by decide) dX11_kin_17 ⟨rfl, rfl⟩ rfl (by decide) (by decide)

set_option maxHeartbeats 4000000 in
set_option maxRecDepth 100000 in
theorem c_X12_kin_11 {l : Launch} {D : va_G} {cy : Nat → ClassId} {T0 tB tE : Nat} {a : Nat → Nat} (S : GS) (p0 : Int32) (p1 : Int32)  (hr_p0 : (-2147483648) ≤ p0.toInt ∧ p0.toInt ≤ (-1)) : Ct l D cy T0 tB tE yX12_kin cX12_kin 5 (some .boolean) 2 42 0 0 (mw cy a S) [.ref (a 0), .int 1, .int p0, .int p1, .int 0] (QI D (U := GS) (fun r u => 0 = r ∧ S = u) (mw cy a)) := by
  refine Ct.ofZ RX12 "kin" [(0, .ref (a 0)), (1, .int 1), (2, .int p0), (3, .int p1), (4, .int 0)] rfl rfl rfl rfl (Nat.le_of_ble_eq_true rfl) ?_
  intro p e R s m args below meth c A b
  refine z_iload_n b dX12_kin_0 rfl rfl ?_
  refine z_calli b (z_runS (As := [.int 1]) (st := []) b (c_X12_isOne_4 S ) cf_X12_isOne wm_X12_170 ws_X12_isOne dX12_kin_1 rfl (Nat.le_of_ble_eq_true rfl) ⟨by decide, by decide, by decide, by decide⟩) (fun r1679 u1680 h1678 => ?_)
  obtain ⟨rfl, rfl⟩ := h1678
  refine z_if_eq_f (tgt := 28) b dX12_kin_4 (by decide) (by decide) ?_
  refine z_iload_n b dX12_kin_7 rfl rfl ?_
  refine z_calli b (z_runS (As := [.int p0]) (st := []) b (c_X12_isOne S p0 ⟨by omega, by omega⟩) cf_X12_isOne wm_X12_170 ws_X12_isOne dX12_kin_8 rfl (Nat.le_of_ble_eq_true rfl) ⟨by decide, by decide, by decide, by decide⟩) (fun r1682 u1683 h1681 => ?_)
  obtain ⟨rfl, rfl⟩ := h1681
  refine z_if_eq_t (tgt := 28) b dX12_kin_11 (by decide) (by decide) ?_
  refine z_iconst (v := 0) b dX12_kin_28 (by decide) ?_
  exact z_zret (u := S) b rfl (by decide) dX12_kin_29 ⟨rfl, rfl⟩ rfl (by decide) (by decide)

set_option maxHeartbeats 4000000 in
set_option maxRecDepth 100000 in
theorem c_X11_kin_12 {l : Launch} {D : va_G} {cy : Nat → ClassId} {T0 tB tE : Nat} {a : Nat → Nat} {rw : Nat → Option Nat} (S : GS) (p0 : Int32) (p1 : Int32)  (hr_p0 : (-2147483648) ≤ p0.toInt ∧ p0.toInt ≤ (-1)) : Ct l D cy T0 tB tE yX11_kin cX11_kin 6 (some .boolean) 2 41 0 0 (cw cy tE a rw S) [.ref (a 0), .int 1, .int p0, .int p1, .int 1] (QI D (U := GS) (fun r u => 0 = r ∧ S = u) (cw cy tE a rw)) := by
  refine Ct.ofZ RX11 "kin" [(0, .ref (a 0)), (1, .int 1), (2, .int p0), (3, .int p1), (4, .int 1)] rfl rfl rfl rfl (Nat.le_of_ble_eq_true rfl) ?_
  intro p e R s m args below meth c A b
  refine z_iload_n b dX11_kin_0 rfl rfl ?_
  refine z_iload_n b dX11_kin_1 rfl rfl ?_
  refine z_calli b (z_runS (As := [.int 1, .int p0]) (st := []) b (c_X11_arePair_5 S p0 ⟨by omega, by omega⟩) cf_X11_arePair wm_X11_84 ws_X11_arePair dX11_kin_2 rfl (Nat.le_of_ble_eq_true rfl) ⟨by decide, by decide, by decide, by decide⟩) (fun r1685 u1686 h1684 => ?_)
  obtain ⟨rfl, rfl⟩ := h1684
  refine z_if_eq_t (tgt := 16) b dX11_kin_5 (by decide) (by decide) ?_
  refine z_iconst (v := 0) b dX11_kin_16 (by decide) ?_
  exact z_zret (u := S) b rfl (by decide) dX11_kin_17 ⟨rfl, rfl⟩ rfl (by decide) (by decide)

set_option maxHeartbeats 4000000 in
set_option maxRecDepth 100000 in
theorem c_X12_kin_12 {l : Launch} {D : va_G} {cy : Nat → ClassId} {T0 tB tE : Nat} {a : Nat → Nat} (S : GS) (p0 : Int32) (p1 : Int32)  (hr_p0 : (-2147483648) ≤ p0.toInt ∧ p0.toInt ≤ (-1)) : Ct l D cy T0 tB tE yX12_kin cX12_kin 5 (some .boolean) 2 42 0 0 (mw cy a S) [.ref (a 0), .int 1, .int p0, .int p1, .int 1] (QI D (U := GS) (fun r u => 0 = r ∧ S = u) (mw cy a)) := by
  refine Ct.ofZ RX12 "kin" [(0, .ref (a 0)), (1, .int 1), (2, .int p0), (3, .int p1), (4, .int 1)] rfl rfl rfl rfl (Nat.le_of_ble_eq_true rfl) ?_
  intro p e R s m args below meth c A b
  refine z_iload_n b dX12_kin_0 rfl rfl ?_
  refine z_calli b (z_runS (As := [.int 1]) (st := []) b (c_X12_isOne_4 S ) cf_X12_isOne wm_X12_170 ws_X12_isOne dX12_kin_1 rfl (Nat.le_of_ble_eq_true rfl) ⟨by decide, by decide, by decide, by decide⟩) (fun r1688 u1689 h1687 => ?_)
  obtain ⟨rfl, rfl⟩ := h1687
  refine z_if_eq_f (tgt := 28) b dX12_kin_4 (by decide) (by decide) ?_
  refine z_iload_n b dX12_kin_7 rfl rfl ?_
  refine z_calli b (z_runS (As := [.int p0]) (st := []) b (c_X12_isOne S p0 ⟨by omega, by omega⟩) cf_X12_isOne wm_X12_170 ws_X12_isOne dX12_kin_8 rfl (Nat.le_of_ble_eq_true rfl) ⟨by decide, by decide, by decide, by decide⟩) (fun r1691 u1692 h1690 => ?_)
  obtain ⟨rfl, rfl⟩ := h1690
  refine z_if_eq_t (tgt := 28) b dX12_kin_11 (by decide) (by decide) ?_
  refine z_iconst (v := 0) b dX12_kin_28 (by decide) ?_
  exact z_zret (u := S) b rfl (by decide) dX12_kin_29 ⟨rfl, rfl⟩ rfl (by decide) (by decide)

set_option maxHeartbeats 4000000 in
set_option maxRecDepth 100000 in
theorem c_X11_kin_13 {l : Launch} {D : va_G} {cy : Nat → ClassId} {T0 tB tE : Nat} {a : Nat → Nat} {rw : Nat → Option Nat} (S : GS) (p0 : Int32) (p1 : Int32)  (hr_p0 : 3 ≤ p0.toInt ∧ p0.toInt ≤ 2147483647) : Ct l D cy T0 tB tE yX11_kin cX11_kin 6 (some .boolean) 2 41 0 0 (cw cy tE a rw S) [.ref (a 0), .int 1, .int p0, .int p1, .int 0] (QI D (U := GS) (fun r u => 0 = r ∧ S = u) (cw cy tE a rw)) := by
  refine Ct.ofZ RX11 "kin" [(0, .ref (a 0)), (1, .int 1), (2, .int p0), (3, .int p1), (4, .int 0)] rfl rfl rfl rfl (Nat.le_of_ble_eq_true rfl) ?_
  intro p e R s m args below meth c A b
  refine z_iload_n b dX11_kin_0 rfl rfl ?_
  refine z_iload_n b dX11_kin_1 rfl rfl ?_
  refine z_calli b (z_runS (As := [.int 1, .int p0]) (st := []) b (c_X11_arePair_6 S p0 ⟨by omega, by omega⟩) cf_X11_arePair wm_X11_84 ws_X11_arePair dX11_kin_2 rfl (Nat.le_of_ble_eq_true rfl) ⟨by decide, by decide, by decide, by decide⟩) (fun r1694 u1695 h1693 => ?_)
  obtain ⟨rfl, rfl⟩ := h1693
  refine z_if_eq_t (tgt := 16) b dX11_kin_5 (by decide) (by decide) ?_
  refine z_iconst (v := 0) b dX11_kin_16 (by decide) ?_
  exact z_zret (u := S) b rfl (by decide) dX11_kin_17 ⟨rfl, rfl⟩ rfl (by decide) (by decide)

set_option maxHeartbeats 4000000 in
set_option maxRecDepth 100000 in
theorem c_X12_kin_13 {l : Launch} {D : va_G} {cy : Nat → ClassId} {T0 tB tE : Nat} {a : Nat → Nat} (S : GS) (p0 : Int32) (p1 : Int32)  (hr_p0 : 3 ≤ p0.toInt ∧ p0.toInt ≤ 2147483647) : Ct l D cy T0 tB tE yX12_kin cX12_kin 5 (some .boolean) 2 42 0 0 (mw cy a S) [.ref (a 0), .int 1, .int p0, .int p1, .int 0] (QI D (U := GS) (fun r u => 0 = r ∧ S = u) (mw cy a)) := by
  refine Ct.ofZ RX12 "kin" [(0, .ref (a 0)), (1, .int 1), (2, .int p0), (3, .int p1), (4, .int 0)] rfl rfl rfl rfl (Nat.le_of_ble_eq_true rfl) ?_
  intro p e R s m args below meth c A b
  refine z_iload_n b dX12_kin_0 rfl rfl ?_
  refine z_calli b (z_runS (As := [.int 1]) (st := []) b (c_X12_isOne_4 S ) cf_X12_isOne wm_X12_170 ws_X12_isOne dX12_kin_1 rfl (Nat.le_of_ble_eq_true rfl) ⟨by decide, by decide, by decide, by decide⟩) (fun r1697 u1698 h1696 => ?_)
  obtain ⟨rfl, rfl⟩ := h1696
  refine z_if_eq_f (tgt := 28) b dX12_kin_4 (by decide) (by decide) ?_
  refine z_iload_n b dX12_kin_7 rfl rfl ?_
  refine z_calli b (z_runS (As := [.int p0]) (st := []) b (c_X12_isOne_2 S p0 ⟨by omega, by omega⟩) cf_X12_isOne wm_X12_170 ws_X12_isOne dX12_kin_8 rfl (Nat.le_of_ble_eq_true rfl) ⟨by decide, by decide, by decide, by decide⟩) (fun r1700 u1701 h1699 => ?_)
  obtain ⟨rfl, rfl⟩ := h1699
  refine z_if_eq_t (tgt := 28) b dX12_kin_11 (by decide) (by decide) ?_
  refine z_iconst (v := 0) b dX12_kin_28 (by decide) ?_
  exact z_zret (u := S) b rfl (by decide) dX12_kin_29 ⟨rfl, rfl⟩ rfl (by decide) (by decide)

set_option maxHeartbeats 4000000 in
set_option maxRecDepth 100000 in
theorem c_X11_kin_14 {l : Launch} {D : va_G} {cy : Nat → ClassId} {T0 tB tE : Nat} {a : Nat → Nat} {rw : Nat → Option Nat} (S : GS) (p0 : Int32) (p1 : Int32)  (hr_p0 : 3 ≤ p0.toInt ∧ p0.toInt ≤ 2147483647) : Ct l D cy T0 tB tE yX11_kin cX11_kin 6 (some .boolean) 2 41 0 0 (cw cy tE a rw S) [.ref (a 0), .int 1, .int p0, .int p1, .int 1] (QI D (U := GS) (fun r u => 0 = r ∧ S = u) (cw cy tE a rw)) := by
  refine Ct.ofZ RX11 "kin" [(0, .ref (a 0)), (1, .int 1), (2, .int p0), (3, .int p1), (4, .int 1)] rfl rfl rfl rfl (Nat.le_of_ble_eq_true rfl) ?_
  intro p e R s m args below meth c A b
  refine z_iload_n b dX11_kin_0 rfl rfl ?_
  refine z_iload_n b dX11_kin_1 rfl rfl ?_
  refine z_calli b (z_runS (As := [.int 1, .int p0]) (st := []) b (c_X11_arePair_6 S p0 ⟨by omega, by omega⟩) cf_X11_arePair wm_X11_84 ws_X11_arePair dX11_kin_2 rfl (Nat.le_of_ble_eq_true rfl) ⟨by decide, by decide, by decide, by decide⟩) (fun r1703 u1704 h1702 => ?_)
  obtain ⟨rfl, rfl⟩ := h1702
  refine z_if_eq_t (tgt := 16) b dX11_kin_5 (by decide) (by decide) ?_
  refine z_iconst (v := 0) b dX11_kin_16 (by decide) ?_
  exact z_zret (u := S) b rfl (by decide) dX11_kin_17 ⟨rfl, rfl⟩ rfl (by decide) (by decide)

set_option maxHeartbeats 4000000 in
set_option maxRecDepth 100000 in
theorem c_X12_kin_14 {l : Launch} {D : va_G} {cy : Nat → ClassId} {T0 tB tE : Nat} {a : Nat → Nat} (S : GS) (p0 : Int32) (p1 : Int32)  (hr_p0 : 3 ≤ p0.toInt ∧ p0.toInt ≤ 2147483647) : Ct l D cy T0 tB tE yX12_kin cX12_kin 5 (some .boolean) 2 42 0 0 (mw cy a S) [.ref (a 0), .int 1, .int p0, .int p1, .int 1] (QI D (U := GS) (fun r u => 0 = r ∧ S = u) (mw cy a)) := by
  refine Ct.ofZ RX12 "kin" [(0, .ref (a 0)), (1, .int 1), (2, .int p0), (3, .int p1), (4, .int 1)] rfl rfl rfl rfl (Nat.le_of_ble_eq_true rfl) ?_
  intro p e R s m args below meth c A b
  refine z_iload_n b dX12_kin_0 rfl rfl ?_
  refine z_calli b (z_runS (As := [.int 1]) (st := []) b (c_X12_isOne_4 S ) cf_X12_isOne wm_X12_170 ws_X12_isOne dX12_kin_1 rfl (Nat.le_of_ble_eq_true rfl) ⟨by decide, by decide, by decide, by decide⟩) (fun r1706 u1707 h1705 => ?_)
  obtain ⟨rfl, rfl⟩ := h1705
  refine z_if_eq_f (tgt := 28) b dX12_kin_4 (by decide) (by decide) ?_
  refine z_iload_n b dX12_kin_7 rfl rfl ?_
  refine z_calli b (z_runS (As := [.int p0]) (st := []) b (c_X12_isOne_2 S p0 ⟨by omega, by omega⟩) cf_X12_isOne wm_X12_170 ws_X12_isOne dX12_kin_8 rfl (Nat.le_of_ble_eq_true rfl) ⟨by decide, by decide, by decide, by decide⟩) (fun r1709 u1710 h1708 => ?_)
  obtain ⟨rfl, rfl⟩ := h1708
  refine z_if_eq_t (tgt := 28) b dX12_kin_11 (by decide) (by decide) ?_
  refine z_iconst (v := 0) b dX12_kin_28 (by decide) ?_
  exact z_zret (u := S) b rfl (by decide) dX12_kin_29 ⟨rfl, rfl⟩ rfl (by decide) (by decide)

set_option maxHeartbeats 4000000 in
set_option maxRecDepth 100000 in
theorem c_X11_kin_15 {l : Launch} {D : va_G} {cy : Nat → ClassId} {T0 tB tE : Nat} {a : Nat → Nat} {rw : Nat → Option Nat} (S : GS) (p0 : Int32)  : Ct l D cy T0 tB tE yX11_kin cX11_kin 6 (some .boolean) 2 41 0 0 (cw cy tE a rw S) [.ref (a 0), .int 1, .int 1, .int p0, .int 0] (QI D (U := GS) (fun r u => 0 = r ∧ S = u) (cw cy tE a rw)) := by
  refine Ct.ofZ RX11 "kin" [(0, .ref (a 0)), (1, .int 1), (2, .int 1), (3, .int p0), (4, .int 0)] rfl rfl rfl rfl (Nat.le_of_ble_eq_true rfl) ?_
  intro p e R s m args below meth c A b
  refine z_iload_n b dX11_kin_0 rfl rfl ?_
  refine z_iload_n b dX11_kin_1 rfl rfl ?_
  refine z_calli b (z_runS (As := [.int 1, .int 1]) (st := []) b (c_X11_arePair_10 S ) cf_X11_arePair wm_X11_84 ws_X11_arePair dX11_kin_2 rfl (Nat.le_of_ble_eq_true rfl) ⟨by decide, by decide, by decide, by decide⟩) (fun r1712 u1713 h1711 => ?_)
  obtain ⟨rfl, rfl⟩ := h1711
  refine z_if_eq_t (tgt := 16) b dX11_kin_5 (by decide) (by decide) ?_
  refine z_iconst (v := 0) b dX11_kin_16 (by decide) ?_
  exact z_zret (u := S) b rfl (by decide) dX11_kin_17 ⟨rfl, rfl⟩ rfl (by decide) (by decide)

set_option maxHeartbeats 4000000 in
set_option maxRecDepth 100000 in
theorem c_X12_kin_15 {l : Launch} {D : va_G} {cy : Nat → ClassId} {T0 tB tE : Nat} {a : Nat → Nat} (S : GS) (p0 : Int32)  : Ct l D cy T0 tB tE yX12_kin cX12_kin 5 (some .boolean) 2 42 0 0 (mw cy a S) [.ref (a 0), .int 1, .int 1, .int p0, .int 0] (QI D (U := GS) (fun r u => 0 = r ∧ S = u) (mw cy a)) := by
  refine Ct.ofZ RX12 "kin" [(0, .ref (a 0)), (1, .int 1), (2, .int 1), (3, .int p0), (4, .int 0)] rfl rfl rfl rfl (Nat.le_of_ble_eq_true rfl) ?_
  intro p e R s m args below meth c A b
  refine z_iload_n b dX12_kin_0 rfl rfl ?_
  refine z_calli b (z_runS (As := [.int 1]) (st := []) b (c_X12_isOne_4 S ) cf_X12_isOne wm_X12_170 ws_X12_isOne dX12_kin_1 rfl (Nat.le_of_ble_eq_true rfl) ⟨by decide, by decide, by decide, by decide⟩) (fun r1715 u1716 h1714 => ?_)
  obtain ⟨rfl, rfl⟩ := h1714
  refine z_if_eq_f (tgt := 28) b dX12_kin_4 (by decide) (by decide) ?_
  refine z_iload_n b dX12_kin_7 rfl rfl ?_
  refine z_calli b (z_runS (As := [.int 1]) (st := []) b (c_X12_isOne_4 S ) cf_X12_isOne wm_X12_170 ws_X12_isOne dX12_kin_8 rfl (Nat.le_of_ble_eq_true rfl) ⟨by decide, by decide, by decide, by decide⟩) (fun r1718 u1719 h1717 => ?_)
  obtain ⟨rfl, rfl⟩ := h1717
  refine z_if_eq_f (tgt := 28) b dX12_kin_11 (by decide) (by decide) ?_
  refine z_iload_n b dX12_kin_14 rfl rfl ?_
  refine z_iload_n b dX12_kin_15 rfl rfl ?_
  refine z_icmp_eq_t (tgt := 28) b dX12_kin_16 (by decide) (by decide) ?_
  refine z_iconst (v := 0) b dX12_kin_28 (by decide) ?_
  exact z_zret (u := S) b rfl (by decide) dX12_kin_29 ⟨rfl, rfl⟩ rfl (by decide) (by decide)

set_option maxHeartbeats 4000000 in
set_option maxRecDepth 100000 in
theorem c_X11_kin_16 {l : Launch} {D : va_G} {cy : Nat → ClassId} {T0 tB tE : Nat} {a : Nat → Nat} {rw : Nat → Option Nat} (S : GS) (p0 : Int32)  : Ct l D cy T0 tB tE yX11_kin cX11_kin 6 (some .boolean) 2 41 0 0 (cw cy tE a rw S) [.ref (a 0), .int 1, .int 1, .int p0, .int 1] (QI D (U := GS) (fun r u => 0 = r ∧ S = u) (cw cy tE a rw)) := by
  refine Ct.ofZ RX11 "kin" [(0, .ref (a 0)), (1, .int 1), (2, .int 1), (3, .int p0), (4, .int 1)] rfl rfl rfl rfl (Nat.le_of_ble_eq_true rfl) ?_
  intro p e R s m args below meth c A b
  refine z_iload_n b dX11_kin_0 rfl rfl ?_
  refine z_iload_n b dX11_kin_1 rfl rfl ?_
  refine z_calli b (z_runS (As := [.int 1, .int 1]) (st := []) b (c_X11_arePair_10 S ) cf_X11_arePair wm_X11_84 ws_X11_arePair dX11_kin_2 rfl (Nat.le_of_ble_eq_true rfl) ⟨by decide, by decide, by decide, by decide⟩) (fun r1721 u1722 h1720 => ?_)
  obtain ⟨rfl, rfl⟩ := h1720
  refine z_if_eq_t (tgt := 16) b dX11_kin_5 (by decide) (by decide) ?_
  refine z_iconst (v := 0) b dX11_kin_16 (by decide) ?_
  exact z_zret (u := S) b rfl (by decide) dX11_kin_17 ⟨rfl, rfl⟩ rfl (by decide) (by decide)

set_option maxHeartbeats 4000000 in
set_option maxRecDepth 100000 in
theorem c_X12_kin_16 {l : Launch} {D : va_G} {cy : Nat → ClassId} {T0 tB tE : Nat} {a : Nat → Nat} (S : GS) (p0 : Int32)  : Ct l D cy T0 tB tE yX12_kin cX12_kin 5 (some .boolean) 2 42 0 0 (mw cy a S) [.ref (a 0), .int 1, .int 1, .int p0, .int 1] (QI D (U := GS) (fun r u => 0 = r ∧ S = u) (mw cy a)) := by
  refine Ct.ofZ RX12 "kin" [(0, .ref (a 0)), (1, .int 1), (2, .int 1), (3, .int p0), (4, .int 1)] rfl rfl rfl rfl (Nat.le_of_ble_eq_true rfl) ?_
  intro p e R s m args below meth c A b
  refine z_iload_n b dX12_kin_0 rfl rfl ?_
  refine z_calli b (z_runS (As := [.int 1]) (st := []) b (c_X12_isOne_4 S ) cf_X12_isOne wm_X12_170 ws_X12_isOne dX12_kin_1 rfl (Nat.le_of_ble_eq_true rfl) ⟨by decide, by decide, by decide, by decide⟩) (fun r1724 u1725 h1723 => ?_)
  obtain ⟨rfl, rfl⟩ := h1723
  refine z_if_eq_f (tgt := 28) b dX12_kin_4 (by decide) (by decide) ?_
  refine z_iload_n b dX12_kin_7 rfl rfl ?_
  refine z_calli b (z_runS (As := [.int 1]) (st := []) b (c_X12_isOne_4 S ) cf_X12_isOne wm_X12_170 ws_X12_isOne dX12_kin_8 rfl (Nat.le_of_ble_eq_true rfl) ⟨by decide, by decide, by decide, by decide⟩) (fun r1727 u1728 h1726 => ?_)
  obtain ⟨rfl, rfl⟩ := h1726
  refine z_if_eq_f (tgt := 28) b dX12_kin_11 (by decide) (by decide) ?_
  refine z_iload_n b dX12_kin_14 rfl rfl ?_
  refine z_iload_n b dX12_kin_15 rfl rfl ?_
  refine z_icmp_eq_t (tgt := 28) b dX12_kin_16 (by decide) (by decide) ?_
  refine z_iconst (v := 0) b dX12_kin_28 (by decide) ?_
  exact z_zret (u := S) b rfl (by decide) dX12_kin_29 ⟨rfl, rfl⟩ rfl (by decide) (by decide)

set_option maxHeartbeats 4000000 in
set_option maxRecDepth 100000 in
theorem c_X11_kin_17 {l : Launch} {D : va_G} {cy : Nat → ClassId} {T0 tB tE : Nat} {a : Nat → Nat} {rw : Nat → Option Nat} (S : GS) (p0 : Int32) (p1 : Int32)  (hr_p0 : (-2147483648) ≤ p0.toInt ∧ p0.toInt ≤ (-1)) : Ct l D cy T0 tB tE yX11_kin cX11_kin 6 (some .boolean) 2 41 0 0 (cw cy tE a rw S) [.ref (a 0), .int 2, .int p0, .int p1, .int 0] (QI D (U := GS) (fun r u => 0 = r ∧ S = u) (cw cy tE a rw)) := by
  refine Ct.ofZ RX11 "kin" [(0, .ref (a 0)), (1, .int 2), (2, .int p0), (3, .int p1), (4, .int 0)] rfl rfl rfl rfl (Nat.le_of_ble_eq_true rfl) ?_
  intro p e R s m args below meth c A b
  refine z_iload_n b dX11_kin_0 rfl rfl ?_
  refine z_iload_n b dX11_kin_1 rfl rfl ?_
  refine z_calli b (z_runS (As := [.int 2, .int p0]) (st := []) b (c_X11_arePair_7 S p0 ⟨by omega, by omega⟩) cf_X11_arePair wm_X11_84 ws_X11_arePair dX11_kin_2 rfl (Nat.le_of_ble_eq_true rfl) ⟨by decide, by decide, by decide, by decide⟩) (fun r1730 u1731 h1729 => ?_)
  obtain ⟨rfl, rfl⟩ := h1729
  refine z_if_eq_t (tgt := 16) b dX11_kin_5 (by decide) (by decide) ?_
  refine z_iconst (v := 0) b dX11_kin_16 (by decide) ?_
  exact z_zret (u := S) b rfl (by decide) dX11_kin_17 ⟨rfl, rfl⟩ rfl (by decide) (by decide)

set_option maxHeartbeats 4000000 in
set_option maxRecDepth 100000 in
theorem c_X12_kin_17 {l : Launch} {D : va_G} {cy : Nat → ClassId} {T0 tB tE : Nat} {a : Nat → Nat} (S : GS) (p0 : Int32) (p1 : Int32)  (hr_p0 : (-2147483648) ≤ p0.toInt ∧ p0.toInt ≤ (-1)) : Ct l D cy T0 tB tE yX12_kin cX12_kin 5 (some .boolean) 2 42 0 0 (mw cy a S) [.ref (a 0), .int 2, .int p0, .int p1, .int 0] (QI D (U := GS) (fun r u => 0 = r ∧ S = u) (mw cy a)) := by
  refine Ct.ofZ RX12 "kin" [(0, .ref (a 0)), (1, .int 2), (2, .int p0), (3, .int p1), (4, .int 0)] rfl rfl rfl rfl (Nat.le_of_ble_eq_true rfl) ?_
  intro p e R s m args below meth c A b
  refine z_iload_n b dX12_kin_0 rfl rfl ?_
  refine z_calli b (z_runS (As := [.int 2]) (st := []) b (c_X12_isOne_5 S ) cf_X12_isOne wm_X12_170 ws_X12_isOne dX12_kin_1 rfl (Nat.le_of_ble_eq_true rfl) ⟨by decide, by decide, by decide, by decide⟩) (fun r1733 u1734 h1732 => ?_)
  obtain ⟨rfl, rfl⟩ := h1732
  refine z_if_eq_f (tgt := 28) b dX12_kin_4 (by decide) (by decide) ?_
  refine z_iload_n b dX12_kin_7 rfl rfl ?_
  refine z_calli b (z_runS (As := [.int p0]) (st := []) b (c_X12_isOne S p0 ⟨by omega, by omega⟩) cf_X12_isOne wm_X12_170 ws_X12_isOne dX12_kin_8 rfl (Nat.le_of_ble_eq_true rfl) ⟨by decide, by decide, by decide, by decide⟩) (fun r1736 u1737 h1735 => ?_)
  obtain ⟨rfl, rfl⟩ := h1735
  refine z_if_eq_t (tgt := 28) b dX12_kin_11 (by decide) (by decide) ?_
  refine z_iconst (v := 0) b dX12_kin_28 (by decide) ?_
  exact z_zret (u := S) b rfl (by decide) dX12_kin_29 ⟨rfl, rfl⟩ rfl (by decide) (by decide)

set_option maxHeartbeats 4000000 in
set_option maxRecDepth 100000 in
theorem c_X11_kin_18 {l : Launch} {D : va_G} {cy : Nat → ClassId} {T0 tB tE : Nat} {a : Nat → Nat} {rw : Nat → Option Nat} (S : GS) (p0 : Int32) (p1 : Int32)  (hr_p0 : (-2147483648) ≤ p0.toInt ∧ p0.toInt ≤ (-1)) : Ct l D cy T0 tB tE yX11_kin cX11_kin 6 (some .boolean) 2 41 0 0 (cw cy tE a rw S) [.ref (a 0), .int 2, .int p0, .int p1, .int 1] (QI D (U := GS) (fun r u => 0 = r ∧ S = u) (cw cy tE a rw)) := by
  refine Ct.ofZ RX11 "kin" [(0, .ref (a 0)), (1, .int 2), (2, .int p0), (3, .int p1), (4, .int 1)] rfl rfl rfl rfl (Nat.le_of_ble_eq_true rfl) ?_
  intro p e R s m args below meth c A b
  refine z_iload_n b dX11_kin_0 rfl rfl ?_
  refine z_iload_n b dX11_kin_1 rfl rfl ?_
  refine z_calli b (z_runS (As := [.int 2, .int p0]) (st := []) b (c_X11_arePair_7 S p0 ⟨by omega, by omega⟩) cf_X11_arePair wm_X11_84 ws_X11_arePair dX11_kin_2 rfl (Nat.le_of_ble_eq_true rfl) ⟨by decide, by decide, by decide, by decide⟩) (fun r1739 u1740 h1738 => ?_)
  obtain ⟨rfl, rfl⟩ := h1738
  refine z_if_eq_t (tgt := 16) b dX11_kin_5 (by decide) (by decide) ?_
  refine z_iconst (v := 0) b dX11_kin_16 (by decide) ?_
  exact z_zret (u := S) b rfl (by decide) dX11_kin_17 ⟨rfl, rfl⟩ rfl (by decide) (by decide)

set_option maxHeartbeats 4000000 in
set_option maxRecDepth 100000 in
theorem c_X12_kin_18 {l : Launch} {D : va_G} {cy : Nat → ClassId} {T0 tB tE : Nat} {a : Nat → Nat} (S : GS) (p0 : Int32) (p1 : Int32)  (hr_p0 : (-2147483648) ≤ p0.toInt ∧ p0.toInt ≤ (-1)) : Ct l D cy T0 tB tE yX12_kin cX12_kin 5 (some .boolean) 2 42 0 0 (mw cy a S) [.ref (a 0), .int 2, .int p0, .int p1, .int 1] (QI D (U := GS) (fun r u => 0 = r ∧ S = u) (mw cy a)) := by
  refine Ct.ofZ RX12 "kin" [(0, .ref (a 0)), (1, .int 2), (2, .int p0), (3, .int p1), (4, .int 1)] rfl rfl rfl rfl (Nat.le_of_ble_eq_true rfl) ?_
  intro p e R s m args below meth c A b
  refine z_iload_n b dX12_kin_0 rfl rfl ?_
  refine z_calli b (z_runS (As := [.int 2]) (st := []) b (c_X12_isOne_5 S ) cf_X12_isOne wm_X12_170 ws_X12_isOne dX12_kin_1 rfl (Nat.le_of_ble_eq_true rfl) ⟨by decide, by decide, by decide, by decide⟩) (fun r1742 u1743 h1741 => ?_)
  obtain ⟨rfl, rfl⟩ := h1741
  refine z_if_eq_f (tgt := 28) b dX12_kin_4 (by decide) (by decide) ?_
  refine z_iload_n b dX12_kin_7 rfl rfl ?_
  refine z_calli b (z_runS (As := [.int p0]) (st := []) b (c_X12_isOne S p0 ⟨by omega, by omega⟩) cf_X12_isOne wm_X12_170 ws_X12_isOne dX12_kin_8 rfl (Nat.le_of_ble_eq_true rfl) ⟨by decide, by decide, by decide, by decide⟩) (fun r1745 u1746 h1744 => ?_)
  obtain ⟨rfl, rfl⟩ := h1744
  refine z_if_eq_t (tgt := 28) b dX12_kin_11 (by decide) (by decide) ?_
  refine z_iconst (v := 0) b dX12_kin_28 (by decide) ?_
  exact z_zret (u := S) b rfl (by decide) dX12_kin_29 ⟨rfl, rfl⟩ rfl (by decide) (by decide)

set_option maxHeartbeats 4000000 in
set_option maxRecDepth 100000 in
theorem c_X11_kin_19 {l : Launch} {D : va_G} {cy : Nat → ClassId} {T0 tB tE : Nat} {a : Nat → Nat} {rw : Nat → Option Nat} (S : GS) (p0 : Int32) (p1 : Int32)  (hr_p0 : 3 ≤ p0.toInt ∧ p0.toInt ≤ 2147483647) : Ct l D cy T0 tB tE yX11_kin cX11_kin 6 (some .boolean) 2 41 0 0 (cw cy tE a rw S) [.ref (a 0), .int 2, .int p0, .int p1, .int 0] (QI D (U := GS) (fun r u => 0 = r ∧ S = u) (cw cy tE a rw)) := by
  refine Ct.ofZ RX11 "kin" [(0, .ref (a 0)), (1, .int 2), (2, .int p0), (3, .int p1), (4, .int 0)] rfl rfl rfl rfl (Nat.le_of_ble_eq_true rfl) ?_
  intro p e R s m args below meth c A b
  refine z_iload_n b dX11_kin_0 rfl rfl ?_
  refine z_iload_n b dX11_kin_1 rfl rfl ?_
  refine z_calli b (z_runS (As := [.int 2, .int p0]) (st := []) b (c_X11_arePair_8 S p0 ⟨by omega, by omega⟩) cf_X11_arePair wm_X11_84 ws_X11_arePair dX11_kin_2 rfl (Nat.le_of_ble_eq_true rfl) ⟨by decide, by decide, by decide, by decide⟩) (fun r1748 u1749 h1747 => ?_)
  obtain ⟨rfl, rfl⟩ := h1747
  refine z_if_eq_t (tgt := 16) b dX11_kin_5 (by decide) (by decide) ?_
  refine z_iconst (v := 0) b dX11_kin_16 (by decide) ?_
  exact z_zret (u := S) b rfl (by decide) dX11_kin_17 ⟨rfl, rfl⟩ rfl (by decide) (by decide)

set_option maxHeartbeats 4000000 in
set_option maxRecDepth 100000 in
theorem c_X12_kin_19 {l : Launch} {D : va_G} {cy : Nat → ClassId} {T0 tB tE : Nat} {a : Nat → Nat} (S : GS) (p0 : Int32) (p1 : Int32)  (hr_p0 : 3 ≤ p0.toInt ∧ p0.toInt ≤ 2147483647) : Ct l D cy T0 tB tE yX12_kin cX12_kin 5 (some .boolean) 2 42 0 0 (mw cy a S) [.ref (a 0), .int 2, .int p0, .int p1, .int 0] (QI D (U := GS) (fun r u => 0 = r ∧ S = u) (mw cy a)) := by
  refine Ct.ofZ RX12 "kin" [(0, .ref (a 0)), (1, .int 2), (2, .int p0), (3, .int p1), (4, .int 0)] rfl rfl rfl rfl (Nat.le_of_ble_eq_true rfl) ?_
  intro p e R s m args below meth c A b
  refine z_iload_n b dX12_kin_0 rfl rfl ?_
  refine z_calli b (z_runS (As := [.int 2]) (st := []) b (c_X12_isOne_5 S ) cf_X12_isOne wm_X12_170 ws_X12_isOne dX12_kin_1 rfl (Nat.le_of_ble_eq_true rfl) ⟨by decide, by decide, by decide, by decide⟩) (fun r1751 u1752 h1750 => ?_)
  obtain ⟨rfl, rfl⟩ := h1750
  refine z_if_eq_f (tgt := 28) b dX12_kin_4 (by decide) (by decide) ?_
  refine z_iload_n b dX12_kin_7 rfl rfl ?_
  refine z_calli b (z_runS (As := [.int p0]) (st := []) b (c_X12_isOne_2 S p0 ⟨by omega, by omega⟩) cf_X12_isOne wm_X12_170 ws_X12_isOne dX12_kin_8 rfl (Nat.le_of_ble_eq_true rfl) ⟨by decide, by decide, by decide, by decide⟩) (fun r1754 u1755 h1753 => ?_)
  obtain ⟨rfl, rfl⟩ := h1753
  refine z_if_eq_t (tgt := 28) b dX12_kin_11 (by decide) (by decide) ?_
  refine z_iconst (v := 0) b dX12_kin_28 (by decide) ?_
  exact z_zret (u := S) b rfl (by decide) dX12_kin_29 ⟨rfl, rfl⟩ rfl (by decide) (by decide)

set_option maxHeartbeats 4000000 in
set_option maxRecDepth 100000 in
theorem c_X11_kin_20 {l : Launch} {D : va_G} {cy : Nat → ClassId} {T0 tB tE : Nat} {a : Nat → Nat} {rw : Nat → Option Nat} (S : GS) (p0 : Int32) (p1 : Int32)  (hr_p0 : 3 ≤ p0.toInt ∧ p0.toInt ≤ 2147483647) : Ct l D cy T0 tB tE yX11_kin cX11_kin 6 (some .boolean) 2 41 0 0 (cw cy tE a rw S) [.ref (a 0), .int 2, .int p0, .int p1, .int 1] (QI D (U := GS) (fun r u => 0 = r ∧ S = u) (cw cy tE a rw)) := by
  refine Ct.ofZ RX11 "kin" [(0, .ref (a 0)), (1, .int 2), (2, .int p0), (3, .int p1), (4, .int 1)] rfl rfl rfl rfl (Nat.le_of_ble_eq_true rfl) ?_
  intro p e R s m args below meth c A b
  refine z_iload_n b dX11_kin_0 rfl rfl ?_
  refine z_iload_n b dX11_kin_1 rfl rfl ?_
  refine z_calli b (z_runS (As := [.int 2, .int p0]) (st := []) b (c_X11_arePair_8 S p0 ⟨by omega, by omega⟩) cf_X11_arePair wm_X11_84 ws_X11_arePair dX11_kin_2 rfl (Nat.le_of_ble_eq_true rfl) ⟨by decide, by decide, by decide, by decide⟩) (fun r1757 u1758 h1756 => ?_)
  obtain ⟨rfl, rfl⟩ := h1756
  refine z_if_eq_t (tgt := 16) b dX11_kin_5 (by decide) (by decide) ?_
  refine z_iconst (v := 0) b dX11_kin_16 (by decide) ?_
  exact z_zret (u := S) b rfl (by decide) dX11_kin_17 ⟨rfl, rfl⟩ rfl (by decide) (by decide)

set_option maxHeartbeats 4000000 in
set_option maxRecDepth 100000 in
theorem c_X12_kin_20 {l : Launch} {D : va_G} {cy : Nat → ClassId} {T0 tB tE : Nat} {a : Nat → Nat} (S : GS) (p0 : Int32) (p1 : Int32)  (hr_p0 : 3 ≤ p0.toInt ∧ p0.toInt ≤ 2147483647) : Ct l D cy T0 tB tE yX12_kin cX12_kin 5 (some .boolean) 2 42 0 0 (mw cy a S) [.ref (a 0), .int 2, .int p0, .int p1, .int 1] (QI D (U := GS) (fun r u => 0 = r ∧ S = u) (mw cy a)) := by
  refine Ct.ofZ RX12 "kin" [(0, .ref (a 0)), (1, .int 2), (2, .int p0), (3, .int p1), (4, .int 1)] rfl rfl rfl rfl (Nat.le_of_ble_eq_true rfl) ?_
  intro p e R s m args below meth c A b
  refine z_iload_n b dX12_kin_0 rfl rfl ?_
  refine z_calli b (z_runS (As := [.int 2]) (st := []) b (c_X12_isOne_5 S ) cf_X12_isOne wm_X12_170 ws_X12_isOne dX12_kin_1 rfl (Nat.le_of_ble_eq_true rfl) ⟨by decide, by decide, by decide, by decide⟩) (fun r1760 u1761 h1759 => ?_)
  obtain ⟨rfl, rfl⟩ := h1759
  refine z_if_eq_f (tgt := 28) b dX12_kin_4 (by decide) (by decide) ?_
  refine z_iload_n b dX12_kin_7 rfl rfl ?_
  refine z_calli b (z_runS (As := [.int p0]) (st := []) b (c_X12_isOne_2 S p0 ⟨by omega, by omega⟩) cf_X12_isOne wm_X12_170 ws_X12_isOne dX12_kin_8 rfl (Nat.le_of_ble_eq_true rfl) ⟨by decide, by decide, by decide, by decide⟩) (fun r1763 u1764 h1762 => ?_)
  obtain ⟨rfl, rfl⟩ := h1762
  refine z_if_eq_t (tgt := 28) b dX12_kin_11 (by decide) (by decide) ?_
  refine z_iconst (v := 0) b dX12_kin_28 (by decide) ?_
  exact z_zret (u := S) b rfl (by decide) dX12_kin_29 ⟨rfl, rfl⟩ rfl (by decide) (by decide)

set_option maxHeartbeats 4000000 in
set_option maxRecDepth 100000 in
theorem c_X11_kin_21 {l : Launch} {D : va_G} {cy : Nat → ClassId} {T0 tB tE : Nat} {a : Nat → Nat} {rw : Nat → Option Nat} (S : GS) (p0 : Int32)  : Ct l D cy T0 tB tE yX11_kin cX11_kin 6 (some .boolean) 2 41 0 0 (cw cy tE a rw S) [.ref (a 0), .int 2, .int 2, .int p0, .int 0] (QI D (U := GS) (fun r u => 0 = r ∧ S = u) (cw cy tE a rw)) := by
  refine Ct.ofZ RX11 "kin" [(0, .ref (a 0)), (1, .int 2), (2, .int 2), (3, .int p0), (4, .int 0)] rfl rfl rfl rfl (Nat.le_of_ble_eq_true rfl) ?_
  intro p e R s m args below meth c A b
  refine z_iload_n b dX11_kin_0 rfl rfl ?_
  refine z_iload_n b dX11_kin_1 rfl rfl ?_
  refine z_calli b (z_runS (As := [.int 2, .int 2]) (st := []) b (c_X11_arePair_11 S ) cf_X11_arePair wm_X11_84 ws_X11_arePair dX11_kin_2 rfl (Nat.le_of_ble_eq_true rfl) ⟨by decide, by decide, by decide, by decide⟩) (fun r1766 u1767 h1765 => ?_)
  obtain ⟨rfl, rfl⟩ := h1765
  refine z_if_eq_t (tgt := 16) b dX11_kin_5 (by decide) (by decide) ?_
  refine z_iconst (v := 0) b dX11_kin_16 (by decide) ?_
  exact z_zret (u := S) b rfl (by decide) dX11_kin_17 ⟨rfl, rfl⟩ rfl (by decide) (by decide)

set_option maxHeartbeats 4000000 in
set_option maxRecDepth 100000 in
theorem c_X12_kin_21 {l : Launch} {D : va_G} {cy : Nat → ClassId} {T0 tB tE : Nat} {a : Nat → Nat} (S : GS) (p0 : Int32)  : Ct l D cy T0 tB tE yX12_kin cX12_kin 5 (some .boolean) 2 42 0 0 (mw cy a S) [.ref (a 0), .int 2, .int 2, .int p0, .int 0] (QI D (U := GS) (fun r u => 0 = r ∧ S = u) (mw cy a)) := by
  refine Ct.ofZ RX12 "kin" [(0, .ref (a 0)), (1, .int 2), (2, .int 2), (3, .int p0), (4, .int 0)] rfl rfl rfl rfl (Nat.le_of_ble_eq_true rfl) ?_
  intro p e R s m args below meth c A b
  refine z_iload_n b dX12_kin_0 rfl rfl ?_
  refine z_calli b (z_runS (As := [.int 2]) (st := []) b (c_X12_isOne_5 S ) cf_X12_isOne wm_X12_170 ws_X12_isOne dX12_kin_1 rfl (Nat.le_of_ble_eq_true rfl) ⟨by decide, by decide, by decide, by decide⟩) (fun r1769 u1770 h1768 => ?_)
  obtain ⟨rfl, rfl⟩ := h1768
  refine z_if_eq_f (tgt := 28) b dX12_kin_4 (by decide) (by decide) ?_
  refine z_iload_n b dX12_kin_7 rfl rfl ?_
  refine z_calli b (z_runS (As := [.int 2]) (st := []) b (c_X12_isOne_5 S ) cf_X12_isOne wm_X12_170 ws_X12_isOne dX12_kin_8 rfl (Nat.le_of_ble_eq_true rfl) ⟨by decide, by decide, by decide, by decide⟩) (fun r1772 u1773 h1771 => ?_)
  obtain ⟨rfl, rfl⟩ := h1771
  refine z_if_eq_f (tgt := 28) b dX12_kin_11 (by decide) (by decide) ?_
  refine z_iload_n b dX12_kin_14 rfl rfl ?_
  refine z_iload_n b dX12_kin_15 rfl rfl ?_
  refine z_icmp_eq_t (tgt := 28) b dX12_kin_16 (by decide) (by decide) ?_
  refine z_iconst (v := 0) b dX12_kin_28 (by decide) ?_
  exact z_zret (u := S) b rfl (by decide) dX12_kin_29 ⟨rfl, rfl⟩ rfl (by decide) (by decide)

set_option maxHeartbeats 4000000 in
set_option maxRecDepth 100000 in
theorem c_X11_kin_22 {l : Launch} {D : va_G} {cy : Nat → ClassId} {T0 tB tE : Nat} {a : Nat → Nat} {rw : Nat → Option Nat} (S : GS) (p0 : Int32)  : Ct l D cy T0 tB tE yX11_kin cX11_kin 6 (some .boolean) 2 41 0 0 (cw cy tE a rw S) [.ref (a 0), .int 2, .int 2, .int p0, .int 1] (QI D (U := GS) (fun r u => 0 = r ∧ S = u) (cw cy tE a rw)) := by
  refine Ct.ofZ RX11 "kin" [(0, .ref (a 0)), (1, .int 2), (2, .int 2), (3, .int p0), (4, .int 1)] rfl rfl rfl rfl (Nat.le_of_ble_eq_true rfl) ?_
  intro p e R s m args below meth c A b
  refine z_iload_n b dX11_kin_0 rfl rfl ?_
  refine z_iload_n b dX11_kin_1 rfl rfl ?_
  refine z_calli b (z_runS (As := [.int 2, .int 2]) (st := []) b (c_X11_arePair_11 S ) cf_X11_arePair wm_X11_84 ws_X11_arePair dX11_kin_2 rfl (Nat.le_of_ble_eq_true rfl) ⟨by decide, by decide, by decide, by decide⟩) (fun r1775 u1776 h1774 => ?_)
  obtain ⟨rfl, rfl⟩ := h1774
  refine z_if_eq_t (tgt := 16) b dX11_kin_5 (by decide) (by decide) ?_
  refine z_iconst (v := 0) b dX11_kin_16 (by decide) ?_
  exact z_zret (u := S) b rfl (by decide) dX11_kin_17 ⟨rfl, rfl⟩ rfl (by decide) (by decide)

set_option maxHeartbeats 4000000 in
set_option maxRecDepth 100000 in
theorem c_X12_kin_22 {l : Launch} {D : va_G} {cy : Nat → ClassId} {T0 tB tE : Nat} {a : Nat → Nat} (S : GS) (p0 : Int32)  : Ct l D cy T0 tB tE yX12_kin cX12_kin 5 (some .boolean) 2 42 0 0 (mw cy a S) [.ref (a 0), .int 2, .int 2, .int p0, .int 1] (QI D (U := GS) (fun r u => 0 = r ∧ S = u) (mw cy a)) := by
  refine Ct.ofZ RX12 "kin" [(0, .ref (a 0)), (1, .int 2), (2, .int 2), (3, .int p0), (4, .int 1)] rfl rfl rfl rfl (Nat.le_of_ble_eq_true rfl) ?_
  intro p e R s m args below meth c A b
  refine z_iload_n b dX12_kin_0 rfl rfl ?_
  refine z_calli b (z_runS (As := [.int 2]) (st := []) b (c_X12_isOne_5 S ) cf_X12_isOne wm_X12_170 ws_X12_isOne dX12_kin_1 rfl (Nat.le_of_ble_eq_true rfl) ⟨by decide, by decide, by decide, by decide⟩) (fun r1778 u1779 h1777 => ?_)
  obtain ⟨rfl, rfl⟩ := h1777
  refine z_if_eq_f (tgt := 28) b dX12_kin_4 (by decide) (by decide) ?_
  refine z_iload_n b dX12_kin_7 rfl rfl ?_
  refine z_calli b (z_runS (As := [.int 2]) (st := []) b (c_X12_isOne_5 S ) cf_X12_isOne wm_X12_170 ws_X12_isOne dX12_kin_8 rfl (Nat.le_of_ble_eq_true rfl) ⟨by decide, by decide, by decide, by decide⟩) (fun r1781 u1782 h1780 => ?_)
  obtain ⟨rfl, rfl⟩ := h1780
  refine z_if_eq_f (tgt := 28) b dX12_kin_11 (by decide) (by decide) ?_
  refine z_iload_n b dX12_kin_14 rfl rfl ?_
  refine z_iload_n b dX12_kin_15 rfl rfl ?_
  refine z_icmp_eq_t (tgt := 28) b dX12_kin_16 (by decide) (by decide) ?_
  refine z_iconst (v := 0) b dX12_kin_28 (by decide) ?_
  exact z_zret (u := S) b rfl (by decide) dX12_kin_29 ⟨rfl, rfl⟩ rfl (by decide) (by decide)

set_option maxHeartbeats 4000000 in
set_option maxRecDepth 100000 in
theorem c_X11_isWithin_10 {l : Launch} {D : va_G} {cy : Nat → ClassId} {T0 tB tE : Nat} {a : Nat → Nat} {rw : Nat → Option Nat} (S : GS) (p0 : Int32)  (hr_p0 : (-2147483648) ≤ p0.toInt ∧ p0.toInt ≤ (-1)) : Ct l D cy T0 tB tE yX11_isWithin cX11_isWithin 2 (some .boolean) 0 0 0 0 (cw cy tE a rw S) [.int p0, .int 1] (QI D (U := GS) (fun r u => 0 = r ∧ S = u) (cw cy tE a rw)) := by
  refine Ct.ofZ RX11 "isWithin" [(0, .int p0), (1, .int 1)] rfl rfl rfl rfl (Nat.le_of_ble_eq_true rfl) ?_
  intro p e R s m args below meth c A b
  refine z_iload_n b dX11_isWithin_0 rfl rfl ?_
  refine y_if_lt (tgt := 13) (xl := p0.toInt) b rfl dX11_isWithin_1 (by decide) (fun c1786 => ?_) (fun c1786 => ?_)
  · refine z_iconst (v := 0) b dX11_isWithin_13 (by decide) ?_
    exact z_zret (u := S) b rfl (by decide) dX11_isWithin_14 ⟨rfl, rfl⟩ rfl (by decide) (by decide)
  · exfalso; omega

set_option maxHeartbeats 4000000 in
set_option maxRecDepth 100000 in
theorem c_X11_kin_23 {l : Launch} {D : va_G} {cy : Nat → ClassId} {T0 tB tE : Nat} {a : Nat → Nat} {rw : Nat → Option Nat} (S : GS) (p0 : Int32)  (hr_p0 : (-2147483648) ≤ p0.toInt ∧ p0.toInt ≤ (-1)) : Ct l D cy T0 tB tE yX11_kin cX11_kin 6 (some .boolean) 2 41 0 0 (cw cy tE a rw S) [.ref (a 0), .int 0, .int 1, .int p0, .int 0] (QI D (U := GS) (fun r u => 0 = r ∧ S = u) (cw cy tE a rw)) := by
  refine Ct.ofZ RX11 "kin" [(0, .ref (a 0)), (1, .int 0), (2, .int 1), (3, .int p0), (4, .int 0)] rfl rfl rfl rfl (Nat.le_of_ble_eq_true rfl) ?_
  intro p e R s m args below meth c A b
  refine z_iload_n b dX11_kin_0 rfl rfl ?_
  refine z_iload_n b dX11_kin_1 rfl rfl ?_
  refine z_calli b (z_runS (As := [.int 0, .int 1]) (st := []) b (c_X11_arePair_12 S ) cf_X11_arePair wm_X11_84 ws_X11_arePair dX11_kin_2 rfl (Nat.le_of_ble_eq_true rfl) ⟨by decide, by decide, by decide, by decide⟩) (fun r1784 u1785 h1783 => ?_)
  obtain ⟨rfl, rfl⟩ := h1783
  refine z_if_eq_f (tgt := 16) b dX11_kin_5 (by decide) (by decide) ?_
  refine z_iload_n b dX11_kin_8 rfl rfl ?_
  refine z_iconst (v := 1) b dX11_kin_9 (by decide) ?_
  refine z_calli b (z_runS (As := [.int p0, .int 1]) (st := []) b (c_X11_isWithin_10 S p0 ⟨by omega, by omega⟩) cf_X11_isWithin wm_X11_73 ws_X11_isWithin dX11_kin_10 rfl (Nat.le_of_ble_eq_true rfl) ⟨by decide, by decide, by decide, by decide⟩) (fun r1788 u1789 h1787 => ?_)
  obtain ⟨rfl, rfl⟩ := h1787
  refine z_if_ne_f (tgt := 18) b dX11_kin_13 (by decide) (by decide) ?_
  refine z_iconst (v := 0) b dX11_kin_16 (by decide) ?_
  exact z_zret (u := S) b rfl (by decide) dX11_kin_17 ⟨rfl, rfl⟩ rfl (by decide) (by decide)

set_option maxHeartbeats 4000000 in
set_option maxRecDepth 100000 in
theorem c_X12_isIn_15 {l : Launch} {D : va_G} {cy : Nat → ClassId} {T0 tB tE : Nat} {a : Nat → Nat} (S : GS) (p0 : Int32)  (hr_p0 : (-2147483648) ≤ p0.toInt ∧ p0.toInt ≤ (-1)) : Ct l D cy T0 tB tE yX12_isIn cX12_isIn 3 (some .boolean) 0 0 0 0 (mw cy a S) [.int p0, .int 0, .int 1] (QI D (U := GS) (fun r u => 0 = r ∧ S = u) (mw cy a)) := by
  refine Ct.ofZ RX12 "isIn" [(0, .int p0), (1, .int 0), (2, .int 1)] rfl rfl rfl rfl (Nat.le_of_ble_eq_true rfl) ?_
  intro p e R s m args below meth c A b
  refine z_iload_n b dX12_isIn_0 rfl rfl ?_
  refine z_iload_n b dX12_isIn_1 rfl rfl ?_
  refine y_icmp_lt (tgt := 14) (xl := p0.toInt) (yl := 0) b rfl (by decide) dX12_isIn_2 (by decide) (fun c1796 => ?_) (fun c1796 => ?_)
  · refine z_iconst (v := 0) b dX12_isIn_14 (by decide) ?_
    exact z_zret (u := S) b rfl (by decide) dX12_isIn_15 ⟨rfl, rfl⟩ rfl (by decide) (by decide)
  · exfalso; omega

set_option maxHeartbeats 4000000 in
set_option maxRecDepth 100000 in
theorem c_X12_kin_23 {l : Launch} {D : va_G} {cy : Nat → ClassId} {T0 tB tE : Nat} {a : Nat → Nat} (S : GS) (p0 : Int32)  (hr_p0 : (-2147483648) ≤ p0.toInt ∧ p0.toInt ≤ (-1)) : Ct l D cy T0 tB tE yX12_kin cX12_kin 5 (some .boolean) 2 42 0 0 (mw cy a S) [.ref (a 0), .int 0, .int 1, .int p0, .int 0] (QI D (U := GS) (fun r u => 0 = r ∧ S = u) (mw cy a)) := by
  refine Ct.ofZ RX12 "kin" [(0, .ref (a 0)), (1, .int 0), (2, .int 1), (3, .int p0), (4, .int 0)] rfl rfl rfl rfl (Nat.le_of_ble_eq_true rfl) ?_
  intro p e R s m args below meth c A b
  refine z_iload_n b dX12_kin_0 rfl rfl ?_
  refine z_calli b (z_runS (As := [.int 0]) (st := []) b (c_X12_isOne_3 S ) cf_X12_isOne wm_X12_170 ws_X12_isOne dX12_kin_1 rfl (Nat.le_of_ble_eq_true rfl) ⟨by decide, by decide, by decide, by decide⟩) (fun r1791 u1792 h1790 => ?_)
  obtain ⟨rfl, rfl⟩ := h1790
  refine z_if_eq_f (tgt := 28) b dX12_kin_4 (by decide) (by decide) ?_
  refine z_iload_n b dX12_kin_7 rfl rfl ?_
  refine z_calli b (z_runS (As := [.int 1]) (st := []) b (c_X12_isOne_4 S ) cf_X12_isOne wm_X12_170 ws_X12_isOne dX12_kin_8 rfl (Nat.le_of_ble_eq_true rfl) ⟨by decide, by decide, by decide, by decide⟩) (fun r1794 u1795 h1793 => ?_)
  obtain ⟨rfl, rfl⟩ := h1793
  refine z_if_eq_f (tgt := 28) b dX12_kin_11 (by decide) (by decide) ?_
  refine z_iload_n b dX12_kin_14 rfl rfl ?_
  refine z_iload_n b dX12_kin_15 rfl rfl ?_
  refine z_icmp_eq_f (tgt := 28) b dX12_kin_16 (by decide) (by decide) ?_
  refine z_iload_n b dX12_kin_19 rfl rfl ?_
  refine z_iconst (v := 0) b dX12_kin_20 (by decide) ?_
  refine z_iconst (v := 1) b dX12_kin_21 (by decide) ?_
  refine z_calli b (z_runS (As := [.int p0, .int 0, .int 1]) (st := []) b (c_X12_isIn_15 S p0 ⟨by omega, by omega⟩) cf_X12_isIn wm_X12_1 ws_X12_isIn dX12_kin_22 rfl (Nat.le_of_ble_eq_true rfl) ⟨by decide, by decide, by decide, by decide⟩) (fun r1798 u1799 h1797 => ?_)
  obtain ⟨rfl, rfl⟩ := h1797
  refine z_if_ne_f (tgt := 30) b dX12_kin_25 (by decide) (by decide) ?_
  refine z_iconst (v := 0) b dX12_kin_28 (by decide) ?_
  exact z_zret (u := S) b rfl (by decide) dX12_kin_29 ⟨rfl, rfl⟩ rfl (by decide) (by decide)

set_option maxHeartbeats 4000000 in
set_option maxRecDepth 100000 in
theorem c_X11_kin_24 {l : Launch} {D : va_G} {cy : Nat → ClassId} {T0 tB tE : Nat} {a : Nat → Nat} {rw : Nat → Option Nat} (S : GS) (p0 : Int32)  (hr_p0 : (-2147483648) ≤ p0.toInt ∧ p0.toInt ≤ (-1)) : Ct l D cy T0 tB tE yX11_kin cX11_kin 6 (some .boolean) 2 41 0 0 (cw cy tE a rw S) [.ref (a 0), .int 0, .int 1, .int p0, .int 1] (QI D (U := GS) (fun r u => 0 = r ∧ S = u) (cw cy tE a rw)) := by
  refine Ct.ofZ RX11 "kin" [(0, .ref (a 0)), (1, .int 0), (2, .int 1), (3, .int p0), (4, .int 1)] rfl rfl rfl rfl (Nat.le_of_ble_eq_true rfl) ?_
  intro p e R s m args below meth c A b
  refine z_iload_n b dX11_kin_0 rfl rfl ?_
  refine z_iload_n b dX11_kin_1 rfl rfl ?_
  refine z_calli b (z_runS (As := [.int 0, .int 1]) (st := []) b (c_X11_arePair_12 S ) cf_X11_arePair wm_X11_84 ws_X11_arePair dX11_kin_2 rfl (Nat.le_of_ble_eq_true rfl) ⟨by decide, by decide, by decide, by decide⟩) (fun r1801 u1802 h1800 => ?_)
  obtain ⟨rfl, rfl⟩ := h1800
  refine z_if_eq_f (tgt := 16) b dX11_kin_5 (by decide) (by decide) ?_
  refine z_iload_n b dX11_kin_8 rfl rfl ?_
  refine z_iconst (v := 1) b dX11_kin_9 (by decide) ?_
  refine z_calli b (z_runS (As := [.int p0, .int 1]) (st := []) b (c_X11_isWithin_10 S p0 ⟨by omega, by omega⟩) cf_X11_isWithin wm_X11_73 ws_X11_isWithin dX11_kin_10 rfl (Nat.le_of_ble_eq_true rfl) ⟨by decide, by decide, by decide, by decide⟩) (fun r1804 u1805 h1803 => ?_)
  obtain ⟨rfl, rfl⟩ := h1803
  refine z_if_ne_f (tgt := 18) b dX11_kin_13 (by decide) (by decide) ?_
  refine z_iconst (v := 0) b dX11_kin_16 (by decide) ?_
  exact z_zret (u := S) b rfl (by decide) dX11_kin_17 ⟨rfl, rfl⟩ rfl (by decide) (by decide)

set_option maxHeartbeats 4000000 in
set_option maxRecDepth 100000 in
theorem c_X12_kin_24 {l : Launch} {D : va_G} {cy : Nat → ClassId} {T0 tB tE : Nat} {a : Nat → Nat} (S : GS) (p0 : Int32)  (hr_p0 : (-2147483648) ≤ p0.toInt ∧ p0.toInt ≤ (-1)) : Ct l D cy T0 tB tE yX12_kin cX12_kin 5 (some .boolean) 2 42 0 0 (mw cy a S) [.ref (a 0), .int 0, .int 1, .int p0, .int 1] (QI D (U := GS) (fun r u => 0 = r ∧ S = u) (mw cy a)) := by
  refine Ct.ofZ RX12 "kin" [(0, .ref (a 0)), (1, .int 0), (2, .int 1), (3, .int p0), (4, .int 1)] rfl rfl rfl rfl (Nat.le_of_ble_eq_true rfl) ?_
  intro p e R s m args below meth c A b
  refine z_iload_n b dX12_kin_0 rfl rfl ?_
  refine z_calli b (z_runS (As := [.int 0]) (st := []) b (c_X12_isOne_3 S ) cf_X12_isOne wm_X12_170 ws_X12_isOne dX12_kin_1 rfl (Nat.le_of_ble_eq_true rfl) ⟨by decide, by decide, by decide, by decide⟩) (fun r1807 u1808 h1806 => ?_)
  obtain ⟨rfl, rfl⟩ := h1806
  refine z_if_eq_f (tgt := 28) b dX12_kin_4 (by decide) (by decide) ?_
  refine z_iload_n b dX12_kin_7 rfl rfl ?_
  refine z_calli b (z_runS (As := [.int 1]) (st := []) b (c_X12_isOne_4 S ) cf_X12_isOne wm_X12_170 ws_X12_isOne dX12_kin_8 rfl (Nat.le_of_ble_eq_true rfl) ⟨by decide, by decide, by decide, by decide⟩) (fun r1810 u1811 h1809 => ?_)
  obtain ⟨rfl, rfl⟩ := h1809
  refine z_if_eq_f (tgt := 28) b dX12_kin_11 (by decide) (by decide) ?_
  refine z_iload_n b dX12_kin_14 rfl rfl ?_
  refine z_iload_n b dX12_kin_15 rfl rfl ?_
  refine z_icmp_eq_f (tgt := 28) b dX12_kin_16 (by decide) (by decide) ?_
  refine z_iload_n b dX12_kin_19 rfl rfl ?_
  refine z_iconst (v := 0) b dX12_kin_20 (by decide) ?_
  refine z_iconst (v := 1) b dX12_kin_21 (by decide) ?_
  refine z_calli b (z_runS (As := [.int p0, .int 0, .int 1]) (st := []) b (c_X12_isIn_15 S p0 ⟨by omega, by omega⟩) cf_X12_isIn wm_X12_1 ws_X12_isIn dX12_kin_22 rfl (Nat.le_of_ble_eq_true rfl) ⟨by decide, by decide, by decide, by decide⟩) (fun r1813 u1814 h1812 => ?_)
  obtain ⟨rfl, rfl⟩ := h1812
  refine z_if_ne_f (tgt := 30) b dX12_kin_25 (by decide) (by decide) ?_
  refine z_iconst (v := 0) b dX12_kin_28 (by decide) ?_
  exact z_zret (u := S) b rfl (by decide) dX12_kin_29 ⟨rfl, rfl⟩ rfl (by decide) (by decide)

set_option maxHeartbeats 4000000 in
set_option maxRecDepth 100000 in
theorem c_X11_isWithin_11 {l : Launch} {D : va_G} {cy : Nat → ClassId} {T0 tB tE : Nat} {a : Nat → Nat} {rw : Nat → Option Nat} (S : GS)   : Ct l D cy T0 tB tE yX11_isWithin cX11_isWithin 2 (some .boolean) 0 0 0 0 (cw cy tE a rw S) [.int 0, .int 1] (QI D (U := GS) (fun r u => 1 = r ∧ S = u) (cw cy tE a rw)) := by
  refine Ct.ofZ RX11 "isWithin" [(0, .int 0), (1, .int 1)] rfl rfl rfl rfl (Nat.le_of_ble_eq_true rfl) ?_
  intro p e R s m args below meth c A b
  refine z_iload_n b dX11_isWithin_0 rfl rfl ?_
  refine z_if_lt_f (tgt := 13) b dX11_isWithin_1 (by decide) (by decide) ?_
  refine z_iload_n b dX11_isWithin_4 rfl rfl ?_
  refine z_iload_n b dX11_isWithin_5 rfl rfl ?_
  refine z_icmp_gt_f (tgt := 13) b dX11_isWithin_6 (by decide) (by decide) ?_
  refine z_iconst (v := 1) b dX11_isWithin_9 (by decide) ?_
  refine z_goto (tgt := 14) b dX11_isWithin_10 (by decide) ?_
  exact z_zret (u := S) b rfl (by decide) dX11_isWithin_14 ⟨rfl, rfl⟩ rfl (by decide) (by decide)

set_option maxHeartbeats 4000000 in
set_option maxRecDepth 100000 in
theorem c_X9_set_14 {l : Launch} {D : va_G} {cy : Nat → ClassId} {T0 tB tE : Nat} {a : Nat → Nat} {rw : Nat → Option Nat} (S : GS)  (h_a_4_21 : ar S 4 21 = 0) : Ct l D cy T0 tB tE yX9_set cX9_set 3 none 0 0 0 0 (cw cy tE a rw S) [.ref (a 14), .int 21, .int 0] (QV D (U := GS) (fun u => S = u) (cw cy tE a rw)) := by
  refine Ct.ofZ RX9 "set" [(0, .ref (a 14)), (1, .int 21), (2, .int 0)] rfl rfl rfl rfl (Nat.le_of_ble_eq_true rfl) ?_
  intro p e R s m args below meth c A b
  refine z_iload_n b dX9_set_0 rfl rfl ?_
  refine z_if_lt_f (tgt := 20) b dX9_set_1 (by decide) (by decide) ?_
  refine z_iload_n b dX9_set_4 rfl rfl ?_
  refine z_aload_n b dX9_set_5 rfl rfl ?_
  refine z_get (q0 := 14) (k9 := 0) (v := .ref (a 15)) b (cw_14 cy tE a rw S) rfl in_X9 (by decide) wf_X9_11 rfl dX9_set_6 ?_
  refine z_alen (q0 := 15) (t0 := 0) (v := 51) b (cw_15 cy tE a rw S) rfl rfl dX9_set_9 ?_
  refine z_icmp_ge_f (tgt := 20) b dX9_set_10 (by decide) (by decide) ?_
  refine z_aload_n b dX9_set_13 rfl rfl ?_
  refine z_get (q0 := 14) (k9 := 0) (v := .ref (a 15)) b (cw_14 cy tE a rw S) rfl in_X9 (by decide) wf_X9_11 rfl dX9_set_14 ?_
  refine z_iload_n b dX9_set_17 rfl rfl ?_
  refine z_iload_n b dX9_set_18 rfl rfl ?_
  refine y_iast (q0 := 15) (j := 21) b (cw_15 cy tE a rw S) (by decide) dX9_set_19 ((cwa_15 cy tE a rw S 21 0).trans (congrArg (cw cy tE a rw) (su_same h_a_4_21))) ?_
  exact z_vret (u := S) b rfl dX9_set_20 rfl rfl (by decide) (by decide)

set_option maxHeartbeats 4000000 in
set_option maxRecDepth 100000 in
theorem c_X9_set_15 {l : Launch} {D : va_G} {cy : Nat → ClassId} {T0 tB tE : Nat} {a : Nat → Nat} {rw : Nat → Option Nat} (S : GS)  (h_a_4_23 : ar S 4 23 = 0) : Ct l D cy T0 tB tE yX9_set cX9_set 3 none 0 0 0 0 (cw cy tE a rw S) [.ref (a 14), .int 23, .int 0] (QV D (U := GS) (fun u => S = u) (cw cy tE a rw)) := by
  refine Ct.ofZ RX9 "set" [(0, .ref (a 14)), (1, .int 23), (2, .int 0)] rfl rfl rfl rfl (Nat.le_of_ble_eq_true rfl) ?_
  intro p e R s m args below meth c A b
  refine z_iload_n b dX9_set_0 rfl rfl ?_
  refine z_if_lt_f (tgt := 20) b dX9_set_1 (by decide) (by decide) ?_
  refine z_iload_n b dX9_set_4 rfl rfl ?_
  refine z_aload_n b dX9_set_5 rfl rfl ?_
  refine z_get (q0 := 14) (k9 := 0) (v := .ref (a 15)) b (cw_14 cy tE a rw S) rfl in_X9 (by decide) wf_X9_11 rfl dX9_set_6 ?_
  refine z_alen (q0 := 15) (t0 := 0) (v := 51) b (cw_15 cy tE a rw S) rfl rfl dX9_set_9 ?_
  refine z_icmp_ge_f (tgt := 20) b dX9_set_10 (by decide) (by decide) ?_
  refine z_aload_n b dX9_set_13 rfl rfl ?_
  refine z_get (q0 := 14) (k9 := 0) (v := .ref (a 15)) b (cw_14 cy tE a rw S) rfl in_X9 (by decide) wf_X9_11 rfl dX9_set_14 ?_
  refine z_iload_n b dX9_set_17 rfl rfl ?_
  refine z_iload_n b dX9_set_18 rfl rfl ?_
  refine y_iast (q0 := 15) (j := 23) b (cw_15 cy tE a rw S) (by decide) dX9_set_19 ((cwa_15 cy tE a rw S 23 0).trans (congrArg (cw cy tE a rw) (su_same h_a_4_23))) ?_
  exact z_vret (u := S) b rfl dX9_set_20 rfl rfl (by decide) (by decide)

set_option maxHeartbeats 4000000 in
set_option maxRecDepth 100000 in
theorem c_X11_kin_25 {l : Launch} {D : va_G} {cy : Nat → ClassId} {T0 tB tE : Nat} {a : Nat → Nat} {rw : Nat → Option Nat} (S : GS)  (h_a_4_21 : ar S 4 21 = 0) (h_a_4_23 : ar S 4 23 = 0) (h_i_24 : fi S 24 = 0) : Ct l D cy T0 tB tE yX11_kin cX11_kin 6 (some .boolean) 2 41 0 0 (cw cy tE a rw S) [.ref (a 0), .int 0, .int 1, .int 0, .int 0] (QI D (U := GS) (fun r u => 1 = r ∧ S = u) (cw cy tE a rw)) := by
  refine Ct.ofZ RX11 "kin" [(0, .ref (a 0)), (1, .int 0), (2, .int 1), (3, .int 0), (4, .int 0)] rfl rfl rfl rfl (Nat.le_of_ble_eq_true rfl) ?_
  intro p e R s m args below meth c A b
  refine z_iload_n b dX11_kin_0 rfl rfl ?_
  refine z_iload_n b dX11_kin_1 rfl rfl ?_
  refine z_calli b (z_runS (As := [.int 0, .int 1]) (st := []) b (c_X11_arePair_12 S ) cf_X11_arePair wm_X11_84 ws_X11_arePair dX11_kin_2 rfl (Nat.le_of_ble_eq_true rfl) ⟨by decide, by decide, by decide, by decide⟩) (fun r1816 u1817 h1815 => ?_)
  obtain ⟨rfl, rfl⟩ := h1815
  refine z_if_eq_f (tgt := 16) b dX11_kin_5 (by decide) (by decide) ?_
  refine z_iload_n b dX11_kin_8 rfl rfl ?_
  refine z_iconst (v := 1) b dX11_kin_9 (by decide) ?_
  refine z_calli b (z_runS (As := [.int 0, .int 1]) (st := []) b (c_X11_isWithin_11 S ) cf_X11_isWithin wm_X11_73 ws_X11_isWithin dX11_kin_10 rfl (Nat.le_of_ble_eq_true rfl) ⟨by decide, by decide, by decide, by decide⟩) (fun r1819 u1820 h1818 => ?_)
  obtain ⟨rfl, rfl⟩ := h1818
  refine z_if_ne_t (tgt := 18) b dX11_kin_13 (by decide) (by decide) ?_
  refine z_iload b dX11_kin_18 rfl ?_
  refine z_if_eq_t (tgt := 27) b dX11_kin_20 (by decide) (by decide) ?_
  refine z_iconst (v := 0) b dX11_kin_27 (by decide) ?_
  refine z_istore (lv' := [(5, .int 0), (0, .ref (a 0)), (1, .int 0), (2, .int 1), (3, .int 0), (4, .int 0)]) b dX11_kin_28 (by decide) rfl ?_
  refine z_iload_n b dX11_kin_30 rfl rfl ?_
  refine z_if_ne_f (tgt := 71) b dX11_kin_31 (by decide) (by decide) ?_
  refine z_aload_n b dX11_kin_34 rfl rfl ?_
  refine z_get (q0 := 0) (k9 := 4) (v := .ref (a 14)) b (cw_0 cy tE a rw S) rfl in_X11 (by decide) wf_X11_34 rfl dX11_kin_35 ?_
  refine z_bipush (v := 20) b dX11_kin_38 (by decide) ?_
  refine z_iconst (v := 3) b dX11_kin_40 (by decide) ?_
  refine z_iload_n b dX11_kin_41 rfl rfl ?_
  refine z_imul (v := 0) b dX11_kin_42 (by decide) ?_
  refine z_iadd (v := 20) b dX11_kin_43 (by decide) ?_
  refine z_iload_n b dX11_kin_44 rfl rfl ?_
  refine z_iadd (v := 21) b dX11_kin_45 (by decide) ?_
  refine z_iload b dX11_kin_46 rfl ?_
  refine z_callv b (z_runV (q0 := 14) (As := [.int 21, .int 0]) (st := []) b (c_X9_set_14 S h_a_4_21) cf_X9_set (cw_14 cy tE a rw S) rfl wm_X11_77 wi_X9_set ws_X9_set dX11_kin_48 rfl (Nat.le_of_ble_eq_true rfl) ⟨by decide, by decide, by decide, by decide⟩) (fun u1823 h1821 => ?_)
  obtain rfl := h1821
  refine z_aload_n b dX11_kin_51 rfl rfl ?_
  refine z_get (q0 := 0) (k9 := 4) (v := .ref (a 14)) b (cw_0 cy tE a rw S) rfl in_X11 (by decide) wf_X11_34 rfl dX11_kin_52 ?_
  refine z_bipush (v := 20) b dX11_kin_55 (by decide) ?_
  refine z_iconst (v := 3) b dX11_kin_57 (by decide) ?_
  refine z_iload_n b dX11_kin_58 rfl rfl ?_
  refine z_imul (v := 3) b dX11_kin_59 (by decide) ?_
  refine z_iadd (v := 23) b dX11_kin_60 (by decide) ?_
  refine z_iload_n b dX11_kin_61 rfl rfl ?_
  refine z_iadd (v := 23) b dX11_kin_62 (by decide) ?_
  refine z_iload b dX11_kin_63 rfl ?_
  refine z_callv b (z_runV (q0 := 14) (As := [.int 23, .int 0]) (st := []) b (c_X9_set_15 S h_a_4_23) cf_X9_set (cw_14 cy tE a rw S) rfl wm_X11_77 wi_X9_set ws_X9_set dX11_kin_65 rfl (Nat.le_of_ble_eq_true rfl) ⟨by decide, by decide, by decide, by decide⟩) (fun u1826 h1824 => ?_)
  obtain rfl := h1824
  refine z_goto (tgt := 88) b dX11_kin_68 (by decide) ?_
  refine z_aload_n b dX11_kin_88 rfl rfl ?_
  refine z_get (q0 := 0) (k9 := 6) (v := .ref (a 25)) b (cw_0 cy tE a rw S) rfl in_X11 (by decide) wf_X11_52 rfl dX11_kin_89 ?_
  refine z_callv b (z_runV (q0 := 25) (As := []) (st := []) b (c_X8_forget S h_i_24) cf_X8_forget (cw_25 cy tE a rw S) rfl wm_X11_81 wi_X8_forget ws_X8_forget dX11_kin_92 rfl (Nat.le_of_ble_eq_true rfl) ⟨by decide, by decide, by decide, by decide⟩) (fun u1829 h1827 => ?_)
  obtain rfl := h1827
  refine z_iconst (v := 1) b dX11_kin_95 (by decide) ?_
  exact z_zret (u := S) b rfl (by decide) dX11_kin_96 ⟨rfl, rfl⟩ rfl (by decide) (by decide)

set_option maxHeartbeats 4000000 in
set_option maxRecDepth 100000 in
theorem c_X12_isIn_16 {l : Launch} {D : va_G} {cy : Nat → ClassId} {T0 tB tE : Nat} {a : Nat → Nat} (S : GS)   : Ct l D cy T0 tB tE yX12_isIn cX12_isIn 3 (some .boolean) 0 0 0 0 (mw cy a S) [.int 0, .int 0, .int 1] (QI D (U := GS) (fun r u => 1 = r ∧ S = u) (mw cy a)) := by
  refine Ct.ofZ RX12 "isIn" [(0, .int 0), (1, .int 0), (2, .int 1)] rfl rfl rfl rfl (Nat.le_of_ble_eq_true rfl) ?_
  intro p e R s m args below meth c A b
  refine z_iload_n b dX12_isIn_0 rfl rfl ?_
  refine z_iload_n b dX12_isIn_1 rfl rfl ?_
  refine z_icmp_lt_f (tgt := 14) b dX12_isIn_2 (by decide) (by decide) ?_
  refine z_iload_n b dX12_isIn_5 rfl rfl ?_
  refine z_iload_n b dX12_isIn_6 rfl rfl ?_
  refine z_icmp_gt_f (tgt := 14) b dX12_isIn_7 (by decide) (by decide) ?_
  refine z_iconst (v := 1) b dX12_isIn_10 (by decide) ?_
  refine z_goto (tgt := 15) b dX12_isIn_11 (by decide) ?_
  exact z_zret (u := S) b rfl (by decide) dX12_isIn_15 ⟨rfl, rfl⟩ rfl (by decide) (by decide)

set_option maxHeartbeats 4000000 in
set_option maxRecDepth 100000 in
theorem ch_X12_packs_30 {p : Program} {l : Launch} {e : Env} {R : Room} {s : State} {m : MethodId} {args : Array Value} {below : List Frame} {meth : Method} {c : Code} {D : va_G} {cy : Nat → ClassId} {T0 tB tE : Nat} {A : Nat → Prop} {Q : State → Prop} {a : Nat → Nat} (S : GS)  (h_a_0_0 : ar S 0 0 = 0) (h_a_1_1 : ar S 1 1 = 0) (h_a_1_2 : ar S 1 2 = 0) (h_a_2_0 : ar S 2 0 = 3) (h_a_3_1 : ar S 3 1 = 0) (h_a_4_1 : ar S 4 1 = 0) (h_a_4_2 : ar S 4 2 = 0) (h_i_0 : fi S 0 = 0) (b : Bz p R s m args meth c D cy T0 tB tE A 5 cX12_packs RX12 (some .long) "packs" 1 21 0 0) (k : Z p l e R s m args below meth c D A 5 Q 0 0 (mw cy a S) [(3, .int 1), (4, .int 2), (1, .long 1536), (0, .ref (a 0))] 21 [.int 1, .ref (a 1), .long 24576]) : Z p l e R s m args below meth c D A 5 Q 0 0 (mw cy a S) [(0, .ref (a 0))] 0 [] := by
  refine z_aload_n b dX12_packs_0 rfl rfl ?_
  refine z_get (q0 := 0) (k9 := 5) (v := .int (fi S 0)) b (mw_0 cy a S) rfl in_X12 (by decide) wf_X12_157 rfl dX12_packs_1 ?_
  refine z_eqi h_i_0 ?_
  refine z_i2l (v := 0) b dX12_packs_4 (by decide) ?_
  refine z_lstore_n (lv' := [(1, .long 0), (0, .ref (a 0))]) b dX12_packs_5 rfl (by decide) rfl ?_
  refine z_iconst (v := 0) b dX12_packs_6 (by decide) ?_
  refine z_istore_n (lv' := [(3, .int 0), (1, .long 0), (0, .ref (a 0))]) b dX12_packs_7 rfl (by decide) rfl ?_
  refine z_iload_n b dX12_packs_8 rfl rfl ?_
  refine z_iconst (v := 3) b dX12_packs_9 (by decide) ?_
  refine z_icmp_ge_f (tgt := 134) b dX12_packs_10 (by decide) (by decide) ?_
  refine z_lload_n b dX12_packs_13 rfl rfl ?_
  refine z_iconst (v := 4) b dX12_packs_14 (by decide) ?_
  refine z_lshl (v := 0) b dX12_packs_15 (by decide) ?_
  refine z_aload_n b dX12_packs_16 rfl rfl ?_
  refine z_get (q0 := 0) (k9 := 0) (v := .ref (a 1)) b (mw_0 cy a S) rfl in_X12 (by decide) wf_X12_13 rfl dX12_packs_17 ?_
  refine z_iload_n b dX12_packs_20 rfl rfl ?_
  refine y_iald (q0 := 1) (j := 0) (v := (ar S 0 0)) b (mw_1 cy a S) (by decide) rfl dX12_packs_21 ?_
  refine z_eqi h_a_0_0 ?_
  refine z_i2l (v := 0) b dX12_packs_22 (by decide) ?_
  refine z_lor (v := 0) b dX12_packs_23 (by decide) ?_
  refine z_lstore_n (lv' := [(1, .long 0), (3, .int 0), (0, .ref (a 0))]) b dX12_packs_24 rfl (by decide) rfl ?_
  refine z_lload_n b dX12_packs_25 rfl rfl ?_
  refine z_iconst (v := 2) b dX12_packs_26 (by decide) ?_
  refine z_lshl (v := 0) b dX12_packs_27 (by decide) ?_
  refine z_aload_n b dX12_packs_28 rfl rfl ?_
  refine z_get (q0 := 0) (k9 := 2) (v := .ref (a 3)) b (mw_0 cy a S) rfl in_X12 (by decide) wf_X12_20 rfl dX12_packs_29 ?_
  refine z_iload_n b dX12_packs_32 rfl rfl ?_
  refine y_iald (q0 := 3) (j := 0) (v := (ar S 2 0)) b (mw_3 cy a S) (by decide) rfl dX12_packs_33 ?_
  refine z_eqi h_a_2_0 ?_
  refine z_i2l (v := 3) b dX12_packs_34 (by decide) ?_
  refine z_lor (v := 3) b dX12_packs_35 (by decide) ?_
  refine z_lstore_n (lv' := [(1, .long 3), (3, .int 0), (0, .ref (a 0))]) b dX12_packs_36 rfl (by decide) rfl ?_
  refine z_lload_n b dX12_packs_37 rfl rfl ?_
  refine z_iconst (v := 1) b dX12_packs_38 (by decide) ?_
  refine z_lshl (v := 6) b dX12_packs_39 (by decide) ?_
  refine z_aload_n b dX12_packs_40 rfl rfl ?_
  refine z_get (q0 := 0) (k9 := 3) (v := .ref (a 4)) b (mw_0 cy a S) rfl in_X12 (by decide) wf_X12_23 rfl dX12_packs_41 ?_
  refine z_iconst (v := 3) b dX12_packs_44 (by decide) ?_
  refine z_iload_n b dX12_packs_45 rfl rfl ?_
  refine z_imul (v := 0) b dX12_packs_46 (by decide) ?_
  refine z_iload_n b dX12_packs_47 rfl rfl ?_
  refine z_iconst (v := 0) b dX12_packs_48 (by decide) ?_
  refine z_calli b (z_runS (As := [.int 0, .int 0]) (st := [.int 0, .ref (a 4), .long 6]) b (c_X12_other_6 S ) cf_X12_other wm_X12_160 ws_X12_other dX12_packs_49 rfl (Nat.le_of_ble_eq_true rfl) ⟨by decide, by decide, by decide, by decide⟩) (fun r1843 u1844 h1842 => ?_)
  obtain ⟨rfl, rfl⟩ := h1842
  refine z_iadd (v := 1) b dX12_packs_52 (by decide) ?_
  refine y_zald (q0 := 4) (j := 1) (v := (ar S 3 1)) b (mw_4 cy a S) (by decide) rfl dX12_packs_53 ?_
  refine z_eqi h_a_3_1 ?_
  refine z_if_eq_t (tgt := 61) b dX12_packs_54 (by decide) (by decide) ?_
  refine z_lconst (v := 0) b dX12_packs_61 (by decide) ?_
  refine z_lor (v := 6) b dX12_packs_62 (by decide) ?_
  refine z_lstore_n (lv' := [(1, .long 6), (3, .int 0), (0, .ref (a 0))]) b dX12_packs_63 rfl (by decide) rfl ?_
  refine z_iconst (v := 0) b dX12_packs_64 (by decide) ?_
  refine z_istore (lv' := [(4, .int 0), (1, .long 6), (3, .int 0), (0, .ref (a 0))]) b dX12_packs_65 (by decide) rfl ?_
  refine z_iload b dX12_packs_67 rfl ?_
  refine z_iconst (v := 2) b dX12_packs_69 (by decide) ?_
  refine z_icmp_ge_f (tgt := 128) b dX12_packs_70 (by decide) (by decide) ?_
  refine z_lload_n b dX12_packs_73 rfl rfl ?_
  refine z_iconst (v := 3) b dX12_packs_74 (by decide) ?_
  refine z_lshl (v := 48) b dX12_packs_75 (by decide) ?_
  refine z_aload_n b dX12_packs_76 rfl rfl ?_
  refine z_get (q0 := 0) (k9 := 1) (v := .ref (a 2)) b (mw_0 cy a S) rfl in_X12 (by decide) wf_X12_17 rfl dX12_packs_77 ?_
  refine z_iconst (v := 3) b dX12_packs_80 (by decide) ?_
  refine z_iload_n b dX12_packs_81 rfl rfl ?_
  refine z_imul (v := 0) b dX12_packs_82 (by decide) ?_
  refine z_iload_n b dX12_packs_83 rfl rfl ?_
  refine z_iload b dX12_packs_84 rfl ?_
  refine z_calli b (z_runS (As := [.int 0, .int 0]) (st := [.int 0, .ref (a 2), .long 48]) b (c_X12_other_6 S ) cf_X12_other wm_X12_160 ws_X12_other dX12_packs_86 rfl (Nat.le_of_ble_eq_true rfl) ⟨by decide, by decide, by decide, by decide⟩) (fun r1846 u1847 h1845 => ?_)
  obtain ⟨rfl, rfl⟩ := h1845
  refine z_iadd (v := 1) b dX12_packs_89 (by decide) ?_
  refine y_iald (q0 := 2) (j := 1) (v := (ar S 1 1)) b (mw_2 cy a S) (by decide) rfl dX12_packs_90 ?_
  refine z_eqi h_a_1_1 ?_
  refine z_i2l (v := 0) b dX12_packs_91 (by decide) ?_
  refine z_lor (v := 48) b dX12_packs_92 (by decide) ?_
  refine z_lstore_n (lv' := [(1, .long 48), (4, .int 0), (3, .int 0), (0, .ref (a 0))]) b dX12_packs_93 rfl (by decide) rfl ?_
  refine z_lload_n b dX12_packs_94 rfl rfl ?_
  refine z_iconst (v := 1) b dX12_packs_95 (by decide) ?_
  refine z_lshl (v := 96) b dX12_packs_96 (by decide) ?_
  refine z_aload_n b dX12_packs_97 rfl rfl ?_
  refine z_get (q0 := 0) (k9 := 4) (v := .ref (a 5)) b (mw_0 cy a S) rfl in_X12 (by decide) wf_X12_27 rfl dX12_packs_98 ?_
  refine z_iconst (v := 3) b dX12_packs_101 (by decide) ?_
  refine z_iload_n b dX12_packs_102 rfl rfl ?_
  refine z_imul (v := 0) b dX12_packs_103 (by decide) ?_
  refine z_iload_n b dX12_packs_104 rfl rfl ?_
  refine z_iload b dX12_packs_105 rfl ?_
  refine z_calli b (z_runS (As := [.int 0, .int 0]) (st := [.int 0, .ref (a 5), .long 96]) b (c_X12_other_6 S ) cf_X12_other wm_X12_160 ws_X12_other dX12_packs_107 rfl (Nat.le_of_ble_eq_true rfl) ⟨by decide, by decide, by decide, by decide⟩) (fun r1849 u1850 h1848 => ?_)
  obtain ⟨rfl, rfl⟩ := h1848
  refine z_iadd (v := 1) b dX12_packs_110 (by decide) ?_
  refine y_zald (q0 := 5) (j := 1) (v := (ar S 4 1)) b (mw_5 cy a S) (by decide) rfl dX12_packs_111 ?_
  refine z_eqi h_a_4_1 ?_
  refine z_if_eq_t (tgt := 119) b dX12_packs_112 (by decide) (by decide) ?_
  refine z_lconst (v := 0) b dX12_packs_119 (by decide) ?_
  refine z_lor (v := 96) b dX12_packs_120 (by decide) ?_
  refine z_lstore_n (lv' := [(1, .long 96), (4, .int 0), (3, .int 0), (0, .ref (a 0))]) b dX12_packs_121 rfl (by decide) rfl ?_
  refine z_iinc (k9 := 1) (v := 1) (lv' := [(4, .int 1), (1, .long 96), (3, .int 0), (0, .ref (a 0))]) b dX12_packs_122 rfl (by decide) (by decide) rfl ?_
  refine z_goto (tgt := 67) b dX12_packs_125 (by decide) ?_
  refine z_iload b dX12_packs_67 rfl ?_
  refine z_iconst (v := 2) b dX12_packs_69 (by decide) ?_
  refine z_icmp_ge_f (tgt := 128) b dX12_packs_70 (by decide) (by decide) ?_
  refine z_lload_n b dX12_packs_73 rfl rfl ?_
  refine z_iconst (v := 3) b dX12_packs_74 (by decide) ?_
  refine z_lshl (v := 768) b dX12_packs_75 (by decide) ?_
  refine z_aload_n b dX12_packs_76 rfl rfl ?_
  refine z_get (q0 := 0) (k9 := 1) (v := .ref (a 2)) b (mw_0 cy a S) rfl in_X12 (by decide) wf_X12_17 rfl dX12_packs_77 ?_
  refine z_iconst (v := 3) b dX12_packs_80 (by decide) ?_
  refine z_iload_n b dX12_packs_81 rfl rfl ?_
  refine z_imul (v := 0) b dX12_packs_82 (by decide) ?_
  refine z_iload_n b dX12_packs_83 rfl rfl ?_
  refine z_iload b dX12_packs_84 rfl ?_
  refine z_calli b (z_runS (As := [.int 0, .int 1]) (st := [.int 0, .ref (a 2), .long 768]) b (c_X12_other_5 S ) cf_X12_other wm_X12_160 ws_X12_other dX12_packs_86 rfl (Nat.le_of_ble_eq_true rfl) ⟨by decide, by decide, by decide, by decide⟩) (fun r1852 u1853 h1851 => ?_)
  obtain ⟨rfl, rfl⟩ := h1851
  refine z_iadd (v := 2) b dX12_packs_89 (by decide) ?_
  refine y_iald (q0 := 2) (j := 2) (v := (ar S 1 2)) b (mw_2 cy a S) (by decide) rfl dX12_packs_90 ?_
  refine z_eqi h_a_1_2 ?_
  refine z_i2l (v := 0) b dX12_packs_91 (by decide) ?_
  refine z_lor (v := 768) b dX12_packs_92 (by decide) ?_
  refine z_lstore_n (lv' := [(1, .long 768), (4, .int 1), (3, .int 0), (0, .ref (a 0))]) b dX12_packs_93 rfl (by decide) rfl ?_
  refine z_lload_n b dX12_packs_94 rfl rfl ?_
  refine z_iconst (v := 1) b dX12_packs_95 (by decide) ?_
  refine z_lshl (v := 1536) b dX12_packs_96 (by decide) ?_
  refine z_aload_n b dX12_packs_97 rfl rfl ?_
  refine z_get (q0 := 0) (k9 := 4) (v := .ref (a 5)) b (mw_0 cy a S) rfl in_X12 (by decide) wf_X12_27 rfl dX12_packs_98 ?_
  refine z_iconst (v := 3) b dX12_packs_101 (by decide) ?_
  refine z_iload_n b dX12_packs_102 rfl rfl ?_
  refine z_imul (v := 0) b dX12_packs_103 (by decide) ?_
  refine z_iload_n b dX12_packs_104 rfl rfl ?_
  refine z_iload b dX12_packs_105 rfl ?_
  refine z_calli b (z_runS (As := [.int 0, .int 1]) (st := [.int 0, .ref (a 5), .long 1536]) b (c_X12_other_5 S ) cf_X12_other wm_X12_160 ws_X12_other dX12_packs_107 rfl (Nat.le_of_ble_eq_true rfl) ⟨by decide, by decide, by decide, by decide⟩) (fun r1855 u1856 h1854 => ?_)
  obtain ⟨rfl, rfl⟩ := h1854
  refine z_iadd (v := 2) b dX12_packs_110 (by decide) ?_
  refine y_zald (q0 := 5) (j := 2) (v := (ar S 4 2)) b (mw_5 cy a S) (by decide) rfl dX12_packs_111 ?_
  refine z_eqi h_a_4_2 ?_
  refine z_if_eq_t (tgt := 119) b dX12_packs_112 (by decide) (by decide) ?_
  refine z_lconst (v := 0) b dX12_packs_119 (by decide) ?_
  refine z_lor (v := 1536) b dX12_packs_120 (by decide) ?_
  refine z_lstore_n (lv' := [(1, .long 1536), (4, .int 1), (3, .int 0), (0, .ref (a 0))]) b dX12_packs_121 rfl (by decide) rfl ?_
  refine z_iinc (k9 := 1) (v := 2) (lv' := [(4, .int 2), (1, .long 1536), (3, .int 0), (0, .ref (a 0))]) b dX12_packs_122 rfl (by decide) (by decide) rfl ?_
  refine z_goto (tgt := 67) b dX12_packs_125 (by decide) ?_
  refine z_iload b dX12_packs_67 rfl ?_
  refine z_iconst (v := 2) b dX12_packs_69 (by decide) ?_
  refine z_icmp_ge_t (tgt := 128) b dX12_packs_70 (by decide) (by decide) ?_
  refine z_iinc (k9 := 2) (v := 1) (lv' := [(3, .int 1), (4, .int 2), (1, .long 1536), (0, .ref (a 0))]) b dX12_packs_128 rfl (by decide) (by decide) rfl ?_
  refine z_goto (tgt := 8) b dX12_packs_131 (by decide) ?_
  refine z_iload_n b dX12_packs_8 rfl rfl ?_
  refine z_iconst (v := 3) b dX12_packs_9 (by decide) ?_
  refine z_icmp_ge_f (tgt := 134) b dX12_packs_10 (by decide) (by decide) ?_
  refine z_lload_n b dX12_packs_13 rfl rfl ?_
  refine z_iconst (v := 4) b dX12_packs_14 (by decide) ?_
  refine z_lshl (v := 24576) b dX12_packs_15 (by decide) ?_
  refine z_aload_n b dX12_packs_16 rfl rfl ?_
  refine z_get (q0 := 0) (k9 := 0) (v := .ref (a 1)) b (mw_0 cy a S) rfl in_X12 (by decide) wf_X12_13 rfl dX12_packs_17 ?_
  refine z_iload_n b dX12_packs_20 rfl rfl ?_
  exact k

set_option maxHeartbeats 4000000 in
set_option maxRecDepth 100000 in
theorem ch_X12_packs_31 {p : Program} {l : Launch} {e : Env} {R : Room} {s : State} {m : MethodId} {args : Array Value} {below : List Frame} {meth : Method} {c : Code} {D : va_G} {cy : Nat → ClassId} {T0 tB tE : Nat} {A : Nat → Prop} {Q : State → Prop} {a : Nat → Nat} (S : GS)  (h_a_0_1 : ar S 0 1 = 0) (h_a_0_2 : ar S 0 2 = 0) (h_a_1_3 : ar S 1 3 = 0) (h_a_1_5 : ar S 1 5 = 0) (h_a_2_1 : ar S 2 1 = 3) (h_a_2_2 : ar S 2 2 = 3) (h_a_3_5 : ar S 3 5 = 0) (h_a_4_3 : ar S 4 3 = 0) (h_a_4_5 : ar S 4 5 = 0) (b : Bz p R s m args meth c D cy T0 tB tE A 5 cX12_packs RX12 (some .long) "packs" 1 21 0 0) (k : Z p l e R s m args below meth c D A 5 Q 0 0 (mw cy a S) [(1, .long 3221323779), (3, .int 2), (4, .int 2), (0, .ref (a 0))] 37 []) : Z p l e R s m args below meth c D A 5 Q 0 0 (mw cy a S) [(3, .int 1), (4, .int 2), (1, .long 1536), (0, .ref (a 0))] 21 [.int 1, .ref (a 1), .long 24576] := by
  refine y_iald (q0 := 1) (j := 1) (v := (ar S 0 1)) b (mw_1 cy a S) (by decide) rfl dX12_packs_21 ?_
  refine z_eqi h_a_0_1 ?_
  refine z_i2l (v := 0) b dX12_packs_22 (by decide) ?_
  refine z_lor (v := 24576) b dX12_packs_23 (by decide) ?_
  refine z_lstore_n (lv' := [(1, .long 24576), (3, .int 1), (4, .int 2), (0, .ref (a 0))]) b dX12_packs_24 rfl (by decide) rfl ?_
  refine z_lload_n b dX12_packs_25 rfl rfl ?_
  refine z_iconst (v := 2) b dX12_packs_26 (by decide) ?_
  refine z_lshl (v := 98304) b dX12_packs_27 (by decide) ?_
  refine z_aload_n b dX12_packs_28 rfl rfl ?_
  refine z_get (q0 := 0) (k9 := 2) (v := .ref (a 3)) b (mw_0 cy a S) rfl in_X12 (by decide) wf_X12_20 rfl dX12_packs_29 ?_
  refine z_iload_n b dX12_packs_32 rfl rfl ?_
  refine y_iald (q0 := 3) (j := 1) (v := (ar S 2 1)) b (mw_3 cy a S) (by decide) rfl dX12_packs_33 ?_
  refine z_eqi h_a_2_1 ?_
  refine z_i2l (v := 3) b dX12_packs_34 (by decide) ?_
  refine z_lor (v := 98307) b dX12_packs_35 (by decide) ?_
  refine z_lstore_n (lv' := [(1, .long 98307), (3, .int 1), (4, .int 2), (0, .ref (a 0))]) b dX12_packs_36 rfl (by decide) rfl ?_
  refine z_lload_n b dX12_packs_37 rfl rfl ?_
  refine z_iconst (v := 1) b dX12_packs_38 (by decide) ?_
  refine z_lshl (v := 196614) b dX12_packs_39 (by decide) ?_
  refine z_aload_n b dX12_packs_40 rfl rfl ?_
  refine z_get (q0 := 0) (k9 := 3) (v := .ref (a 4)) b (mw_0 cy a S) rfl in_X12 (by decide) wf_X12_23 rfl dX12_packs_41 ?_
  refine z_iconst (v := 3) b dX12_packs_44 (by decide) ?_
  refine z_iload_n b dX12_packs_45 rfl rfl ?_
  refine z_imul (v := 3) b dX12_packs_46 (by decide) ?_
  refine z_iload_n b dX12_packs_47 rfl rfl ?_
  refine z_iconst (v := 0) b dX12_packs_48 (by decide) ?_
  refine z_calli b (z_runS (As := [.int 1, .int 0]) (st := [.int 3, .ref (a 4), .long 196614]) b (c_X12_other_4 S ) cf_X12_other wm_X12_160 ws_X12_other dX12_packs_49 rfl (Nat.le_of_ble_eq_true rfl) ⟨by decide, by decide, by decide, by decide⟩) (fun r1858 u1859 h1857 => ?_)
  obtain ⟨rfl, rfl⟩ := h1857
  refine z_iadd (v := 5) b dX12_packs_52 (by decide) ?_
  refine y_zald (q0 := 4) (j := 5) (v := (ar S 3 5)) b (mw_4 cy a S) (by decide) rfl dX12_packs_53 ?_
  refine z_eqi h_a_3_5 ?_
  refine z_if_eq_t (tgt := 61) b dX12_packs_54 (by decide) (by decide) ?_
  refine z_lconst (v := 0) b dX12_packs_61 (by decide) ?_
  refine z_lor (v := 196614) b dX12_packs_62 (by decide) ?_
  refine z_lstore_n (lv' := [(1, .long 196614), (3, .int 1), (4, .int 2), (0, .ref (a 0))]) b dX12_packs_63 rfl (by decide) rfl ?_
  refine z_iconst (v := 0) b dX12_packs_64 (by decide) ?_
  refine z_istore (lv' := [(4, .int 0), (1, .long 196614), (3, .int 1), (0, .ref (a 0))]) b dX12_packs_65 (by decide) rfl ?_
  refine z_iload b dX12_packs_67 rfl ?_
  refine z_iconst (v := 2) b dX12_packs_69 (by decide) ?_
  refine z_icmp_ge_f (tgt := 128) b dX12_packs_70 (by decide) (by decide) ?_
  refine z_lload_n b dX12_packs_73 rfl rfl ?_
  refine z_iconst (v := 3) b dX12_packs_74 (by decide) ?_
  refine z_lshl (v := 1572912) b dX12_packs_75 (by decide) ?_
  refine z_aload_n b dX12_packs_76 rfl rfl ?_
  refine z_get (q0 := 0) (k9 := 1) (v := .ref (a 2)) b (mw_0 cy a S) rfl in_X12 (by decide) wf_X12_17 rfl dX12_packs_77 ?_
  refine z_iconst (v := 3) b dX12_packs_80 (by decide) ?_
  refine z_iload_n b dX12_packs_81 rfl rfl ?_
  refine z_imul (v := 3) b dX12_packs_82 (by decide) ?_
  refine z_iload_n b dX12_packs_83 rfl rfl ?_
  refine z_iload b dX12_packs_84 rfl ?_
  refine z_calli b (z_runS (As := [.int 1, .int 0]) (st := [.int 3, .ref (a 2), .long 1572912]) b (c_X12_other_4 S ) cf_X12_other wm_X12_160 ws_X12_other dX12_packs_86 rfl (Nat.le_of_ble_eq_true rfl) ⟨by decide, by decide, by decide, by decide⟩) (fun r1861 u1862 h1860 => ?_)
  obtain ⟨rfl, rfl⟩ := h1860
  refine z_iadd (v := 5) b dX12_packs_89 (by decide) ?_
  refine y_iald (q0 := 2) (j := 5) (v := (ar S 1 5)) b (mw_2 cy a S) (by decide) rfl dX12_packs_90 ?_
  refine z_eqi h_a_1_5 ?_
  refine z_i2l (v := 0) b dX12_packs_91 (by decide) ?_
  refine z_lor (v := 1572912) b dX12_packs_92 (by decide) ?_
  refine z_lstore_n (lv' := [(1, .long 1572912), (4, .int 0), (3, .int 1), (0, .ref (a 0))]) b dX12_packs_93 rfl (by decide) rfl ?_
  refine z_lload_n b dX12_packs_94 rfl rfl ?_
  refine z_iconst (v := 1) b dX12_packs_95 (by decide) ?_
  refine z_lshl (v := 3145824) b dX12_packs_96 (by decide) ?_
  refine z_aload_n b dX12_packs_97 rfl rfl ?_
  refine z_get (q0 := 0) (k9 := 4) (v := .ref (a 5)) b (mw_0 cy a S) rfl in_X12 (by decide) wf_X12_27 rfl dX12_packs_98 ?_
  refine z_iconst (v := 3) b dX12_packs_101 (by decide) ?_
  refine z_iload_n b dX12_packs_102 rfl rfl ?_
  refine z_imul (v := 3) b dX12_packs_103 (by decide) ?_
  refine z_iload_n b dX12_packs_104 rfl rfl ?_
  refine z_iload b dX12_packs_105 rfl ?_
  refine z_calli b (z_runS (As := [.int 1, .int 0]) (st := [.int 3, .ref (a 5), .long 3145824]) b (c_X12_other_4 S ) cf_X12_other wm_X12_160 ws_X12_other dX12_packs_107 rfl (Nat.le_of_ble_eq_true rfl) ⟨by decide, by decide, by decide, by decide⟩) (fun r1864 u1865 h1863 => ?_)
  obtain ⟨rfl, rfl⟩ := h1863
  refine z_iadd (v := 5) b dX12_packs_110 (by decide) ?_
  refine y_zald (q0 := 5) (j := 5) (v := (ar S 4 5)) b (mw_5 cy a S) (by decide) rfl dX12_packs_111 ?_
  refine z_eqi h_a_4_5 ?_
  refine z_if_eq_t (tgt := 119) b dX12_packs_112 (by decide) (by decide) ?_
  refine z_lconst (v := 0) b dX12_packs_119 (by decide) ?_
  refine z_lor (v := 3145824) b dX12_packs_120 (by decide) ?_
  refine z_lstore_n (lv' := [(1, .long 3145824), (4, .int 0), (3, .int 1), (0, .ref (a 0))]) b dX12_packs_121 rfl (by decide) rfl ?_
  refine z_iinc (k9 := 1) (v := 1) (lv' := [(4, .int 1), (1, .long 3145824), (3, .int 1), (0, .ref (a 0))]) b dX12_packs_122 rfl (by decide) (by decide) rfl ?_
  refine z_goto (tgt := 67) b dX12_packs_125 (by decide) ?_
  refine z_iload b dX12_packs_67 rfl ?_
  refine z_iconst (v := 2) b dX12_packs_69 (by decide) ?_
  refine z_icmp_ge_f (tgt := 128) b dX12_packs_70 (by decide) (by decide) ?_
  refine z_lload_n b dX12_packs_73 rfl rfl ?_
  refine z_iconst (v := 3) b dX12_packs_74 (by decide) ?_
  refine z_lshl (v := 25166592) b dX12_packs_75 (by decide) ?_
  refine z_aload_n b dX12_packs_76 rfl rfl ?_
  refine z_get (q0 := 0) (k9 := 1) (v := .ref (a 2)) b (mw_0 cy a S) rfl in_X12 (by decide) wf_X12_17 rfl dX12_packs_77 ?_
  refine z_iconst (v := 3) b dX12_packs_80 (by decide) ?_
  refine z_iload_n b dX12_packs_81 rfl rfl ?_
  refine z_imul (v := 3) b dX12_packs_82 (by decide) ?_
  refine z_iload_n b dX12_packs_83 rfl rfl ?_
  refine z_iload b dX12_packs_84 rfl ?_
  refine z_calli b (z_runS (As := [.int 1, .int 1]) (st := [.int 3, .ref (a 2), .long 25166592]) b (c_X12_other_3 S ) cf_X12_other wm_X12_160 ws_X12_other dX12_packs_86 rfl (Nat.le_of_ble_eq_true rfl) ⟨by decide, by decide, by decide, by decide⟩) (fun r1867 u1868 h1866 => ?_)
  obtain ⟨rfl, rfl⟩ := h1866
  refine z_iadd (v := 3) b dX12_packs_89 (by decide) ?_
  refine y_iald (q0 := 2) (j := 3) (v := (ar S 1 3)) b (mw_2 cy a S) (by decide) rfl dX12_packs_90 ?_
  refine z_eqi h_a_1_3 ?_
  refine z_i2l (v := 0) b dX12_packs_91 (by decide) ?_
  refine z_lor (v := 25166592) b dX12_packs_92 (by decide) ?_
  refine z_lstore_n (lv' := [(1, .long 25166592), (4, .int 1), (3, .int 1), (0, .ref (a 0))]) b dX12_packs_93 rfl (by decide) rfl ?_
  refine z_lload_n b dX12_packs_94 rfl rfl ?_
  refine z_iconst (v := 1) b dX12_packs_95 (by decide) ?_
  refine z_lshl (v := 50333184) b dX12_packs_96 (by decide) ?_
  refine z_aload_n b dX12_packs_97 rfl rfl ?_
  refine z_get (q0 := 0) (k9 := 4) (v := .ref (a 5)) b (mw_0 cy a S) rfl in_X12 (by decide) wf_X12_27 rfl dX12_packs_98 ?_
  refine z_iconst (v := 3) b dX12_packs_101 (by decide) ?_
  refine z_iload_n b dX12_packs_102 rfl rfl ?_
  refine z_imul (v := 3) b dX12_packs_103 (by decide) ?_
  refine z_iload_n b dX12_packs_104 rfl rfl ?_
  refine z_iload b dX12_packs_105 rfl ?_
  refine z_calli b (z_runS (As := [.int 1, .int 1]) (st := [.int 3, .ref (a 5), .long 50333184]) b (c_X12_other_3 S ) cf_X12_other wm_X12_160 ws_X12_other dX12_packs_107 rfl (Nat.le_of_ble_eq_true rfl) ⟨by decide, by decide, by decide, by decide⟩) (fun r1870 u1871 h1869 => ?_)
  obtain ⟨rfl, rfl⟩ := h1869
  refine z_iadd (v := 3) b dX12_packs_110 (by decide) ?_
  refine y_zald (q0 := 5) (j := 3) (v := (ar S 4 3)) b (mw_5 cy a S) (by decide) rfl dX12_packs_111 ?_
  refine z_eqi h_a_4_3 ?_
  refine z_if_eq_t (tgt := 119) b dX12_packs_112 (by decide) (by decide) ?_
  refine z_lconst (v := 0) b dX12_packs_119 (by decide) ?_
  refine z_lor (v := 50333184) b dX12_packs_120 (by decide) ?_
  refine z_lstore_n (lv' := [(1, .long 50333184), (4, .int 1), (3, .int 1), (0, .ref (a 0))]) b dX12_packs_121 rfl (by decide) rfl ?_
  refine z_iinc (k9 := 1) (v := 2) (lv' := [(4, .int 2), (1, .long 50333184), (3, .int 1), (0, .ref (a 0))]) b dX12_packs_122 rfl (by decide) (by decide) rfl ?_
  refine z_goto (tgt := 67) b dX12_packs_125 (by decide) ?_
  refine z_iload b dX12_packs_67 rfl ?_
  refine z_iconst (v := 2) b dX12_packs_69 (by decide) ?_
  refine z_icmp_ge_t (tgt := 128) b dX12_packs_70 (by decide) (by decide) ?_
  refine z_iinc (k9 := 2) (v := 2) (lv' := [(3, .int 2), (4, .int 2), (1, .long 50333184), (0, .ref (a 0))]) b dX12_packs_128 rfl (by decide) (by decide) rfl ?_
  refine z_goto (tgt := 8) b dX12_packs_131 (by decide) ?_
  refine z_iload_n b dX12_packs_8 rfl rfl ?_
  refine z_iconst (v := 3) b dX12_packs_9 (by decide) ?_
  refine z_icmp_ge_f (tgt := 134) b dX12_packs_10 (by decide) (by decide) ?_
  refine z_lload_n b dX12_packs_13 rfl rfl ?_
  refine z_iconst (v := 4) b dX12_packs_14 (by decide) ?_
  refine z_lshl (v := 805330944) b dX12_packs_15 (by decide) ?_
  refine z_aload_n b dX12_packs_16 rfl rfl ?_
  refine z_get (q0 := 0) (k9 := 0) (v := .ref (a 1)) b (mw_0 cy a S) rfl in_X12 (by decide) wf_X12_13 rfl dX12_packs_17 ?_
  refine z_iload_n b dX12_packs_20 rfl rfl ?_
  refine y_iald (q0 := 1) (j := 2) (v := (ar S 0 2)) b (mw_1 cy a S) (by decide) rfl dX12_packs_21 ?_
  refine z_eqi h_a_0_2 ?_
  refine z_i2l (v := 0) b dX12_packs_22 (by decide) ?_
  refine z_lor (v := 805330944) b dX12_packs_23 (by decide) ?_
  refine z_lstore_n (lv' := [(1, .long 805330944), (3, .int 2), (4, .int 2), (0, .ref (a 0))]) b dX12_packs_24 rfl (by decide) rfl ?_
  refine z_lload_n b dX12_packs_25 rfl rfl ?_
  refine z_iconst (v := 2) b dX12_packs_26 (by decide) ?_
  refine z_lshl (v := 3221323776) b dX12_packs_27 (by decide) ?_
  refine z_aload_n b dX12_packs_28 rfl rfl ?_
  refine z_get (q0 := 0) (k9 := 2) (v := .ref (a 3)) b (mw_0 cy a S) rfl in_X12 (by decide) wf_X12_20 rfl dX12_packs_29 ?_
  refine z_iload_n b dX12_packs_32 rfl rfl ?_
  refine y_iald (q0 := 3) (j := 2) (v := (ar S 2 2)) b (mw_3 cy a S) (by decide) rfl dX12_packs_33 ?_
  refine z_eqi h_a_2_2 ?_
  refine z_i2l (v := 3) b dX12_packs_34 (by decide) ?_
  refine z_lor (v := 3221323779) b dX12_packs_35 (by decide) ?_
  refine z_lstore_n (lv' := [(1, .long 3221323779), (3, .int 2), (4, .int 2), (0, .ref (a 0))]) b dX12_packs_36 rfl (by decide) rfl ?_
  exact k

set_option maxHeartbeats 4000000 in
set_option maxRecDepth 100000 in
theorem c_X12_packs_14 {l : Launch} {D : va_G} {cy : Nat → ClassId} {T0 tB tE : Nat} {a : Nat → Nat} (S : GS)  (h_i_0 : fi S 0 = 0) (h_a_0_0 : ar S 0 0 = 0) (h_a_2_0 : ar S 2 0 = 3) (h_a_3_1 : ar S 3 1 = 0) (h_a_1_1 : ar S 1 1 = 0) (h_a_4_1 : ar S 4 1 = 0) (h_a_1_2 : ar S 1 2 = 0) (h_a_4_2 : ar S 4 2 = 0) (h_a_0_1 : ar S 0 1 = 0) (h_a_2_1 : ar S 2 1 = 3) (h_a_3_5 : ar S 3 5 = 0) (h_a_1_5 : ar S 1 5 = 0) (h_a_4_5 : ar S 4 5 = 0) (h_a_1_3 : ar S 1 3 = 0) (h_a_4_3 : ar S 4 3 = 0) (h_a_0_2 : ar S 0 2 = 0) (h_a_2_2 : ar S 2 2 = 3) (h_a_3_6 : ar S 3 6 = 0) (h_a_1_6 : ar S 1 6 = 0) (h_a_4_6 : ar S 4 6 = 0) (h_a_1_7 : ar S 1 7 = 0) (h_a_4_7 : ar S 4 7 = 0) : Ct l D cy T0 tB tE yX12_packs cX12_packs 5 (some .long) 1 21 0 0 (mw cy a S) [.ref (a 0)] (QL D (U := GS) (fun r u => 1649317774848 = r ∧ S = u) (mw cy a)) := by
  refine Ct.ofZ RX12 "packs" [(0, .ref (a 0))] rfl rfl rfl rfl (Nat.le_of_ble_eq_true rfl) ?_
  intro p e R s m args below meth c A b
  refine ch_X12_packs_30 S  h_a_0_0 h_a_1_1 h_a_1_2 h_a_2_0 h_a_3_1 h_a_4_1 h_a_4_2 h_i_0  b ?_
  refine ch_X12_packs_31 S  h_a_0_1 h_a_0_2 h_a_1_3 h_a_1_5 h_a_2_1 h_a_2_2 h_a_3_5 h_a_4_3 h_a_4_5  b ?_
  refine z_lload_n b dX12_packs_37 rfl rfl ?_
  refine z_iconst (v := 1) b dX12_packs_38 (by decide) ?_
  refine z_lshl (v := 6442647558) b dX12_packs_39 (by decide) ?_
  refine z_aload_n b dX12_packs_40 rfl rfl ?_
  refine z_get (q0 := 0) (k9 := 3) (v := .ref (a 4)) b (mw_0 cy a S) rfl in_X12 (by decide) wf_X12_23 rfl dX12_packs_41 ?_
  refine z_iconst (v := 3) b dX12_packs_44 (by decide) ?_
  refine z_iload_n b dX12_packs_45 rfl rfl ?_
  refine z_imul (v := 6) b dX12_packs_46 (by decide) ?_
  refine z_iload_n b dX12_packs_47 rfl rfl ?_
  refine z_iconst (v := 0) b dX12_packs_48 (by decide) ?_
  refine z_calli b (z_runS (As := [.int 2, .int 0]) (st := [.int 6, .ref (a 4), .long 6442647558]) b (c_X12_other_2 S ) cf_X12_other wm_X12_160 ws_X12_other dX12_packs_49 rfl (Nat.le_of_ble_eq_true rfl) ⟨by decide, by decide, by decide, by decide⟩) (fun r1873 u1874 h1872 => ?_)
  obtain ⟨rfl, rfl⟩ := h1872
  refine z_iadd (v := 6) b dX12_packs_52 (by decide) ?_
  refine y_zald (q0 := 4) (j := 6) (v := (ar S 3 6)) b (mw_4 cy a S) (by decide) rfl dX12_packs_53 ?_
  refine z_eqi h_a_3_6 ?_
  refine z_if_eq_t (tgt := 61) b dX12_packs_54 (by decide) (by decide) ?_
  refine z_lconst (v := 0) b dX12_packs_61 (by decide) ?_
  refine z_lor (v := 6442647558) b dX12_packs_62 (by decide) ?_
  refine z_lstore_n (lv' := [(1, .long 6442647558), (3, .int 2), (4, .int 2), (0, .ref (a 0))]) b dX12_packs_63 rfl (by decide) rfl ?_
  refine z_iconst (v := 0) b dX12_packs_64 (by decide) ?_
  refine z_istore (lv' := [(4, .int 0), (1, .long 6442647558), (3, .int 2), (0, .ref (a 0))]) b dX12_packs_65 (by decide) rfl ?_
  refine z_iload b dX12_packs_67 rfl ?_
  refine z_iconst (v := 2) b dX12_packs_69 (by decide) ?_
  refine z_icmp_ge_f (tgt := 128) b dX12_packs_70 (by decide) (by decide) ?_
  refine z_lload_n b dX12_packs_73 rfl rfl ?_
  refine z_iconst (v := 3) b dX12_packs_74 (by decide) ?_
  refine z_lshl (v := 51541180464) b dX12_packs_75 (by decide) ?_
  refine z_aload_n b dX12_packs_76 rfl rfl ?_
  refine z_get (q0 := 0) (k9 := 1) (v := .ref (a 2)) b (mw_0 cy a S) rfl in_X12 (by decide) wf_X12_17 rfl dX12_packs_77 ?_
  refine z_iconst (v := 3) b dX12_packs_80 (by decide) ?_
  refine z_iload_n b dX12_packs_81 rfl rfl ?_
  refine z_imul (v := 6) b dX12_packs_82 (by decide) ?_
  refine z_iload_n b dX12_packs_83 rfl rfl ?_
  refine z_iload b dX12_packs_84 rfl ?_
  refine z_calli b (z_runS (As := [.int 2, .int 0]) (st := [.int 6, .ref (a 2), .long 51541180464]) b (c_X12_other_2 S ) cf_X12_other wm_X12_160 ws_X12_other dX12_packs_86 rfl (Nat.le_of_ble_eq_true rfl) ⟨by decide, by decide, by decide, by decide⟩) (fun r1876 u1877 h1875 => ?_)
  obtain ⟨rfl, rfl⟩ := h1875
  refine z_iadd (v := 6) b dX12_packs_89 (by decide) ?_
  refine y_iald (q0 := 2) (j := 6) (v := (ar S 1 6)) b (mw_2 cy a S) (by decide) rfl dX12_packs_90 ?_
  refine z_eqi h_a_1_6 ?_
  refine z_i2l (v := 0) b dX12_packs_91 (by decide) ?_
  refine z_lor (v := 51541180464) b dX12_packs_92 (by decide) ?_
  refine z_lstore_n (lv' := [(1, .long 51541180464), (4, .int 0), (3, .int 2), (0, .ref (a 0))]) b dX12_packs_93 rfl (by decide) rfl ?_
  refine z_lload_n b dX12_packs_94 rfl rfl ?_
  refine z_iconst (v := 1) b dX12_packs_95 (by decide) ?_
  refine z_lshl (v := 103082360928) b dX12_packs_96 (by decide) ?_
  refine z_aload_n b dX12_packs_97 rfl rfl ?_
  refine z_get (q0 := 0) (k9 := 4) (v := .ref (a 5)) b (mw_0 cy a S) rfl in_X12 (by decide) wf_X12_27 rfl dX12_packs_98 ?_
  refine z_iconst (v := 3) b dX12_packs_101 (by decide) ?_
  refine z_iload_n b dX12_packs_102 rfl rfl ?_
  refine z_imul (v := 6) b dX12_packs_103 (by decide) ?_
  refine z_iload_n b dX12_packs_104 rfl rfl ?_
  refine z_iload b dX12_packs_105 rfl ?_
  refine z_calli b (z_runS (As := [.int 2, .int 0]) (st := [.int 6, .ref (a 5), .long 103082360928]) b (c_X12_other_2 S ) cf_X12_other wm_X12_160 ws_X12_other dX12_packs_107 rfl (Nat.le_of_ble_eq_true rfl) ⟨by decide, by decide, by decide, by decide⟩) (fun r1879 u1880 h1878 => ?_)
  obtain ⟨rfl, rfl⟩ := h1878
  refine z_iadd (v := 6) b dX12_packs_110 (by decide) ?_
  refine y_zald (q0 := 5) (j := 6) (v := (ar S 4 6)) b (mw_5 cy a S) (by decide) rfl dX12_packs_111 ?_
  refine z_eqi h_a_4_6 ?_
  refine z_if_eq_t (tgt := 119) b dX12_packs_112 (by decide) (by decide) ?_
  refine z_lconst (v := 0) b dX12_packs_119 (by decide) ?_
  refine z_lor (v := 103082360928) b dX12_packs_120 (by decide) ?_
  refine z_lstore_n (lv' := [(1, .long 103082360928), (4, .int 0), (3, .int 2), (0, .ref (a 0))]) b dX12_packs_121 rfl (by decide) rfl ?_
  refine z_iinc (k9 := 1) (v := 1) (lv' := [(4, .int 1), (1, .long 103082360928), (3, .int 2), (0, .ref (a 0))]) b dX12_packs_122 rfl (by decide) (by decide) rfl ?_
  refine z_goto (tgt := 67) b dX12_packs_125 (by decide) ?_
  refine z_iload b dX12_packs_67 rfl ?_
  refine z_iconst (v := 2) b dX12_packs_69 (by decide) ?_
  refine z_icmp_ge_f (tgt := 128) b dX12_packs_70 (by decide) (by decide) ?_
  refine z_lload_n b dX12_packs_73 rfl rfl ?_
  refine z_iconst (v := 3) b dX12_packs_74 (by decide) ?_
  refine z_lshl (v := 824658887424) b dX12_packs_75 (by decide) ?_
  refine z_aload_n b dX12_packs_76 rfl rfl ?_
  refine z_get (q0 := 0) (k9 := 1) (v := .ref (a 2)) b (mw_0 cy a S) rfl in_X12 (by decide) wf_X12_17 rfl dX12_packs_77 ?_
  refine z_iconst (v := 3) b dX12_packs_80 (by decide) ?_
  refine z_iload_n b dX12_packs_81 rfl rfl ?_
  refine z_imul (v := 6) b dX12_packs_82 (by decide) ?_
  refine z_iload_n b dX12_packs_83 rfl rfl ?_
  refine z_iload b dX12_packs_84 rfl ?_
  refine z_calli b (z_runS (As := [.int 2, .int 1]) (st := [.int 6, .ref (a 2), .long 824658887424]) b (c_X12_other S ) cf_X12_other wm_X12_160 ws_X12_other dX12_packs_86 rfl (Nat.le_of_ble_eq_true rfl) ⟨by decide, by decide, by decide, by decide⟩) (fun r1882 u1883 h1881 => ?_)
  obtain ⟨rfl, rfl⟩ := h1881
  refine z_iadd (v := 7) b dX12_packs_89 (by decide) ?_
  refine y_iald (q0 := 2) (j := 7) (v := (ar S 1 7)) b (mw_2 cy a S) (by decide) rfl dX12_packs_90 ?_
  refine z_eqi h_a_1_7 ?_
  refine z_i2l (v := 0) b dX12_packs_91 (by decide) ?_
  refine z_lor (v := 824658887424) b dX12_packs_92 (by decide) ?_
  refine z_lstore_n (lv' := [(1, .long 824658887424), (4, .int 1), (3, .int 2), (0, .ref (a 0))]) b dX12_packs_93 rfl (by decide) rfl ?_
  refine z_lload_n b dX12_packs_94 rfl rfl ?_
  refine z_iconst (v := 1) b dX12_packs_95 (by decide) ?_
  refine z_lshl (v := 1649317774848) b dX12_packs_96 (by decide) ?_
  refine z_aload_n b dX12_packs_97 rfl rfl ?_
  refine z_get (q0 := 0) (k9 := 4) (v := .ref (a 5)) b (mw_0 cy a S) rfl in_X12 (by decide) wf_X12_27 rfl dX12_packs_98 ?_
  refine z_iconst (v := 3) b dX12_packs_101 (by decide) ?_
  refine z_iload_n b dX12_packs_102 rfl rfl ?_
  refine z_imul (v := 6) b dX12_packs_103 (by decide) ?_
  refine z_iload_n b dX12_packs_104 rfl rfl ?_
  refine z_iload b dX12_packs_105 rfl ?_
  refine z_calli b (z_runS (As := [.int 2, .int 1]) (st := [.int 6, .ref (a 5), .long 1649317774848]) b (c_X12_other S ) cf_X12_other wm_X12_160 ws_X12_other dX12_packs_107 rfl (Nat.le_of_ble_eq_true rfl) ⟨by decide, by decide, by decide, by decide⟩) (fun r1885 u1886 h1884 => ?_)
  obtain ⟨rfl, rfl⟩ := h1884
  refine z_iadd (v := 7) b dX12_packs_110 (by decide) ?_
  refine y_zald (q0 := 5) (j := 7) (v := (ar S 4 7)) b (mw_5 cy a S) (by decide) rfl dX12_packs_111 ?_
  refine z_eqi h_a_4_7 ?_
  refine z_if_eq_t (tgt := 119) b dX12_packs_112 (by decide) (by decide) ?_
  refine z_lconst (v := 0) b dX12_packs_119 (by decide) ?_
  refine z_lor (v := 1649317774848) b dX12_packs_120 (by decide) ?_
  refine z_lstore_n (lv' := [(1, .long 1649317774848), (4, .int 1), (3, .int 2), (0, .ref (a 0))]) b dX12_packs_121 rfl (by decide) rfl ?_
  refine z_iinc (k9 := 1) (v := 2) (lv' := [(4, .int 2), (1, .long 1649317774848), (3, .int 2), (0, .ref (a 0))]) b dX12_packs_122 rfl (by decide) (by decide) rfl ?_
  refine z_goto (tgt := 67) b dX12_packs_125 (by decide) ?_
  refine z_iload b dX12_packs_67 rfl ?_
  refine z_iconst (v := 2) b dX12_packs_69 (by decide) ?_
  refine z_icmp_ge_t (tgt := 128) b dX12_packs_70 (by decide) (by decide) ?_
  refine z_iinc (k9 := 2) (v := 3) (lv' := [(3, .int 3), (4, .int 2), (1, .long 1649317774848), (0, .ref (a 0))]) b dX12_packs_128 rfl (by decide) (by decide) rfl ?_
  refine z_goto (tgt := 8) b dX12_packs_131 (by decide) ?_
  refine z_iload_n b dX12_packs_8 rfl rfl ?_
  refine z_iconst (v := 3) b dX12_packs_9 (by decide) ?_
  refine z_icmp_ge_t (tgt := 134) b dX12_packs_10 (by decide) (by decide) ?_
  refine z_lload_n b dX12_packs_134 rfl rfl ?_
  exact z_lret (u := S) b rfl dX12_packs_135 ⟨rfl, rfl⟩ rfl (by decide) (by decide)

set_option maxHeartbeats 4000000 in
set_option maxRecDepth 100000 in
theorem c_X12_told_14 {l : Launch} {D : va_G} {cy : Nat → ClassId} {T0 tB tE : Nat} {a : Nat → Nat} (S : GS)  (h_i_0 : fi S 0 = 0) (h_a_0_0 : ar S 0 0 = 0) (h_a_2_0 : ar S 2 0 = 3) (h_a_3_1 : ar S 3 1 = 0) (h_a_1_1 : ar S 1 1 = 0) (h_a_4_1 : ar S 4 1 = 0) (h_a_1_2 : ar S 1 2 = 0) (h_a_4_2 : ar S 4 2 = 0) (h_a_0_1 : ar S 0 1 = 0) (h_a_2_1 : ar S 2 1 = 3) (h_a_3_5 : ar S 3 5 = 0) (h_a_1_5 : ar S 1 5 = 0) (h_a_4_5 : ar S 4 5 = 0) (h_a_1_3 : ar S 1 3 = 0) (h_a_4_3 : ar S 4 3 = 0) (h_a_0_2 : ar S 0 2 = 0) (h_a_2_2 : ar S 2 2 = 3) (h_a_3_6 : ar S 3 6 = 0) (h_a_1_6 : ar S 1 6 = 0) (h_a_4_6 : ar S 4 6 = 0) (h_a_1_7 : ar S 1 7 = 0) (h_a_4_7 : ar S 4 7 = 0) (h_l_0 : fl S 0 = 1649317774848) : Ct l D cy T0 tB tE yX12_told cX12_told 1 (some .boolean) 2 45 0 0 (mw cy a S) [.ref (a 0)] (QI D (U := GS) (fun r u => 1 = r ∧ S = u) (mw cy a)) := by
  refine Ct.ofZ RX12 "told" [(0, .ref (a 0))] rfl rfl rfl rfl (Nat.le_of_ble_eq_true rfl) ?_
  intro p e R s m args below meth c A b
  refine z_aload_n b dX12_told_0 rfl rfl ?_
  refine z_aload_n b dX12_told_1 rfl rfl ?_
  refine z_calll b (z_runV (q0 := 0) (As := []) (st := [.ref (a 0)]) b (c_X12_packs_14 S h_i_0 h_a_0_0 h_a_2_0 h_a_3_1 h_a_1_1 h_a_4_1 h_a_1_2 h_a_4_2 h_a_0_1 h_a_2_1 h_a_3_5 h_a_1_5 h_a_4_5 h_a_1_3 h_a_4_3 h_a_0_2 h_a_2_2 h_a_3_6 h_a_1_6 h_a_4_6 h_a_1_7 h_a_4_7) cf_X12_packs (mw_0 cy a S) rfl wm_X12_149 wi_X12_packs ws_X12_packs dX12_told_2 rfl (Nat.le_of_ble_eq_true rfl) ⟨by decide, by decide, by decide, by decide⟩) (fun r1888 u1889 h1887 => ?_)
  obtain ⟨rfl, rfl⟩ := h1887
  refine z_put (q0 := 0) (k9 := 6) tyX12 b (mw_0 cy a S) rfl in_X12 tyX12_ok nmX12 (by decide) wf_X12_153 rfl rfl rfl rfl (Nat.le_of_ble_eq_true rfl) dX12_told_5 ((mwp_0_6 cy a S 1649317774848).trans (congrArg (mw cy a) (sl_same h_l_0))) ?_
  refine z_iconst (v := 1) b dX12_told_8 (by decide) ?_
  exact z_zret (u := S) b rfl (by decide) dX12_told_9 ⟨rfl, rfl⟩ rfl (by decide) (by decide)

set_option maxHeartbeats 4000000 in
set_option maxRecDepth 100000 in
theorem c_X12_kin_25 {l : Launch} {D : va_G} {cy : Nat → ClassId} {T0 tB tE : Nat} {a : Nat → Nat} (S : GS)  (h_l_0 : fl S 0 = 1649317774848) (h_a_4_7 : ar S 4 7 = 0) (h_a_1_7 : ar S 1 7 = 0) (h_a_4_6 : ar S 4 6 = 0) (h_a_1_6 : ar S 1 6 = 0) (h_a_3_6 : ar S 3 6 = 0) (h_a_3_2 : ar S 3 2 = 0) (h_a_2_2 : ar S 2 2 = 3) (h_a_0_2 : ar S 0 2 = 0) (h_a_4_3 : ar S 4 3 = 0) (h_a_1_3 : ar S 1 3 = 0) (h_a_4_5 : ar S 4 5 = 0) (h_a_1_5 : ar S 1 5 = 0) (h_a_3_5 : ar S 3 5 = 0) (h_a_3_7 : ar S 3 7 = 0) (h_a_2_1 : ar S 2 1 = 3) (h_a_0_1 : ar S 0 1 = 0) (h_a_4_2 : ar S 4 2 = 0) (h_a_1_2 : ar S 1 2 = 0) (h_a_4_1 : ar S 4 1 = 0) (h_a_1_1 : ar S 1 1 = 0) (h_a_3_1 : ar S 3 1 = 0) (h_a_3_3 : ar S 3 3 = 0) (h_a_2_0 : ar S 2 0 = 3) (h_a_0_0 : ar S 0 0 = 0) (h_i_0 : fi S 0 = 0) : Ct l D cy T0 tB tE yX12_kin cX12_kin 5 (some .boolean) 3 65 0 0 (mw cy a S) [.ref (a 0), .int 0, .int 1, .int 0, .int 0] (QI D (U := GS) (fun r u => 1 = r ∧ S = u) (mw cy a)) := by
  refine Ct.ofZ RX12 "kin" [(0, .ref (a 0)), (1, .int 0), (2, .int 1), (3, .int 0), (4, .int 0)] rfl rfl rfl rfl (Nat.le_of_ble_eq_true rfl) ?_
  intro p e R s m args below meth c A b
  refine z_iload_n b dX12_kin_0 rfl rfl ?_
  refine z_calli b (z_runS (As := [.int 0]) (st := []) b (c_X12_isOne_3 S ) cf_X12_isOne wm_X12_170 ws_X12_isOne dX12_kin_1 rfl (Nat.le_of_ble_eq_true rfl) ⟨by decide, by decide, by decide, by decide⟩) (fun r1831 u1832 h1830 => ?_)
  obtain ⟨rfl, rfl⟩ := h1830
  refine z_if_eq_f (tgt := 28) b dX12_kin_4 (by decide) (by decide) ?_
  refine z_iload_n b dX12_kin_7 rfl rfl ?_
  refine z_calli b (z_runS (As := [.int 1]) (st := []) b (c_X12_isOne_4 S ) cf_X12_isOne wm_X12_170 ws_X12_isOne dX12_kin_8 rfl (Nat.le_of_ble_eq_true rfl) ⟨by decide, by decide, by decide, by decide⟩) (fun r1834 u1835 h1833 => ?_)
  obtain ⟨rfl, rfl⟩ := h1833
  refine z_if_eq_f (tgt := 28) b dX12_kin_11 (by decide) (by decide) ?_
  refine z_iload_n b dX12_kin_14 rfl rfl ?_
  refine z_iload_n b dX12_kin_15 rfl rfl ?_
  refine z_icmp_eq_f (tgt := 28) b dX12_kin_16 (by decide) (by decide) ?_
  refine z_iload_n b dX12_kin_19 rfl rfl ?_
  refine z_iconst (v := 0) b dX12_kin_20 (by decide) ?_
  refine z_iconst (v := 1) b dX12_kin_21 (by decide) ?_
  refine z_calli b (z_runS (As := [.int 0, .int 0, .int 1]) (st := []) b (c_X12_isIn_16 S ) cf_X12_isIn wm_X12_1 ws_X12_isIn dX12_kin_22 rfl (Nat.le_of_ble_eq_true rfl) ⟨by decide, by decide, by decide, by decide⟩) (fun r1837 u1838 h1836 => ?_)
  obtain ⟨rfl, rfl⟩ := h1836
  refine z_if_ne_t (tgt := 30) b dX12_kin_25 (by decide) (by decide) ?_
  refine z_aload_n b dX12_kin_30 rfl rfl ?_
  refine z_aload_n b dX12_kin_31 rfl rfl ?_
  refine z_get (q0 := 0) (k9 := 6) (v := .long (fl S 0)) b (mw_0 cy a S) rfl in_X12 (by decide) wf_X12_153 rfl dX12_kin_32 ?_
  refine z_eql h_l_0 ?_
  refine z_callv b (z_runV (q0 := 0) (As := [.long 1649317774848]) (st := []) b (c_X12_takes S h_a_4_7 h_a_1_7 h_a_4_6 h_a_1_6 h_a_3_6 h_a_3_2 h_a_2_2 h_a_0_2 h_a_4_3 h_a_1_3 h_a_4_5 h_a_1_5 h_a_3_5 h_a_3_7 h_a_2_1 h_a_0_1 h_a_4_2 h_a_1_2 h_a_4_1 h_a_1_1 h_a_3_1 h_a_3_3 h_a_2_0 h_a_0_0 h_i_0) cf_X12_takes (mw_0 cy a S) rfl wm_X12_174 wi_X12_takes ws_X12_takes dX12_kin_35 rfl (Nat.le_of_ble_eq_true rfl) ⟨by decide, by decide, by decide, by decide⟩) (fun u1841 h1839 => ?_)
  obtain rfl := h1839
  refine z_iload_n b dX12_kin_38 rfl rfl ?_
  refine z_iconst (v := 1) b dX12_kin_39 (by decide) ?_
  refine z_icmp_ne_t (tgt := 58) b dX12_kin_40 (by decide) (by decide) ?_
  refine z_aload_n b dX12_kin_58 rfl rfl ?_
  refine z_get (q0 := 0) (k9 := 3) (v := .ref (a 4)) b (mw_0 cy a S) rfl in_X12 (by decide) wf_X12_23 rfl dX12_kin_59 ?_
  refine z_iconst (v := 3) b dX12_kin_62 (by decide) ?_
  refine z_iload_n b dX12_kin_63 rfl rfl ?_
  refine z_imul (v := 0) b dX12_kin_64 (by decide) ?_
  refine z_iload_n b dX12_kin_65 rfl rfl ?_
  refine z_iadd (v := 1) b dX12_kin_66 (by decide) ?_
  refine z_iload b dX12_kin_67 rfl ?_
  refine y_zast (q0 := 4) (j := 1) b (mw_4 cy a S) (by decide) (by decide) dX12_kin_69 ((mwa_4 cy a S 1 0).trans (congrArg (mw cy a) (su_same h_a_3_1))) ?_
  refine z_aload_n b dX12_kin_70 rfl rfl ?_
  refine z_get (q0 := 0) (k9 := 3) (v := .ref (a 4)) b (mw_0 cy a S) rfl in_X12 (by decide) wf_X12_23 rfl dX12_kin_71 ?_
  refine z_iconst (v := 3) b dX12_kin_74 (by decide) ?_
  refine z_iload_n b dX12_kin_75 rfl rfl ?_
  refine z_imul (v := 3) b dX12_kin_76 (by decide) ?_
  refine z_iload_n b dX12_kin_77 rfl rfl ?_
  refine z_iadd (v := 3) b dX12_kin_78 (by decide) ?_
  refine z_iload b dX12_kin_79 rfl ?_
  refine y_zast (q0 := 4) (j := 3) b (mw_4 cy a S) (by decide) (by decide) dX12_kin_81 ((mwa_4 cy a S 3 0).trans (congrArg (mw cy a) (su_same h_a_3_3))) ?_
  refine z_aload_n b dX12_kin_82 rfl rfl ?_
  refine z_calli b (z_runV (q0 := 0) (As := []) (st := []) b (c_X12_told_14 S h_i_0 h_a_0_0 h_a_2_0 h_a_3_1 h_a_1_1 h_a_4_1 h_a_1_2 h_a_4_2 h_a_0_1 h_a_2_1 h_a_3_5 h_a_1_5 h_a_4_5 h_a_1_3 h_a_4_3 h_a_0_2 h_a_2_2 h_a_3_6 h_a_1_6 h_a_4_6 h_a_1_7 h_a_4_7 h_l_0) cf_X12_told (mw_0 cy a S) rfl wm_X12_178 wi_X12_told ws_X12_told dX12_kin_83 rfl (Nat.le_of_ble_eq_true rfl) ⟨by decide, by decide, by decide, by decide⟩) (fun r1891 u1892 h1890 => ?_)
  obtain ⟨rfl, rfl⟩ := h1890
  exact z_zret (u := S) b rfl (by decide) dX12_kin_86 ⟨rfl, rfl⟩ rfl (by decide) (by decide)

set_option maxHeartbeats 4000000 in
set_option maxRecDepth 100000 in
theorem c_X9_set_16 {l : Launch} {D : va_G} {cy : Nat → ClassId} {T0 tB tE : Nat} {a : Nat → Nat} {rw : Nat → Option Nat} (S : GS)   : Ct l D cy T0 tB tE yX9_set cX9_set 3 none 0 0 0 0 (cw cy tE a rw S) [.ref (a 14), .int 21, .int 1] (QV D (U := GS) (fun u => su S 4 21 1 = u) (cw cy tE a rw)) := by
  refine Ct.ofZ RX9 "set" [(0, .ref (a 14)), (1, .int 21), (2, .int 1)] rfl rfl rfl rfl (Nat.le_of_ble_eq_true rfl) ?_
  intro p e R s m args below meth c A b
  refine z_iload_n b dX9_set_0 rfl rfl ?_
  refine z_if_lt_f (tgt := 20) b dX9_set_1 (by decide) (by decide) ?_
  refine z_iload_n b dX9_set_4 rfl rfl ?_
  refine z_aload_n b dX9_set_5 rfl rfl ?_
  refine z_get (q0 := 14) (k9 := 0) (v := .ref (a 15)) b (cw_14 cy tE a rw S) rfl in_X9 (by decide) wf_X9_11 rfl dX9_set_6 ?_
  refine z_alen (q0 := 15) (t0 := 0) (v := 51) b (cw_15 cy tE a rw S) rfl rfl dX9_set_9 ?_
  refine z_icmp_ge_f (tgt := 20) b dX9_set_10 (by decide) (by decide) ?_
  refine z_aload_n b dX9_set_13 rfl rfl ?_
  refine z_get (q0 := 14) (k9 := 0) (v := .ref (a 15)) b (cw_14 cy tE a rw S) rfl in_X9 (by decide) wf_X9_11 rfl dX9_set_14 ?_
  refine z_iload_n b dX9_set_17 rfl rfl ?_
  refine z_iload_n b dX9_set_18 rfl rfl ?_
  refine y_iast (q0 := 15) (j := 21) b (cw_15 cy tE a rw S) (by decide) dX9_set_19 (cwa_15 cy tE a rw S 21 1) ?_
  exact z_vret (u := (su S 4 21 1)) b rfl dX9_set_20 rfl rfl (by decide) (by decide)

set_option maxHeartbeats 4000000 in
set_option maxRecDepth 100000 in
theorem c_X9_set_17 {l : Launch} {D : va_G} {cy : Nat → ClassId} {T0 tB tE : Nat} {a : Nat → Nat} {rw : Nat → Option Nat} (S : GS)   : Ct l D cy T0 tB tE yX9_set cX9_set 3 none 0 0 0 0 (cw cy tE a rw S) [.ref (a 14), .int 23, .int 1] (QV D (U := GS) (fun u => su S 4 23 1 = u) (cw cy tE a rw)) := by
  refine Ct.ofZ RX9 "set" [(0, .ref (a 14)), (1, .int 23), (2, .int 1)] rfl rfl rfl rfl (Nat.le_of_ble_eq_true rfl) ?_
  intro p e R s m args below meth c A b
  refine z_iload_n b dX9_set_0 rfl rfl ?_
  refine z_if_lt_f (tgt := 20) b dX9_set_1 (by decide) (by decide) ?_
  refine z_iload_n b dX9_set_4 rfl rfl ?_
  refine z_aload_n b dX9_set_5 rfl rfl ?_
  refine z_get (q0 := 14) (k9 := 0) (v := .ref (a 15)) b (cw_14 cy tE a rw S) rfl in_X9 (by decide) wf_X9_11 rfl dX9_set_6 ?_
  refine z_alen (q0 := 15) (t0 := 0) (v := 51) b (cw_15 cy tE a rw S) rfl rfl dX9_set_9 ?_
  refine z_icmp_ge_f (tgt := 20) b dX9_set_10 (by decide) (by decide) ?_
  refine z_aload_n b dX9_set_13 rfl rfl ?_
  refine z_get (q0 := 14) (k9 := 0) (v := .ref (a 15)) b (cw_14 cy tE a rw S) rfl in_X9 (by decide) wf_X9_11 rfl dX9_set_14 ?_
  refine z_iload_n b dX9_set_17 rfl rfl ?_
  refine z_iload_n b dX9_set_18 rfl rfl ?_
  refine y_iast (q0 := 15) (j := 23) b (cw_15 cy tE a rw S) (by decide) dX9_set_19 (cwa_15 cy tE a rw S 23 1) ?_
  exact z_vret (u := (su S 4 23 1)) b rfl dX9_set_20 rfl rfl (by decide) (by decide)

set_option maxHeartbeats 4000000 in
set_option maxRecDepth 100000 in
theorem c_X11_kin_26 {l : Launch} {D : va_G} {cy : Nat → ClassId} {T0 tB tE : Nat} {a : Nat → Nat} {rw : Nat → Option Nat} (S : GS)  (h_i_24 : fi S 24 = 0) : Ct l D cy T0 tB tE yX11_kin cX11_kin 6 (some .boolean) 2 41 0 0 (cw cy tE a rw S) [.ref (a 0), .int 0, .int 1, .int 0, .int 1] (QI D (U := GS) (fun r u => 1 = r ∧ (su (su S 4 21 1) 4 23 1) = u) (cw cy tE a rw)) := by
  refine Ct.ofZ RX11 "kin" [(0, .ref (a 0)), (1, .int 0), (2, .int 1), (3, .int 0), (4, .int 1)] rfl rfl rfl rfl (Nat.le_of_ble_eq_true rfl) ?_
  intro p e R s m args below meth c A b
  refine z_iload_n b dX11_kin_0 rfl rfl ?_
  refine z_iload_n b dX11_kin_1 rfl rfl ?_
  refine z_calli b (z_runS (As := [.int 0, .int 1]) (st := []) b (c_X11_arePair_12 S ) cf_X11_arePair wm_X11_84 ws_X11_arePair dX11_kin_2 rfl (Nat.le_of_ble_eq_true rfl) ⟨by decide, by decide, by decide, by decide⟩) (fun r1894 u1895 h1893 => ?_)
  obtain ⟨rfl, rfl⟩ := h1893
  refine z_if_eq_f (tgt := 16) b dX11_kin_5 (by decide) (by decide) ?_
  refine z_iload_n b dX11_kin_8 rfl rfl ?_
  refine z_iconst (v := 1) b dX11_kin_9 (by decide) ?_
  refine z_calli b (z_runS (As := [.int 0, .int 1]) (st := []) b (c_X11_isWithin_11 S ) cf_X11_isWithin wm_X11_73 ws_X11_isWithin dX11_kin_10 rfl (Nat.le_of_ble_eq_true rfl) ⟨by decide, by decide, by decide, by decide⟩) (fun r1897 u1898 h1896 => ?_)
  obtain ⟨rfl, rfl⟩ := h1896
  refine z_if_ne_t (tgt := 18) b dX11_kin_13 (by decide) (by decide) ?_
  refine z_iload b dX11_kin_18 rfl ?_
  refine z_if_eq_f (tgt := 27) b dX11_kin_20 (by decide) (by decide) ?_
  refine z_iconst (v := 1) b dX11_kin_23 (by decide) ?_
  refine z_goto (tgt := 28) b dX11_kin_24 (by decide) ?_
  refine z_istore (lv' := [(5, .int 1), (0, .ref (a 0)), (1, .int 0), (2, .int 1), (3, .int 0), (4, .int 1)]) b dX11_kin_28 (by decide) rfl ?_
  refine z_iload_n b dX11_kin_30 rfl rfl ?_
  refine z_if_ne_f (tgt := 71) b dX11_kin_31 (by decide) (by decide) ?_
  refine z_aload_n b dX11_kin_34 rfl rfl ?_
  refine z_get (q0 := 0) (k9 := 4) (v := .ref (a 14)) b (cw_0 cy tE a rw S) rfl in_X11 (by decide) wf_X11_34 rfl dX11_kin_35 ?_
  refine z_bipush (v := 20) b dX11_kin_38 (by decide) ?_
  refine z_iconst (v := 3) b dX11_kin_40 (by decide) ?_
  refine z_iload_n b dX11_kin_41 rfl rfl ?_
  refine z_imul (v := 0) b dX11_kin_42 (by decide) ?_
  refine z_iadd (v := 20) b dX11_kin_43 (by decide) ?_
  refine z_iload_n b dX11_kin_44 rfl rfl ?_
  refine z_iadd (v := 21) b dX11_kin_45 (by decide) ?_
  refine z_iload b dX11_kin_46 rfl ?_
  refine z_callv b (z_runV (q0 := 14) (As := [.int 21, .int 1]) (st := []) b (c_X9_set_16 S ) cf_X9_set (cw_14 cy tE a rw S) rfl wm_X11_77 wi_X9_set ws_X9_set dX11_kin_48 rfl (Nat.le_of_ble_eq_true rfl) ⟨by decide, by decide, by decide, by decide⟩) (fun u1901 h1899 => ?_)
  obtain rfl := h1899
  refine z_aload_n b dX11_kin_51 rfl rfl ?_
  refine z_get (q0 := 0) (k9 := 4) (v := .ref (a 14)) b (cw_0 cy tE a rw (su S 4 21 1)) rfl in_X11 (by decide) wf_X11_34 rfl dX11_kin_52 ?_
  refine z_bipush (v := 20) b dX11_kin_55 (by decide) ?_
  refine z_iconst (v := 3) b dX11_kin_57 (by decide) ?_
  refine z_iload_n b dX11_kin_58 rfl rfl ?_
  refine z_imul (v := 3) b dX11_kin_59 (by decide) ?_
  refine z_iadd (v := 23) b dX11_kin_60 (by decide) ?_
  refine z_iload_n b dX11_kin_61 rfl rfl ?_
  refine z_iadd (v := 23) b dX11_kin_62 (by decide) ?_
  refine z_iload b dX11_kin_63 rfl ?_
  refine z_callv b (z_runV (q0 := 14) (As := [.int 23, .int 1]) (st := []) b (c_X9_set_17 (su S 4 21 1) ) cf_X9_set (cw_14 cy tE a rw (su S 4 21 1)) rfl wm_X11_77 wi_X9_set ws_X9_set dX11_kin_65 rfl (Nat.le_of_ble_eq_true rfl) ⟨by decide, by decide, by decide, by decide⟩) (fun u1904 h1902 => ?_)
  obtain rfl := h1902
  refine z_goto (tgt := 88) b dX11_kin_68 (by decide) ?_
  refine z_aload_n b dX11_kin_88 rfl rfl ?_
  refine z_get (q0 := 0) (k9 := 6) (v := .ref (a 25)) b (cw_0 cy tE a rw (su (su S 4 21 1) 4 23 1)) rfl in_X11 (by decide) wf_X11_52 rfl dX11_kin_89 ?_
  refine z_callv b (z_runV (q0 := 25) (As := []) (st := []) b (c_X8_forget (su (su S 4 21 1) 4 23 1) h_i_24) cf_X8_forget (cw_25 cy tE a rw (su (su S 4 21 1) 4 23 1)) rfl wm_X11_81 wi_X8_forget ws_X8_forget dX11_kin_92 rfl (Nat.le_of_ble_eq_true rfl) ⟨by decide, by decide, by decide, by decide⟩) (fun u1907 h1905 => ?_)
  obtain rfl := h1905
  refine z_iconst (v := 1) b dX11_kin_95 (by decide) ?_
  exact z_zret (u := (su (su S 4 21 1) 4 23 1)) b rfl (by decide) dX11_kin_96 ⟨rfl, rfl⟩ rfl (by decide) (by decide)

set_option maxHeartbeats 4000000 in
set_option maxRecDepth 100000 in
theorem ch_X12_packs_32 {p : Program} {l : Launch} {e : Env} {R : Room} {s : State} {m : MethodId} {args : Array Value} {below : List Frame} {meth : Method} {c : Code} {D : va_G} {cy : Nat → ClassId} {T0 tB tE : Nat} {A : Nat → Prop} {Q : State → Prop} {a : Nat → Nat} (S : GS)  (h_a_0_0 : ar S 0 0 = 0) (h_a_1_1 : ar S 1 1 = 0) (h_a_1_2 : ar S 1 2 = 0) (h_a_2_0 : ar S 2 0 = 3) (h_a_3_1 : ar S 3 1 = 1) (h_a_4_1 : ar S 4 1 = 0) (h_a_4_2 : ar S 4 2 = 0) (h_i_0 : fi S 0 = 0) (b : Bz p R s m args meth c D cy T0 tB tE A 5 cX12_packs RX12 (some .long) "packs" 1 21 0 0) (k : Z p l e R s m args below meth c D A 5 Q 0 0 (mw cy a S) [(3, .int 1), (4, .int 2), (1, .long 1792), (0, .ref (a 0))] 20 [.ref (a 1), .long 28672]) : Z p l e R s m args below meth c D A 5 Q 0 0 (mw cy a S) [(0, .ref (a 0))] 0 [] := by
  refine z_aload_n b dX12_packs_0 rfl rfl ?_
  refine z_get (q0 := 0) (k9 := 5) (v := .int (fi S 0)) b (mw_0 cy a S) rfl in_X12 (by decide) wf_X12_157 rfl dX12_packs_1 ?_
  refine z_eqi h_i_0 ?_
  refine z_i2l (v := 0) b dX12_packs_4 (by decide) ?_
  refine z_lstore_n (lv' := [(1, .long 0), (0, .ref (a 0))]) b dX12_packs_5 rfl (by decide) rfl ?_
  refine z_iconst (v := 0) b dX12_packs_6 (by decide) ?_
  refine z_istore_n (lv' := [(3, .int 0), (1, .long 0), (0, .ref (a 0))]) b dX12_packs_7 rfl (by decide) rfl ?_
  refine z_iload_n b dX12_packs_8 rfl rfl ?_
  refine z_iconst (v := 3) b dX12_packs_9 (by decide) ?_
  refine z_icmp_ge_f (tgt := 134) b dX12_packs_10 (by decide) (by decide) ?_
  refine z_lload_n b dX12_packs_13 rfl rfl ?_
  refine z_iconst (v := 4) b dX12_packs_14 (by decide) ?_
  refine z_lshl (v := 0) b dX12_packs_15 (by decide) ?_
  refine z_aload_n b dX12_packs_16 rfl rfl ?_
  refine z_get (q0 := 0) (k9 := 0) (v := .ref (a 1)) b (mw_0 cy a S) rfl in_X12 (by decide) wf_X12_13 rfl dX12_packs_17 ?_
  refine z_iload_n b dX12_packs_20 rfl rfl ?_
  refine y_iald (q0 := 1) (j := 0) (v := (ar S 0 0)) b (mw_1 cy a S) (by decide) rfl dX12_packs_21 ?_
  refine z_eqi h_a_0_0 ?_
  refine z_i2l (v := 0) b dX12_packs_22 (by decide) ?_
  refine z_lor (v := 0) b dX12_packs_23 (by decide) ?_
  refine z_lstore_n (lv' := [(1, .long 0), (3, .int 0), (0, .ref (a 0))]) b dX12_packs_24 rfl (by decide) rfl ?_
  refine z_lload_n b dX12_packs_25 rfl rfl ?_
  refine z_iconst (v := 2) b dX12_packs_26 (by decide) ?_
  refine z_lshl (v := 0) b dX12_packs_27 (by decide) ?_
  refine z_aload_n b dX12_packs_28 rfl rfl ?_
  refine z_get (q0 := 0) (k9 := 2) (v := .ref (a 3)) b (mw_0 cy a S) rfl in_X12 (by decide) wf_X12_20 rfl dX12_packs_29 ?_
  refine z_iload_n b dX12_packs_32 rfl rfl ?_
  refine y_iald (q0 := 3) (j := 0) (v := (ar S 2 0)) b (mw_3 cy a S) (by decide) rfl dX12_packs_33 ?_
  refine z_eqi h_a_2_0 ?_
  refine z_i2l (v := 3) b dX12_packs_34 (by decide) ?_
  refine z_lor (v := 3) b dX12_packs_35 (by decide) ?_
  refine z_lstore_n (lv' := [(1, .long 3), (3, .int 0), (0, .ref (a 0))]) b dX12_packs_36 rfl (by decide) rfl ?_
  refine z_lload_n b dX12_packs_37 rfl rfl ?_
  refine z_iconst (v := 1) b dX12_packs_38 (by decide) ?_
  refine z_lshl (v := 6) b dX12_packs_39 (by decide) ?_
  refine z_aload_n b dX12_packs_40 rfl rfl ?_
  refine z_get (q0 := 0) (k9 := 3) (v := .ref (a 4)) b (mw_0 cy a S) rfl in_X12 (by decide) wf_X12_23 rfl dX12_packs_41 ?_
  refine z_iconst (v := 3) b dX12_packs_44 (by decide) ?_
  refine z_iload_n b dX12_packs_45 rfl rfl ?_
  refine z_imul (v := 0) b dX12_packs_46 (by decide) ?_
  refine z_iload_n b dX12_packs_47 rfl rfl ?_
  refine z_iconst (v := 0) b dX12_packs_48 (by decide) ?_
  refine z_calli b (z_runS (As := [.int 0, .int 0]) (st := [.int 0, .ref (a 4), .long 6]) b (c_X12_other_6 S ) cf_X12_other wm_X12_160 ws_X12_other dX12_packs_49 rfl (Nat.le_of_ble_eq_true rfl) ⟨by decide, by decide, by decide, by decide⟩) (fun r1921 u1922 h1920 => ?_)
  obtain ⟨rfl, rfl⟩ := h1920
  refine z_iadd (v := 1) b dX12_packs_52 (by decide) ?_
  refine y_zald (q0 := 4) (j := 1) (v := (ar S 3 1)) b (mw_4 cy a S) (by decide) rfl dX12_packs_53 ?_
  refine z_eqi h_a_3_1 ?_
  refine z_if_eq_f (tgt := 61) b dX12_packs_54 (by decide) (by decide) ?_
  refine z_lconst (v := 1) b dX12_packs_57 (by decide) ?_
  refine z_goto (tgt := 62) b dX12_packs_58 (by decide) ?_
  refine z_lor (v := 7) b dX12_packs_62 (by decide) ?_
  refine z_lstore_n (lv' := [(1, .long 7), (3, .int 0), (0, .ref (a 0))]) b dX12_packs_63 rfl (by decide) rfl ?_
  refine z_iconst (v := 0) b dX12_packs_64 (by decide) ?_
  refine z_istore (lv' := [(4, .int 0), (1, .long 7), (3, .int 0), (0, .ref (a 0))]) b dX12_packs_65 (by decide) rfl ?_
  refine z_iload b dX12_packs_67 rfl ?_
  refine z_iconst (v := 2) b dX12_packs_69 (by decide) ?_
  refine z_icmp_ge_f (tgt := 128) b dX12_packs_70 (by decide) (by decide) ?_
  refine z_lload_n b dX12_packs_73 rfl rfl ?_
  refine z_iconst (v := 3) b dX12_packs_74 (by decide) ?_
  refine z_lshl (v := 56) b dX12_packs_75 (by decide) ?_
  refine z_aload_n b dX12_packs_76 rfl rfl ?_
  refine z_get (q0 := 0) (k9 := 1) (v := .ref (a 2)) b (mw_0 cy a S) rfl in_X12 (by decide) wf_X12_17 rfl dX12_packs_77 ?_
  refine z_iconst (v := 3) b dX12_packs_80 (by decide) ?_
  refine z_iload_n b dX12_packs_81 rfl rfl ?_
  refine z_imul (v := 0) b dX12_packs_82 (by decide) ?_
  refine z_iload_n b dX12_packs_83 rfl rfl ?_
  refine z_iload b dX12_packs_84 rfl ?_
  refine z_calli b (z_runS (As := [.int 0, .int 0]) (st := [.int 0, .ref (a 2), .long 56]) b (c_X12_other_6 S ) cf_X12_other wm_X12_160 ws_X12_other dX12_packs_86 rfl (Nat.le_of_ble_eq_true rfl) ⟨by decide, by decide, by decide, by decide⟩) (fun r1924 u1925 h1923 => ?_)
  obtain ⟨rfl, rfl⟩ := h1923
  refine z_iadd (v := 1) b dX12_packs_89 (by decide) ?_
  refine y_iald (q0 := 2) (j := 1) (v := (ar S 1 1)) b (mw_2 cy a S) (by decide) rfl dX12_packs_90 ?_
  refine z_eqi h_a_1_1 ?_
  refine z_i2l (v := 0) b dX12_packs_91 (by decide) ?_
  refine z_lor (v := 56) b dX12_packs_92 (by decide) ?_
  refine z_lstore_n (lv' := [(1, .long 56), (4, .int 0), (3, .int 0), (0, .ref (a 0))]) b dX12_packs_93 rfl (by decide) rfl ?_
  refine z_lload_n b dX12_packs_94 rfl rfl ?_
  refine z_iconst (v := 1) b dX12_packs_95 (by decide) ?_
  refine z_lshl (v := 112) b dX12_packs_96 (by decide) ?_
  refine z_aload_n b dX12_packs_97 rfl rfl ?_
  refine z_get (q0 := 0) (k9 := 4) (v := .ref (a 5)) b (mw_0 cy a S) rfl in_X12 (by decide) wf_X12_27 rfl dX12_packs_98 ?_
  refine z_iconst (v := 3) b dX12_packs_101 (by decide) ?_
  refine z_iload_n b dX12_packs_102 rfl rfl ?_
  refine z_imul (v := 0) b dX12_packs_103 (by decide) ?_
  refine z_iload_n b dX12_packs_104 rfl rfl ?_
  refine z_iload b dX12_packs_105 rfl ?_
  refine z_calli b (z_runS (As := [.int 0, .int 0]) (st := [.int 0, .ref (a 5), .long 112]) b (c_X12_other_6 S ) cf_X12_other wm_X12_160 ws_X12_other dX12_packs_107 rfl (Nat.le_of_ble_eq_true rfl) ⟨by decide, by decide, by decide, by decide⟩) (fun r1927 u1928 h1926 => ?_)
  obtain ⟨rfl, rfl⟩ := h1926
  refine z_iadd (v := 1) b dX12_packs_110 (by decide) ?_
  refine y_zald (q0 := 5) (j := 1) (v := (ar S 4 1)) b (mw_5 cy a S) (by decide) rfl dX12_packs_111 ?_
  refine z_eqi h_a_4_1 ?_
  refine z_if_eq_t (tgt := 119) b dX12_packs_112 (by decide) (by decide) ?_
  refine z_lconst (v := 0) b dX12_packs_119 (by decide) ?_
  refine z_lor (v := 112) b dX12_packs_120 (by decide) ?_
  refine z_lstore_n (lv' := [(1, .long 112), (4, .int 0), (3, .int 0), (0, .ref (a 0))]) b dX12_packs_121 rfl (by decide) rfl ?_
  refine z_iinc (k9 := 1) (v := 1) (lv' := [(4, .int 1), (1, .long 112), (3, .int 0), (0, .ref (a 0))]) b dX12_packs_122 rfl (by decide) (by decide) rfl ?_
  refine z_goto (tgt := 67) b dX12_packs_125 (by decide) ?_
  refine z_iload b dX12_packs_67 rfl ?_
  refine z_iconst (v := 2) b dX12_packs_69 (by decide) ?_
  refine z_icmp_ge_f (tgt := 128) b dX12_packs_70 (by decide) (by decide) ?_
  refine z_lload_n b dX12_packs_73 rfl rfl ?_
  refine z_iconst (v := 3) b dX12_packs_74 (by decide) ?_
  refine z_lshl (v := 896) b dX12_packs_75 (by decide) ?_
  refine z_aload_n b dX12_packs_76 rfl rfl ?_
  refine z_get (q0 := 0) (k9 := 1) (v := .ref (a 2)) b (mw_0 cy a S) rfl in_X12 (by decide) wf_X12_17 rfl dX12_packs_77 ?_
  refine z_iconst (v := 3) b dX12_packs_80 (by decide) ?_
  refine z_iload_n b dX12_packs_81 rfl rfl ?_
  refine z_imul (v := 0) b dX12_packs_82 (by decide) ?_
  refine z_iload_n b dX12_packs_83 rfl rfl ?_
  refine z_iload b dX12_packs_84 rfl ?_
  refine z_calli b (z_runS (As := [.int 0, .int 1]) (st := [.int 0, .ref (a 2), .long 896]) b (c_X12_other_5 S ) cf_X12_other wm_X12_160 ws_X12_other dX12_packs_86 rfl (Nat.le_of_ble_eq_true rfl) ⟨by decide, by decide, by decide, by decide⟩) (fun r1930 u1931 h1929 => ?_)
  obtain ⟨rfl, rfl⟩ := h1929
  refine z_iadd (v := 2) b dX12_packs_89 (by decide) ?_
  refine y_iald (q0 := 2) (j := 2) (v := (ar S 1 2)) b (mw_2 cy a S) (by decide) rfl dX12_packs_90 ?_
  refine z_eqi h_a_1_2 ?_
  refine z_i2l (v := 0) b dX12_packs_91 (by decide) ?_
  refine z_lor (v := 896) b dX12_packs_92 (by decide) ?_
  refine z_lstore_n (lv' := [(1, .long 896), (4, .int 1), (3, .int 0), (0, .ref (a 0))]) b dX12_packs_93 rfl (by decide) rfl ?_
  refine z_lload_n b dX12_packs_94 rfl rfl ?_
  refine z_iconst (v := 1) b dX12_packs_95 (by decide) ?_
  refine z_lshl (v := 1792) b dX12_packs_96 (by decide) ?_
  refine z_aload_n b dX12_packs_97 rfl rfl ?_
  refine z_get (q0 := 0) (k9 := 4) (v := .ref (a 5)) b (mw_0 cy a S) rfl in_X12 (by decide) wf_X12_27 rfl dX12_packs_98 ?_
  refine z_iconst (v := 3) b dX12_packs_101 (by decide) ?_
  refine z_iload_n b dX12_packs_102 rfl rfl ?_
  refine z_imul (v := 0) b dX12_packs_103 (by decide) ?_
  refine z_iload_n b dX12_packs_104 rfl rfl ?_
  refine z_iload b dX12_packs_105 rfl ?_
  refine z_calli b (z_runS (As := [.int 0, .int 1]) (st := [.int 0, .ref (a 5), .long 1792]) b (c_X12_other_5 S ) cf_X12_other wm_X12_160 ws_X12_other dX12_packs_107 rfl (Nat.le_of_ble_eq_true rfl) ⟨by decide, by decide, by decide, by decide⟩) (fun r1933 u1934 h1932 => ?_)
  obtain ⟨rfl, rfl⟩ := h1932
  refine z_iadd (v := 2) b dX12_packs_110 (by decide) ?_
  refine y_zald (q0 := 5) (j := 2) (v := (ar S 4 2)) b (mw_5 cy a S) (by decide) rfl dX12_packs_111 ?_
  refine z_eqi h_a_4_2 ?_
  refine z_if_eq_t (tgt := 119) b dX12_packs_112 (by decide) (by decide) ?_
  refine z_lconst (v := 0) b dX12_packs_119 (by decide) ?_
  refine z_lor (v := 1792) b dX12_packs_120 (by decide) ?_
  refine z_lstore_n (lv' := [(1, .long 1792), (4, .int 1), (3, .int 0), (0, .ref (a 0))]) b dX12_packs_121 rfl (by decide) rfl ?_
  refine z_iinc (k9 := 1) (v := 2) (lv' := [(4, .int 2), (1, .long 1792), (3, .int 0), (0, .ref (a 0))]) b dX12_packs_122 rfl (by decide) (by decide) rfl ?_
  refine z_goto (tgt := 67) b dX12_packs_125 (by decide) ?_
  refine z_iload b dX12_packs_67 rfl ?_
  refine z_iconst (v := 2) b dX12_packs_69 (by decide) ?_
  refine z_icmp_ge_t (tgt := 128) b dX12_packs_70 (by decide) (by decide) ?_
  refine z_iinc (k9 := 2) (v := 1) (lv' := [(3, .int 1), (4, .int 2), (1, .long 1792), (0, .ref (a 0))]) b dX12_packs_128 rfl (by decide) (by decide) rfl ?_
  refine z_goto (tgt := 8) b dX12_packs_131 (by decide) ?_
  refine z_iload_n b dX12_packs_8 rfl rfl ?_
  refine z_iconst (v := 3) b dX12_packs_9 (by decide) ?_
  refine z_icmp_ge_f (tgt := 134) b dX12_packs_10 (by decide) (by decide) ?_
  refine z_lload_n b dX12_packs_13 rfl rfl ?_
  refine z_iconst (v := 4) b dX12_packs_14 (by decide) ?_
  refine z_lshl (v := 28672) b dX12_packs_15 (by decide) ?_
  refine z_aload_n b dX12_packs_16 rfl rfl ?_
  refine z_get (q0 := 0) (k9 := 0) (v := .ref (a 1)) b (mw_0 cy a S) rfl in_X12 (by decide) wf_X12_13 rfl dX12_packs_17 ?_
  exact k

set_option maxHeartbeats 4000000 in
set_option maxRecDepth 100000 in
theorem ch_X12_packs_33 {p : Program} {l : Launch} {e : Env} {R : Room} {s : State} {m : MethodId} {args : Array Value} {below : List Frame} {meth : Method} {c : Code} {D : va_G} {cy : Nat → ClassId} {T0 tB tE : Nat} {A : Nat → Prop} {Q : State → Prop} {a : Nat → Nat} (S : GS)  (h_a_0_1 : ar S 0 1 = 0) (h_a_0_2 : ar S 0 2 = 0) (h_a_1_3 : ar S 1 3 = 0) (h_a_1_5 : ar S 1 5 = 0) (h_a_2_1 : ar S 2 1 = 3) (h_a_2_2 : ar S 2 2 = 3) (h_a_3_5 : ar S 3 5 = 0) (h_a_4_3 : ar S 4 3 = 0) (h_a_4_5 : ar S 4 5 = 0) (b : Bz p R s m args meth c D cy T0 tB tE A 5 cX12_packs RX12 (some .long) "packs" 1 21 0 0) (k : Z p l e R s m args below meth c D A 5 Q 0 0 (mw cy a S) [(1, .long 939548672), (3, .int 2), (4, .int 2), (0, .ref (a 0))] 36 [.long 3758194691]) : Z p l e R s m args below meth c D A 5 Q 0 0 (mw cy a S) [(3, .int 1), (4, .int 2), (1, .long 1792), (0, .ref (a 0))] 20 [.ref (a 1), .long 28672] := by
  refine z_iload_n b dX12_packs_20 rfl rfl ?_
  refine y_iald (q0 := 1) (j := 1) (v := (ar S 0 1)) b (mw_1 cy a S) (by decide) rfl dX12_packs_21 ?_
  refine z_eqi h_a_0_1 ?_
  refine z_i2l (v := 0) b dX12_packs_22 (by decide) ?_
  refine z_lor (v := 28672) b dX12_packs_23 (by decide) ?_
  refine z_lstore_n (lv' := [(1, .long 28672), (3, .int 1), (4, .int 2), (0, .ref (a 0))]) b dX12_packs_24 rfl (by decide) rfl ?_
  refine z_lload_n b dX12_packs_25 rfl rfl ?_
  refine z_iconst (v := 2) b dX12_packs_26 (by decide) ?_
  refine z_lshl (v := 114688) b dX12_packs_27 (by decide) ?_
  refine z_aload_n b dX12_packs_28 rfl rfl ?_
  refine z_get (q0 := 0) (k9 := 2) (v := .ref (a 3)) b (mw_0 cy a S) rfl in_X12 (by decide) wf_X12_20 rfl dX12_packs_29 ?_
  refine z_iload_n b dX12_packs_32 rfl rfl ?_
  refine y_iald (q0 := 3) (j := 1) (v := (ar S 2 1)) b (mw_3 cy a S) (by decide) rfl dX12_packs_33 ?_
  refine z_eqi h_a_2_1 ?_
  refine z_i2l (v := 3) b dX12_packs_34 (by decide) ?_
  refine z_lor (v := 114691) b dX12_packs_35 (by decide) ?_
  refine z_lstore_n (lv' := [(1, .long 114691), (3, .int 1), (4, .int 2), (0, .ref (a 0))]) b dX12_packs_36 rfl (by decide) rfl ?_
  refine z_lload_n b dX12_packs_37 rfl rfl ?_
  refine z_iconst (v := 1) b dX12_packs_38 (by decide) ?_
  refine z_lshl (v := 229382) b dX12_packs_39 (by decide) ?_
  refine z_aload_n b dX12_packs_40 rfl rfl ?_
  refine z_get (q0 := 0) (k9 := 3) (v := .ref (a 4)) b (mw_0 cy a S) rfl in_X12 (by decide) wf_X12_23 rfl dX12_packs_41 ?_
  refine z_iconst (v := 3) b dX12_packs_44 (by decide) ?_
  refine z_iload_n b dX12_packs_45 rfl rfl ?_
  refine z_imul (v := 3) b dX12_packs_46 (by decide) ?_
  refine z_iload_n b dX12_packs_47 rfl rfl ?_
  refine z_iconst (v := 0) b dX12_packs_48 (by decide) ?_
  refine z_calli b (z_runS (As := [.int 1, .int 0]) (st := [.int 3, .ref (a 4), .long 229382]) b (c_X12_other_4 S ) cf_X12_other wm_X12_160 ws_X12_other dX12_packs_49 rfl (Nat.le_of_ble_eq_true rfl) ⟨by decide, by decide, by decide, by decide⟩) (fun r1936 u1937 h1935 => ?_)
  obtain ⟨rfl, rfl⟩ := h1935
  refine z_iadd (v := 5) b dX12_packs_52 (by decide) ?_
  refine y_zald (q0 := 4) (j := 5) (v := (ar S 3 5)) b (mw_4 cy a S) (by decide) rfl dX12_packs_53 ?_
  refine z_eqi h_a_3_5 ?_
  refine z_if_eq_t (tgt := 61) b dX12_packs_54 (by decide) (by decide) ?_
  refine z_lconst (v := 0) b dX12_packs_61 (by decide) ?_
  refine z_lor (v := 229382) b dX12_packs_62 (by decide) ?_
  refine z_lstore_n (lv' := [(1, .long 229382), (3, .int 1), (4, .int 2), (0, .ref (a 0))]) b dX12_packs_63 rfl (by decide) rfl ?_
  refine z_iconst (v := 0) b dX12_packs_64 (by decide) ?_
  refine z_istore (lv' := [(4, .int 0), (1, .long 229382), (3, .int 1), (0, .ref (a 0))]) b dX12_packs_65 (by decide) rfl ?_
  refine z_iload b dX12_packs_67 rfl ?_
  refine z_iconst (v := 2) b dX12_packs_69 (by decide) ?_
  refine z_icmp_ge_f (tgt := 128) b dX12_packs_70 (by decide) (by decide) ?_
  refine z_lload_n b dX12_packs_73 rfl rfl ?_
  refine z_iconst (v := 3) b dX12_packs_74 (by decide) ?_
  refine z_lshl (v := 1835056) b dX12_packs_75 (by decide) ?_
  refine z_aload_n b dX12_packs_76 rfl rfl ?_
  refine z_get (q0 := 0) (k9 := 1) (v := .ref (a 2)) b (mw_0 cy a S) rfl in_X12 (by decide) wf_X12_17 rfl dX12_packs_77 ?_
  refine z_iconst (v := 3) b dX12_packs_80 (by decide) ?_
  refine z_iload_n b dX12_packs_81 rfl rfl ?_
  refine z_imul (v := 3) b dX12_packs_82 (by decide) ?_
  refine z_iload_n b dX12_packs_83 rfl rfl ?_
  refine z_iload b dX12_packs_84 rfl ?_
  refine z_calli b (z_runS (As := [.int 1, .int 0]) (st := [.int 3, .ref (a 2), .long 1835056]) b (c_X12_other_4 S ) cf_X12_other wm_X12_160 ws_X12_other dX12_packs_86 rfl (Nat.le_of_ble_eq_true rfl) ⟨by decide, by decide, by decide, by decide⟩) (fun r1939 u1940 h1938 => ?_)
  obtain ⟨rfl, rfl⟩ := h1938
  refine z_iadd (v := 5) b dX12_packs_89 (by decide) ?_
  refine y_iald (q0 := 2) (j := 5) (v := (ar S 1 5)) b (mw_2 cy a S) (by decide) rfl dX12_packs_90 ?_
  refine z_eqi h_a_1_5 ?_
  refine z_i2l (v := 0) b dX12_packs_91 (by decide) ?_
  refine z_lor (v := 1835056) b dX12_packs_92 (by decide) ?_
  refine z_lstore_n (lv' := [(1, .long 1835056), (4, .int 0), (3, .int 1), (0, .ref (a 0))]) b dX12_packs_93 rfl (by decide) rfl ?_
  refine z_lload_n b dX12_packs_94 rfl rfl ?_
  refine z_iconst (v := 1) b dX12_packs_95 (by decide) ?_
  refine z_lshl (v := 3670112) b dX12_packs_96 (by decide) ?_
  refine z_aload_n b dX12_packs_97 rfl rfl ?_
  refine z_get (q0 := 0) (k9 := 4) (v := .ref (a 5)) b (mw_0 cy a S) rfl in_X12 (by decide) wf_X12_27 rfl dX12_packs_98 ?_
  refine z_iconst (v := 3) b dX12_packs_101 (by decide) ?_
  refine z_iload_n b dX12_packs_102 rfl rfl ?_
  refine z_imul (v := 3) b dX12_packs_103 (by decide) ?_
  refine z_iload_n b dX12_packs_104 rfl rfl ?_
  refine z_iload b dX12_packs_105 rfl ?_
  refine z_calli b (z_runS (As := [.int 1, .int 0]) (st := [.int 3, .ref (a 5), .long 3670112]) b (c_X12_other_4 S ) cf_X12_other wm_X12_160 ws_X12_other dX12_packs_107 rfl (Nat.le_of_ble_eq_true rfl) ⟨by decide, by decide, by decide, by decide⟩) (fun r1942 u1943 h1941 => ?_)
  obtain ⟨rfl, rfl⟩ := h1941
  refine z_iadd (v := 5) b dX12_packs_110 (by decide) ?_
  refine y_zald (q0 := 5) (j := 5) (v := (ar S 4 5)) b (mw_5 cy a S) (by decide) rfl dX12_packs_111 ?_
  refine z_eqi h_a_4_5 ?_
  refine z_if_eq_t (tgt := 119) b dX12_packs_112 (by decide) (by decide) ?_
  refine z_lconst (v := 0) b dX12_packs_119 (by decide) ?_
  refine z_lor (v := 3670112) b dX12_packs_120 (by decide) ?_
  refine z_lstore_n (lv' := [(1, .long 3670112), (4, .int 0), (3, .int 1), (0, .ref (a 0))]) b dX12_packs_121 rfl (by decide) rfl ?_
  refine z_iinc (k9 := 1) (v := 1) (lv' := [(4, .int 1), (1, .long 3670112), (3, .int 1), (0, .ref (a 0))]) b dX12_packs_122 rfl (by decide) (by decide) rfl ?_
  refine z_goto (tgt := 67) b dX12_packs_125 (by decide) ?_
  refine z_iload b dX12_packs_67 rfl ?_
  refine z_iconst (v := 2) b dX12_packs_69 (by decide) ?_
  refine z_icmp_ge_f (tgt := 128) b dX12_packs_70 (by decide) (by decide) ?_
  refine z_lload_n b dX12_packs_73 rfl rfl ?_
  refine z_iconst (v := 3) b dX12_packs_74 (by decide) ?_
  refine z_lshl (v := 29360896) b dX12_packs_75 (by decide) ?_
  refine z_aload_n b dX12_packs_76 rfl rfl ?_
  refine z_get (q0 := 0) (k9 := 1) (v := .ref (a 2)) b (mw_0 cy a S) rfl in_X12 (by decide) wf_X12_17 rfl dX12_packs_77 ?_
  refine z_iconst (v := 3) b dX12_packs_80 (by decide) ?_
  refine z_iload_n b dX12_packs_81 rfl rfl ?_
  refine z_imul (v := 3) b dX12_packs_82 (by decide) ?_
  refine z_iload_n b dX12_packs_83 rfl rfl ?_
  refine z_iload b dX12_packs_84 rfl ?_
  refine z_calli b (z_runS (As := [.int 1, .int 1]) (st := [.int 3, .ref (a 2), .long 29360896]) b (c_X12_other_3 S ) cf_X12_other wm_X12_160 ws_X12_other dX12_packs_86 rfl (Nat.le_of_ble_eq_true rfl) ⟨by decide, by decide, by decide, by decide⟩) (fun r1945 u1946 h1944 => ?_)
  obtain ⟨rfl, rfl⟩ := h1944
  refine z_iadd (v := 3) b dX12_packs_89 (by decide) ?_
  refine y_iald (q0 := 2) (j := 3) (v := (ar S 1 3)) b (mw_2 cy a S) (by decide) rfl dX12_packs_90 ?_
  refine z_eqi h_a_1_3 ?_
  refine z_i2l (v := 0) b dX12_packs_91 (by decide) ?_
  refine z_lor (v := 29360896) b dX12_packs_92 (by decide) ?_
  refine z_lstore_n (lv' := [(1, .long 29360896), (4, .int 1), (3, .int 1), (0, .ref (a 0))]) b dX12_packs_93 rfl (by decide) rfl ?_
  refine z_lload_n b dX12_packs_94 rfl rfl ?_
  refine z_iconst (v := 1) b dX12_packs_95 (by decide) ?_
  refine z_lshl (v := 58721792) b dX12_packs_96 (by decide) ?_
  refine z_aload_n b dX12_packs_97 rfl rfl ?_
  refine z_get (q0 := 0) (k9 := 4) (v := .ref (a 5)) b (mw_0 cy a S) rfl in_X12 (by decide) wf_X12_27 rfl dX12_packs_98 ?_
  refine z_iconst (v := 3) b dX12_packs_101 (by decide) ?_
  refine z_iload_n b dX12_packs_102 rfl rfl ?_
  refine z_imul (v := 3) b dX12_packs_103 (by decide) ?_
  refine z_iload_n b dX12_packs_104 rfl rfl ?_
  refine z_iload b dX12_packs_105 rfl ?_
  refine z_calli b (z_runS (As := [.int 1, .int 1]) (st := [.int 3, .ref (a 5), .long 58721792]) b (c_X12_other_3 S ) cf_X12_other wm_X12_160 ws_X12_other dX12_packs_107 rfl (Nat.le_of_ble_eq_true rfl) ⟨by decide, by decide, by decide, by decide⟩) (fun r1948 u1949 h1947 => ?_)
  obtain ⟨rfl, rfl⟩ := h1947
  refine z_iadd (v := 3) b dX12_packs_110 (by decide) ?_
  refine y_zald (q0 := 5) (j := 3) (v := (ar S 4 3)) b (mw_5 cy a S) (by decide) rfl dX12_packs_111 ?_
  refine z_eqi h_a_4_3 ?_
  refine z_if_eq_t (tgt := 119) b dX12_packs_112 (by decide) (by decide) ?_
  refine z_lconst (v := 0) b dX12_packs_119 (by decide) ?_
  refine z_lor (v := 58721792) b dX12_packs_120 (by decide) ?_
  refine z_lstore_n (lv' := [(1, .long 58721792), (4, .int 1), (3, .int 1), (0, .ref (a 0))]) b dX12_packs_121 rfl (by decide) rfl ?_
  refine z_iinc (k9 := 1) (v := 2) (lv' := [(4, .int 2), (1, .long 58721792), (3, .int 1), (0, .ref (a 0))]) b dX12_packs_122 rfl (by decide) (by decide) rfl ?_
  refine z_goto (tgt := 67) b dX12_packs_125 (by decide) ?_
  refine z_iload b dX12_packs_67 rfl ?_
  refine z_iconst (v := 2) b dX12_packs_69 (by decide) ?_
  refine z_icmp_ge_t (tgt := 128) b dX12_packs_70 (by decide) (by decide) ?_
  refine z_iinc (k9 := 2) (v := 2) (lv' := [(3, .int 2), (4, .int 2), (1, .long 58721792), (0, .ref (a 0))]) b dX12_packs_128 rfl (by decide) (by decide) rfl ?_
  refine z_goto (tgt := 8) b dX12_packs_131 (by decide) ?_
  refine z_iload_n b dX12_packs_8 rfl rfl ?_
  refine z_iconst (v := 3) b dX12_packs_9 (by decide) ?_
  refine z_icmp_ge_f (tgt := 134) b dX12_packs_10 (by decide) (by decide) ?_
  refine z_lload_n b dX12_packs_13 rfl rfl ?_
  refine z_iconst (v := 4) b dX12_packs_14 (by decide) ?_
  refine z_lshl (v := 939548672) b dX12_packs_15 (by decide) ?_
  refine z_aload_n b dX12_packs_16 rfl rfl ?_
  refine z_get (q0 := 0) (k9 := 0) (v := .ref (a 1)) b (mw_0 cy a S) rfl in_X12 (by decide) wf_X12_13 rfl dX12_packs_17 ?_
  refine z_iload_n b dX12_packs_20 rfl rfl ?_
  refine y_iald (q0 := 1) (j := 2) (v := (ar S 0 2)) b (mw_1 cy a S) (by decide) rfl dX12_packs_21 ?_
  refine z_eqi h_a_0_2 ?_
  refine z_i2l (v := 0) b dX12_packs_22 (by decide) ?_
  refine z_lor (v := 939548672) b dX12_packs_23 (by decide) ?_
  refine z_lstore_n (lv' := [(1, .long 939548672), (3, .int 2), (4, .int 2), (0, .ref (a 0))]) b dX12_packs_24 rfl (by decide) rfl ?_
  refine z_lload_n b dX12_packs_25 rfl rfl ?_
  refine z_iconst (v := 2) b dX12_packs_26 (by decide) ?_
  refine z_lshl (v := 3758194688) b dX12_packs_27 (by decide) ?_
  refine z_aload_n b dX12_packs_28 rfl rfl ?_
  refine z_get (q0 := 0) (k9 := 2) (v := .ref (a 3)) b (mw_0 cy a S) rfl in_X12 (by decide) wf_X12_20 rfl dX12_packs_29 ?_
  refine z_iload_n b dX12_packs_32 rfl rfl ?_
  refine y_iald (q0 := 3) (j := 2) (v := (ar S 2 2)) b (mw_3 cy a S) (by decide) rfl dX12_packs_33 ?_
  refine z_eqi h_a_2_2 ?_
  refine z_i2l (v := 3) b dX12_packs_34 (by decide) ?_
  refine z_lor (v := 3758194691) b dX12_packs_35 (by decide) ?_
  exact k

set_option maxHeartbeats 4000000 in
set_option maxRecDepth 100000 in
theorem c_X12_packs_15 {l : Launch} {D : va_G} {cy : Nat → ClassId} {T0 tB tE : Nat} {a : Nat → Nat} (S : GS)  (h_i_0 : fi S 0 = 0) (h_a_0_0 : ar S 0 0 = 0) (h_a_2_0 : ar S 2 0 = 3) (h_a_3_1 : ar S 3 1 = 1) (h_a_1_1 : ar S 1 1 = 0) (h_a_4_1 : ar S 4 1 = 0) (h_a_1_2 : ar S 1 2 = 0) (h_a_4_2 : ar S 4 2 = 0) (h_a_0_1 : ar S 0 1 = 0) (h_a_2_1 : ar S 2 1 = 3) (h_a_3_5 : ar S 3 5 = 0) (h_a_1_5 : ar S 1 5 = 0) (h_a_4_5 : ar S 4 5 = 0) (h_a_1_3 : ar S 1 3 = 0) (h_a_4_3 : ar S 4 3 = 0) (h_a_0_2 : ar S 0 2 = 0) (h_a_2_2 : ar S 2 2 = 3) (h_a_3_6 : ar S 3 6 = 0) (h_a_1_6 : ar S 1 6 = 0) (h_a_4_6 : ar S 4 6 = 0) (h_a_1_7 : ar S 1 7 = 0) (h_a_4_7 : ar S 4 7 = 0) : Ct l D cy T0 tB tE yX12_packs cX12_packs 5 (some .long) 1 21 0 0 (mw cy a S) [.ref (a 0)] (QL D (U := GS) (fun r u => 1924195681792 = r ∧ S = u) (mw cy a)) := by
  refine Ct.ofZ RX12 "packs" [(0, .ref (a 0))] rfl rfl rfl rfl (Nat.le_of_ble_eq_true rfl) ?_
  intro p e R s m args below meth c A b
  refine ch_X12_packs_32 S  h_a_0_0 h_a_1_1 h_a_1_2 h_a_2_0 h_a_3_1 h_a_4_1 h_a_4_2 h_i_0  b ?_
  refine ch_X12_packs_33 S  h_a_0_1 h_a_0_2 h_a_1_3 h_a_1_5 h_a_2_1 h_a_2_2 h_a_3_5 h_a_4_3 h_a_4_5  b ?_
  refine z_lstore_n (lv' := [(1, .long 3758194691), (3, .int 2), (4, .int 2), (0, .ref (a 0))]) b dX12_packs_36 rfl (by decide) rfl ?_
  refine z_lload_n b dX12_packs_37 rfl rfl ?_
  refine z_iconst (v := 1) b dX12_packs_38 (by decide) ?_
  refine z_lshl (v := 7516389382) b dX12_packs_39 (by decide) ?_
  refine z_aload_n b dX12_packs_40 rfl rfl ?_
  refine z_get (q0 := 0) (k9 := 3) (v := .ref (a 4)) b (mw_0 cy a S) rfl in_X12 (by decide) wf_X12_23 rfl dX12_packs_41 ?_
  refine z_iconst (v := 3) b dX12_packs_44 (by decide) ?_
  refine z_iload_n b dX12_packs_45 rfl rfl ?_
  refine z_imul (v := 6) b dX12_packs_46 (by decide) ?_
  refine z_iload_n b dX12_packs_47 rfl rfl ?_
  refine z_iconst (v := 0) b dX12_packs_48 (by decide) ?_
  refine z_calli b (z_runS (As := [.int 2, .int 0]) (st := [.int 6, .ref (a 4), .long 7516389382]) b (c_X12_other_2 S ) cf_X12_other wm_X12_160 ws_X12_other dX12_packs_49 rfl (Nat.le_of_ble_eq_true rfl) ⟨by decide, by decide, by decide, by decide⟩) (fun r1951 u1952 h1950 => ?_)
  obtain ⟨rfl, rfl⟩ := h1950
  refine z_iadd (v := 6) b dX12_packs_52 (by decide) ?_
  refine y_zald (q0 := 4) (j := 6) (v := (ar S 3 6)) b (mw_4 cy a S) (by decide) rfl dX12_packs_53 ?_
  refine z_eqi h_a_3_6 ?_
  refine z_if_eq_t (tgt := 61) b dX12_packs_54 (by decide) (by decide) ?_
  refine z_lconst (v := 0) b dX12_packs_61 (by decide) ?_
  refine z_lor (v := 7516389382) b dX12_packs_62 (by decide) ?_
  refine z_lstore_n (lv' := [(1, .long 7516389382), (3, .int 2), (4, .int 2), (0, .ref (a 0))]) b dX12_packs_63 rfl (by decide) rfl ?_
  refine z_iconst (v := 0) b dX12_packs_64 (by decide) ?_
  refine z_istore (lv' := [(4, .int 0), (1, .long 7516389382), (3, .int 2), (0, .ref (a 0))]) b dX12_packs_65 (by decide) rfl ?_
  refine z_iload b dX12_packs_67 rfl ?_
  refine z_iconst (v := 2) b dX12_packs_69 (by decide) ?_
  refine z_icmp_ge_f (tgt := 128) b dX12_packs_70 (by decide) (by decide) ?_
  refine z_lload_n b dX12_packs_73 rfl rfl ?_
  refine z_iconst (v := 3) b dX12_packs_74 (by decide) ?_
  refine z_lshl (v := 60131115056) b dX12_packs_75 (by decide) ?_
  refine z_aload_n b dX12_packs_76 rfl rfl ?_
  refine z_get (q0 := 0) (k9 := 1) (v := .ref (a 2)) b (mw_0 cy a S) rfl in_X12 (by decide) wf_X12_17 rfl dX12_packs_77 ?_
  refine z_iconst (v := 3) b dX12_packs_80 (by decide) ?_
  refine z_iload_n b dX12_packs_81 rfl rfl ?_
  refine z_imul (v := 6) b dX12_packs_82 (by decide) ?_
  refine z_iload_n b dX12_packs_83 rfl rfl ?_
  refine z_iload b dX12_packs_84 rfl ?_
  refine z_calli b (z_runS (As := [.int 2, .int 0]) (st := [.int 6, .ref (a 2), .long 60131115056]) b (c_X12_other_2 S ) cf_X12_other wm_X12_160 ws_X12_other dX12_packs_86 rfl (Nat.le_of_ble_eq_true rfl) ⟨by decide, by decide, by decide, by decide⟩) (fun r1954 u1955 h1953 => ?_)
  obtain ⟨rfl, rfl⟩ := h1953
  refine z_iadd (v := 6) b dX12_packs_89 (by decide) ?_
  refine y_iald (q0 := 2) (j := 6) (v := (ar S 1 6)) b (mw_2 cy a S) (by decide) rfl dX12_packs_90 ?_
  refine z_eqi h_a_1_6 ?_
  refine z_i2l (v := 0) b dX12_packs_91 (by decide) ?_
  refine z_lor (v := 60131115056) b dX12_packs_92 (by decide) ?_
  refine z_lstore_n (lv' := [(1, .long 60131115056), (4, .int 0), (3, .int 2), (0, .ref (a 0))]) b dX12_packs_93 rfl (by decide) rfl ?_
  refine z_lload_n b dX12_packs_94 rfl rfl ?_
  refine z_iconst (v := 1) b dX12_packs_95 (by decide) ?_
  refine z_lshl (v := 120262230112) b dX12_packs_96 (by decide) ?_
  refine z_aload_n b dX12_packs_97 rfl rfl ?_
  refine z_get (q0 := 0) (k9 := 4) (v := .ref (a 5)) b (mw_0 cy a S) rfl in_X12 (by decide) wf_X12_27 rfl dX12_packs_98 ?_
  refine z_iconst (v := 3) b dX12_packs_101 (by decide) ?_
  refine z_iload_n b dX12_packs_102 rfl rfl ?_
  refine z_imul (v := 6) b dX12_packs_103 (by decide) ?_
  refine z_iload_n b dX12_packs_104 rfl rfl ?_
  refine z_iload b dX12_packs_105 rfl ?_
  refine z_calli b (z_runS (As := [.int 2, .int 0]) (st := [.int 6, .ref (a 5), .long 120262230112]) b (c_X12_other_2 S ) cf_X12_other wm_X12_160 ws_X12_other dX12_packs_107 rfl (Nat.le_of_ble_eq_true rfl) ⟨by decide, by decide, by decide, by decide⟩) (fun r1957 u1958 h1956 => ?_)
  obtain ⟨rfl, rfl⟩ := h1956
  refine z_iadd (v := 6) b dX12_packs_110 (by decide) ?_
  refine y_zald (q0 := 5) (j := 6) (v := (ar S 4 6)) b (mw_5 cy a S) (by decide) rfl dX12_packs_111 ?_
  refine z_eqi h_a_4_6 ?_
  refine z_if_eq_t (tgt := 119) b dX12_packs_112 (by decide) (by decide) ?_
  refine z_lconst (v := 0) b dX12_packs_119 (by decide) ?_
  refine z_lor (v := 120262230112) b dX12_packs_120 (by decide) ?_
  refine z_lstore_n (lv' := [(1, .long 120262230112), (4, .int 0), (3, .int 2), (0, .ref (a 0))]) b dX12_packs_121 rfl (by decide) rfl ?_
  refine z_iinc (k9 := 1) (v := 1) (lv' := [(4, .int 1), (1, .long 120262230112), (3, .int 2), (0, .ref (a 0))]) b dX12_packs_122 rfl (by decide) (by decide) rfl ?_
  refine z_goto (tgt := 67) b dX12_packs_125 (by decide) ?_
  refine z_iload b dX12_packs_67 rfl ?_
  refine z_iconst (v := 2) b dX12_packs_69 (by decide) ?_
  refine z_icmp_ge_f (tgt := 128) b dX12_packs_70 (by decide) (by decide) ?_
  refine z_lload_n b dX12_packs_73 rfl rfl ?_
  refine z_iconst (v := 3) b dX12_packs_74 (by decide) ?_
  refine z_lshl (v := 962097840896) b dX12_packs_75 (by decide) ?_
  refine z_aload_n b dX12_packs_76 rfl rfl ?_
  refine z_get (q0 := 0) (k9 := 1) (v := .ref (a 2)) b (mw_0 cy a S) rfl in_X12 (by decide) wf_X12_17 rfl dX12_packs_77 ?_
  refine z_iconst (v := 3) b dX12_packs_80 (by decide) ?_
  refine z_iload_n b dX12_packs_81 rfl rfl ?_
  refine z_imul (v := 6) b dX12_packs_82 (by decide) ?_
  refine z_iload_n b dX12_packs_83 rfl rfl ?_
  refine z_iload b dX12_packs_84 rfl ?_
  refine z_calli b (z_runS (As := [.int 2, .int 1]) (st := [.int 6, .ref (a 2), .long 962097840896]) b (c_X12_other S ) cf_X12_other wm_X12_160 ws_X12_other dX12_packs_86 rfl (Nat.le_of_ble_eq_true rfl) ⟨by decide, by decide, by decide, by decide⟩) (fun r1960 u1961 h1959 => ?_)
  obtain ⟨rfl, rfl⟩ := h1959
  refine z_iadd (v := 7) b dX12_packs_89 (by decide) ?_
  refine y_iald (q0 := 2) (j := 7) (v := (ar S 1 7)) b (mw_2 cy a S) (by decide) rfl dX12_packs_90 ?_
  refine z_eqi h_a_1_7 ?_
  refine z_i2l (v := 0) b dX12_packs_91 (by decide) ?_
  refine z_lor (v := 962097840896) b dX12_packs_92 (by decide) ?_
  refine z_lstore_n (lv' := [(1, .long 962097840896), (4, .int 1), (3, .int 2), (0, .ref (a 0))]) b dX12_packs_93 rfl (by decide) rfl ?_
  refine z_lload_n b dX12_packs_94 rfl rfl ?_
  refine z_iconst (v := 1) b dX12_packs_95 (by decide) ?_
  refine z_lshl (v := 1924195681792) b dX12_packs_96 (by decide) ?_
  refine z_aload_n b dX12_packs_97 rfl rfl ?_
  refine z_get (q0 := 0) (k9 := 4) (v := .ref (a 5)) b (mw_0 cy a S) rfl in_X12 (by decide) wf_X12_27 rfl dX12_packs_98 ?_
  refine z_iconst (v := 3) b dX12_packs_101 (by decide) ?_
  refine z_iload_n b dX12_packs_102 rfl rfl ?_
  refine z_imul (v := 6) b dX12_packs_103 (by decide) ?_
  refine z_iload_n b dX12_packs_104 rfl rfl ?_
  refine z_iload b dX12_packs_105 rfl ?_
  refine z_calli b (z_runS (As := [.int 2, .int 1]) (st := [.int 6, .ref (a 5), .long 1924195681792]) b (c_X12_other S ) cf_X12_other wm_X12_160 ws_X12_other dX12_packs_107 rfl (Nat.le_of_ble_eq_true rfl) ⟨by decide, by decide, by decide, by decide⟩) (fun r1963 u1964 h1962 => ?_)
  obtain ⟨rfl, rfl⟩ := h1962
  refine z_iadd (v := 7) b dX12_packs_110 (by decide) ?_
  refine y_zald (q0 := 5) (j := 7) (v := (ar S 4 7)) b (mw_5 cy a S) (by decide) rfl dX12_packs_111 ?_
  refine z_eqi h_a_4_7 ?_
  refine z_if_eq_t (tgt := 119) b dX12_packs_112 (by decide) (by decide) ?_
  refine z_lconst (v := 0) b dX12_packs_119 (by decide) ?_
  refine z_lor (v := 1924195681792) b dX12_packs_120 (by decide) ?_
  refine z_lstore_n (lv' := [(1, .long 1924195681792), (4, .int 1), (3, .int 2), (0, .ref (a 0))]) b dX12_packs_121 rfl (by decide) rfl ?_
  refine z_iinc (k9 := 1) (v := 2) (lv' := [(4, .int 2), (1, .long 1924195681792), (3, .int 2), (0, .ref (a 0))]) b dX12_packs_122 rfl (by decide) (by decide) rfl ?_
  refine z_goto (tgt := 67) b dX12_packs_125 (by decide) ?_
  refine z_iload b dX12_packs_67 rfl ?_
  refine z_iconst (v := 2) b dX12_packs_69 (by decide) ?_
  refine z_icmp_ge_t (tgt := 128) b dX12_packs_70 (by decide) (by decide) ?_
  refine z_iinc (k9 := 2) (v := 3) (lv' := [(3, .int 3), (4, .int 2), (1, .long 1924195681792), (0, .ref (a 0))]) b dX12_packs_128 rfl (by decide) (by decide) rfl ?_
  refine z_goto (tgt := 8) b dX12_packs_131 (by decide) ?_
  refine z_iload_n b dX12_packs_8 rfl rfl ?_
  refine z_iconst (v := 3) b dX12_packs_9 (by decide) ?_
  refine z_icmp_ge_t (tgt := 134) b dX12_packs_10 (by decide) (by decide) ?_
  refine z_lload_n b dX12_packs_134 rfl rfl ?_
  exact z_lret (u := S) b rfl dX12_packs_135 ⟨rfl, rfl⟩ rfl (by decide) (by decide)

set_option maxHeartbeats 4000000 in
set_option maxRecDepth 100000 in
theorem c_X12_told_15 {l : Launch} {D : va_G} {cy : Nat → ClassId} {T0 tB tE : Nat} {a : Nat → Nat} (S : GS)  (h_i_0 : fi S 0 = 0) (h_a_0_0 : ar S 0 0 = 0) (h_a_2_0 : ar S 2 0 = 3) (h_a_3_1 : ar S 3 1 = 1) (h_a_1_1 : ar S 1 1 = 0) (h_a_4_1 : ar S 4 1 = 0) (h_a_1_2 : ar S 1 2 = 0) (h_a_4_2 : ar S 4 2 = 0) (h_a_0_1 : ar S 0 1 = 0) (h_a_2_1 : ar S 2 1 = 3) (h_a_3_5 : ar S 3 5 = 0) (h_a_1_5 : ar S 1 5 = 0) (h_a_4_5 : ar S 4 5 = 0) (h_a_1_3 : ar S 1 3 = 0) (h_a_4_3 : ar S 4 3 = 0) (h_a_0_2 : ar S 0 2 = 0) (h_a_2_2 : ar S 2 2 = 3) (h_a_3_6 : ar S 3 6 = 0) (h_a_1_6 : ar S 1 6 = 0) (h_a_4_6 : ar S 4 6 = 0) (h_a_1_7 : ar S 1 7 = 0) (h_a_4_7 : ar S 4 7 = 0) : Ct l D cy T0 tB tE yX12_told cX12_told 1 (some .boolean) 2 45 0 0 (mw cy a S) [.ref (a 0)] (QI D (U := GS) (fun r u => 1 = r ∧ sl S 0 1924195681792 = u) (mw cy a)) := by
  refine Ct.ofZ RX12 "told" [(0, .ref (a 0))] rfl rfl rfl rfl (Nat.le_of_ble_eq_true rfl) ?_
  intro p e R s m args below meth c A b
  refine z_aload_n b dX12_told_0 rfl rfl ?_
  refine z_aload_n b dX12_told_1 rfl rfl ?_
  refine z_calll b (z_runV (q0 := 0) (As := []) (st := [.ref (a 0)]) b (c_X12_packs_15 S h_i_0 h_a_0_0 h_a_2_0 h_a_3_1 h_a_1_1 h_a_4_1 h_a_1_2 h_a_4_2 h_a_0_1 h_a_2_1 h_a_3_5 h_a_1_5 h_a_4_5 h_a_1_3 h_a_4_3 h_a_0_2 h_a_2_2 h_a_3_6 h_a_1_6 h_a_4_6 h_a_1_7 h_a_4_7) cf_X12_packs (mw_0 cy a S) rfl wm_X12_149 wi_X12_packs ws_X12_packs dX12_told_2 rfl (Nat.le_of_ble_eq_true rfl) ⟨by decide, by decide, by decide, by decide⟩) (fun r1966 u1967 h1965 => ?_)
  obtain ⟨rfl, rfl⟩ := h1965
  refine z_put (q0 := 0) (k9 := 6) tyX12 b (mw_0 cy a S) rfl in_X12 tyX12_ok nmX12 (by decide) wf_X12_153 rfl rfl rfl rfl (Nat.le_of_ble_eq_true rfl) dX12_told_5 (mwp_0_6 cy a S 1924195681792) ?_
  refine z_iconst (v := 1) b dX12_told_8 (by decide) ?_
  exact z_zret (u := (sl S 0 1924195681792)) b rfl (by decide) dX12_told_9 ⟨rfl, rfl⟩ rfl (by decide) (by decide)

set_option maxHeartbeats 4000000 in
set_option maxRecDepth 100000 in
theorem c_X12_kin_26 {l : Launch} {D : va_G} {cy : Nat → ClassId} {T0 tB tE : Nat} {a : Nat → Nat} (S : GS)  (h_l_0 : fl S 0 = 1649317774848) (h_a_4_7 : ar S 4 7 = 0) (h_a_1_7 : ar S 1 7 = 0) (h_a_4_6 : ar S 4 6 = 0) (h_a_1_6 : ar S 1 6 = 0) (h_a_3_6 : ar S 3 6 = 0) (h_a_3_2 : ar S 3 2 = 0) (h_a_2_2 : ar S 2 2 = 3) (h_a_0_2 : ar S 0 2 = 0) (h_a_4_3 : ar S 4 3 = 0) (h_a_1_3 : ar S 1 3 = 0) (h_a_4_5 : ar S 4 5 = 0) (h_a_1_5 : ar S 1 5 = 0) (h_a_3_5 : ar S 3 5 = 0) (h_a_3_7 : ar S 3 7 = 0) (h_a_2_1 : ar S 2 1 = 3) (h_a_0_1 : ar S 0 1 = 0) (h_a_4_2 : ar S 4 2 = 0) (h_a_1_2 : ar S 1 2 = 0) (h_a_4_1 : ar S 4 1 = 0) (h_a_1_1 : ar S 1 1 = 0) (h_a_3_1 : ar S 3 1 = 0) (h_a_3_3 : ar S 3 3 = 0) (h_a_2_0 : ar S 2 0 = 3) (h_a_0_0 : ar S 0 0 = 0) (h_i_0 : fi S 0 = 0) : Ct l D cy T0 tB tE yX12_kin cX12_kin 5 (some .boolean) 3 65 0 0 (mw cy a S) [.ref (a 0), .int 0, .int 1, .int 0, .int 1] (QI D (U := GS) (fun r u => 1 = r ∧ sl (su (su S 3 1 1) 3 3 1) 0 1924195681792 = u) (mw cy a)) := by
  refine Ct.ofZ RX12 "kin" [(0, .ref (a 0)), (1, .int 0), (2, .int 1), (3, .int 0), (4, .int 1)] rfl rfl rfl rfl (Nat.le_of_ble_eq_true rfl) ?_
  intro p e R s m args below meth c A b
  refine z_iload_n b dX12_kin_0 rfl rfl ?_
  refine z_calli b (z_runS (As := [.int 0]) (st := []) b (c_X12_isOne_3 S ) cf_X12_isOne wm_X12_170 ws_X12_isOne dX12_kin_1 rfl (Nat.le_of_ble_eq_true rfl) ⟨by decide, by decide, by decide, by decide⟩) (fun r1909 u1910 h1908 => ?_)
  obtain ⟨rfl, rfl⟩ := h1908
  refine z_if_eq_f (tgt := 28) b dX12_kin_4 (by decide) (by decide) ?_
  refine z_iload_n b dX12_kin_7 rfl rfl ?_
  refine z_calli b (z_runS (As := [.int 1]) (st := []) b (c_X12_isOne_4 S ) cf_X12_isOne wm_X12_170 ws_X12_isOne dX12_kin_8 rfl (Nat.le_of_ble_eq_true rfl) ⟨by decide, by decide, by decide, by decide⟩) (fun r1912 u1913 h1911 => ?_)
  obtain ⟨rfl, rfl⟩ := h1911
  refine z_if_eq_f (tgt := 28) b dX12_kin_11 (by decide) (by decide) ?_
  refine z_iload_n b dX12_kin_14 rfl rfl ?_
  refine z_iload_n b dX12_kin_15 rfl rfl ?_
  refine z_icmp_eq_f (tgt := 28) b dX12_kin_16 (by decide) (by decide) ?_
  refine z_iload_n b dX12_kin_19 rfl rfl ?_
  refine z_iconst (v := 0) b dX12_kin_20 (by decide) ?_
  refine z_iconst (v := 1) b dX12_kin_21 (by decide) ?_
  refine z_calli b (z_runS (As := [.int 0, .int 0, .int 1]) (st := []) b (c_X12_isIn_16 S ) cf_X12_isIn wm_X12_1 ws_X12_isIn dX12_kin_22 rfl (Nat.le_of_ble_eq_true rfl) ⟨by decide, by decide, by decide, by decide⟩) (fun r1915 u1916 h1914 => ?_)
  obtain ⟨rfl, rfl⟩ := h1914
  refine z_if_ne_t (tgt := 30) b dX12_kin_25 (by decide) (by decide) ?_
  refine z_aload_n b dX12_kin_30 rfl rfl ?_
  refine z_aload_n b dX12_kin_31 rfl rfl ?_
  refine z_get (q0 := 0) (k9 := 6) (v := .long (fl S 0)) b (mw_0 cy a S) rfl in_X12 (by decide) wf_X12_153 rfl dX12_kin_32 ?_
  refine z_eql h_l_0 ?_
  refine z_callv b (z_runV (q0 := 0) (As := [.long 1649317774848]) (st := []) b (c_X12_takes S h_a_4_7 h_a_1_7 h_a_4_6 h_a_1_6 h_a_3_6 h_a_3_2 h_a_2_2 h_a_0_2 h_a_4_3 h_a_1_3 h_a_4_5 h_a_1_5 h_a_3_5 h_a_3_7 h_a_2_1 h_a_0_1 h_a_4_2 h_a_1_2 h_a_4_1 h_a_1_1 h_a_3_1 h_a_3_3 h_a_2_0 h_a_0_0 h_i_0) cf_X12_takes (mw_0 cy a S) rfl wm_X12_174 wi_X12_takes ws_X12_takes dX12_kin_35 rfl (Nat.le_of_ble_eq_true rfl) ⟨by decide, by decide, by decide, by decide⟩) (fun u1919 h1917 => ?_)
  obtain rfl := h1917
  refine z_iload_n b dX12_kin_38 rfl rfl ?_
  refine z_iconst (v := 1) b dX12_kin_39 (by decide) ?_
  refine z_icmp_ne_t (tgt := 58) b dX12_kin_40 (by decide) (by decide) ?_
  refine z_aload_n b dX12_kin_58 rfl rfl ?_
  refine z_get (q0 := 0) (k9 := 3) (v := .ref (a 4)) b (mw_0 cy a S) rfl in_X12 (by decide) wf_X12_23 rfl dX12_kin_59 ?_
  refine z_iconst (v := 3) b dX12_kin_62 (by decide) ?_
  refine z_iload_n b dX12_kin_63 rfl rfl ?_
  refine z_imul (v := 0) b dX12_kin_64 (by decide) ?_
  refine z_iload_n b dX12_kin_65 rfl rfl ?_
  refine z_iadd (v := 1) b dX12_kin_66 (by decide) ?_
  refine z_iload b dX12_kin_67 rfl ?_
  refine y_zast (q0 := 4) (j := 1) b (mw_4 cy a S) (by decide) (by decide) dX12_kin_69 (mwa_4 cy a S 1 1) ?_
  refine z_aload_n b dX12_kin_70 rfl rfl ?_
  refine z_get (q0 := 0) (k9 := 3) (v := .ref (a 4)) b (mw_0 cy a (su S 3 1 1)) rfl in_X12 (by decide) wf_X12_23 rfl dX12_kin_71 ?_
  refine z_iconst (v := 3) b dX12_kin_74 (by decide) ?_
  refine z_iload_n b dX12_kin_75 rfl rfl ?_
  refine z_imul (v := 3) b dX12_kin_76 (by decide) ?_
  refine z_iload_n b dX12_kin_77 rfl rfl ?_
  refine z_iadd (v := 3) b dX12_kin_78 (by decide) ?_
  refine z_iload b dX12_kin_79 rfl ?_
  refine y_zast (q0 := 4) (j := 3) b (mw_4 cy a (su S 3 1 1)) (by decide) (by decide) dX12_kin_81 (mwa_4 cy a (su S 3 1 1) 3 1) ?_
  refine z_aload_n b dX12_kin_82 rfl rfl ?_
  refine z_calli b (z_runV (q0 := 0) (As := []) (st := []) b (c_X12_told_15 (su (su S 3 1 1) 3 3 1) h_i_0 h_a_0_0 h_a_2_0 rfl h_a_1_1 h_a_4_1 h_a_1_2 h_a_4_2 h_a_0_1 h_a_2_1 h_a_3_5 h_a_1_5 h_a_4_5 h_a_1_3 h_a_4_3 h_a_0_2 h_a_2_2 h_a_3_6 h_a_1_6 h_a_4_6 h_a_1_7 h_a_4_7) cf_X12_told (mw_0 cy a (su (su S 3 1 1) 3 3 1)) rfl wm_X12_178 wi_X12_told ws_X12_told dX12_kin_83 rfl (Nat.le_of_ble_eq_true rfl) ⟨by decide, by decide, by decide, by decide⟩) (fun r1969 u1970 h1968 => ?_)
  obtain ⟨rfl, rfl⟩ := h1968
  exact z_zret (u := (sl (su (su S 3 1 1) 3 3 1) 0 1924195681792)) b rfl (by decide) dX12_kin_86 ⟨rfl, rfl⟩ rfl (by decide) (by decide)

set_option maxHeartbeats 4000000 in
set_option maxRecDepth 100000 in
theorem c_X11_isWithin_12 {l : Launch} {D : va_G} {cy : Nat → ClassId} {T0 tB tE : Nat} {a : Nat → Nat} {rw : Nat → Option Nat} (S : GS)   : Ct l D cy T0 tB tE yX11_isWithin cX11_isWithin 2 (some .boolean) 0 0 0 0 (cw cy tE a rw S) [.int 1, .int 1] (QI D (U := GS) (fun r u => 1 = r ∧ S = u) (cw cy tE a rw)) := by
  refine Ct.ofZ RX11 "isWithin" [(0, .int 1), (1, .int 1)] rfl rfl rfl rfl (Nat.le_of_ble_eq_true rfl) ?_
  intro p e R s m args below meth c A b
  refine z_iload_n b dX11_isWithin_0 rfl rfl ?_
  refine z_if_lt_f (tgt := 13) b dX11_isWithin_1 (by decide) (by decide) ?_
  refine z_iload_n b dX11_isWithin_4 rfl rfl ?_
  refine z_iload_n b dX11_isWithin_5 rfl rfl ?_
  refine z_icmp_gt_f (tgt := 13) b dX11_isWithin_6 (by decide) (by decide) ?_
  refine z_iconst (v := 1) b dX11_isWithin_9 (by decide) ?_
  refine z_goto (tgt := 14) b dX11_isWithin_10 (by decide) ?_
  exact z_zret (u := S) b rfl (by decide) dX11_isWithin_14 ⟨rfl, rfl⟩ rfl (by decide) (by decide)

set_option maxHeartbeats 4000000 in
set_option maxRecDepth 100000 in
theorem c_X9_set_18 {l : Launch} {D : va_G} {cy : Nat → ClassId} {T0 tB tE : Nat} {a : Nat → Nat} {rw : Nat → Option Nat} (S : GS)  (h_a_4_31 : ar S 4 31 = 0) : Ct l D cy T0 tB tE yX9_set cX9_set 3 none 0 0 0 0 (cw cy tE a rw S) [.ref (a 14), .int 31, .int 0] (QV D (U := GS) (fun u => S = u) (cw cy tE a rw)) := by
  refine Ct.ofZ RX9 "set" [(0, .ref (a 14)), (1, .int 31), (2, .int 0)] rfl rfl rfl rfl (Nat.le_of_ble_eq_true rfl) ?_
  intro p e R s m args below meth c A b
  refine z_iload_n b dX9_set_0 rfl rfl ?_
  refine z_if_lt_f (tgt := 20) b dX9_set_1 (by decide) (by decide) ?_
  refine z_iload_n b dX9_set_4 rfl rfl ?_
  refine z_aload_n b dX9_set_5 rfl rfl ?_
  refine z_get (q0 := 14) (k9 := 0) (v := .ref (a 15)) b (cw_14 cy tE a rw S) rfl in_X9 (by decide) wf_X9_11 rfl dX9_set_6 ?_
  refine z_alen (q0 := 15) (t0 := 0) (v := 51) b (cw_15 cy tE a rw S) rfl rfl dX9_set_9 ?_
  refine z_icmp_ge_f (tgt := 20) b dX9_set_10 (by decide) (by decide) ?_
  refine z_aload_n b dX9_set_13 rfl rfl ?_
  refine z_get (q0 := 14) (k9 := 0) (v := .ref (a 15)) b (cw_14 cy tE a rw S) rfl in_X9 (by decide) wf_X9_11 rfl dX9_set_14 ?_
  refine z_iload_n b dX9_set_17 rfl rfl ?_
  refine z_iload_n b dX9_set_18 rfl rfl ?_
  refine y_iast (q0 := 15) (j := 31) b (cw_15 cy tE a rw S) (by decide) dX9_set_19 ((cwa_15 cy tE a rw S 31 0).trans (congrArg (cw cy tE a rw) (su_same h_a_4_31))) ?_
  exact z_vret (u := S) b rfl dX9_set_20 rfl rfl (by decide) (by decide)

set_option maxHeartbeats 4000000 in
set_option maxRecDepth 100000 in
theorem c_X11_kin_27 {l : Launch} {D : va_G} {cy : Nat → ClassId} {T0 tB tE : Nat} {a : Nat → Nat} {rw : Nat → Option Nat} (S : GS)  (h_a_4_31 : ar S 4 31 = 0) (h_i_24 : fi S 24 = 0) : Ct l D cy T0 tB tE yX11_kin cX11_kin 6 (some .boolean) 2 41 0 0 (cw cy tE a rw S) [.ref (a 0), .int 0, .int 1, .int 1, .int 0] (QI D (U := GS) (fun r u => 1 = r ∧ S = u) (cw cy tE a rw)) := by
  refine Ct.ofZ RX11 "kin" [(0, .ref (a 0)), (1, .int 0), (2, .int 1), (3, .int 1), (4, .int 0)] rfl rfl rfl rfl (Nat.le_of_ble_eq_true rfl) ?_
  intro p e R s m args below meth c A b
  refine z_iload_n b dX11_kin_0 rfl rfl ?_
  refine z_iload_n b dX11_kin_1 rfl rfl ?_
  refine z_calli b (z_runS (As := [.int 0, .int 1]) (st := []) b (c_X11_arePair_12 S ) cf_X11_arePair wm_X11_84 ws_X11_arePair dX11_kin_2 rfl (Nat.le_of_ble_eq_true rfl) ⟨by decide, by decide, by decide, by decide⟩) (fun r1972 u1973 h1971 => ?_)
  obtain ⟨rfl, rfl⟩ := h1971
  refine z_if_eq_f (tgt := 16) b dX11_kin_5 (by decide) (by decide) ?_
  refine z_iload_n b dX11_kin_8 rfl rfl ?_
  refine z_iconst (v := 1) b dX11_kin_9 (by decide) ?_
  refine z_calli b (z_runS (As := [.int 1, .int 1]) (st := []) b (c_X11_isWithin_12 S ) cf_X11_isWithin wm_X11_73 ws_X11_isWithin dX11_kin_10 rfl (Nat.le_of_ble_eq_true rfl) ⟨by decide, by decide, by decide, by decide⟩) (fun r1975 u1976 h1974 => ?_)
  obtain ⟨rfl, rfl⟩ := h1974
  refine z_if_ne_t (tgt := 18) b dX11_kin_13 (by decide) (by decide) ?_
  refine z_iload b dX11_kin_18 rfl ?_
  refine z_if_eq_t (tgt := 27) b dX11_kin_20 (by decide) (by decide) ?_
  refine z_iconst (v := 0) b dX11_kin_27 (by decide) ?_
  refine z_istore (lv' := [(5, .int 0), (0, .ref (a 0)), (1, .int 0), (2, .int 1), (3, .int 1), (4, .int 0)]) b dX11_kin_28 (by decide) rfl ?_
  refine z_iload_n b dX11_kin_30 rfl rfl ?_
  refine z_if_ne_t (tgt := 71) b dX11_kin_31 (by decide) (by decide) ?_
  refine z_aload_n b dX11_kin_71 rfl rfl ?_
  refine z_get (q0 := 0) (k9 := 4) (v := .ref (a 14)) b (cw_0 cy tE a rw S) rfl in_X11 (by decide) wf_X11_34 rfl dX11_kin_72 ?_
  refine z_bipush (v := 30) b dX11_kin_75 (by decide) ?_
  refine z_iconst (v := 3) b dX11_kin_77 (by decide) ?_
  refine z_iload_n b dX11_kin_78 rfl rfl ?_
  refine z_imul (v := 0) b dX11_kin_79 (by decide) ?_
  refine z_iadd (v := 30) b dX11_kin_80 (by decide) ?_
  refine z_iload_n b dX11_kin_81 rfl rfl ?_
  refine z_iadd (v := 31) b dX11_kin_82 (by decide) ?_
  refine z_iload b dX11_kin_83 rfl ?_
  refine z_callv b (z_runV (q0 := 14) (As := [.int 31, .int 0]) (st := []) b (c_X9_set_18 S h_a_4_31) cf_X9_set (cw_14 cy tE a rw S) rfl wm_X11_77 wi_X9_set ws_X9_set dX11_kin_85 rfl (Nat.le_of_ble_eq_true rfl) ⟨by decide, by decide, by decide, by decide⟩) (fun u1979 h1977 => ?_)
  obtain rfl := h1977
  refine z_aload_n b dX11_kin_88 rfl rfl ?_
  refine z_get (q0 := 0) (k9 := 6) (v := .ref (a 25)) b (cw_0 cy tE a rw S) rfl in_X11 (by decide) wf_X11_52 rfl dX11_kin_89 ?_
  refine z_callv b (z_runV (q0 := 25) (As := []) (st := []) b (c_X8_forget S h_i_24) cf_X8_forget (cw_25 cy tE a rw S) rfl wm_X11_81 wi_X8_forget ws_X8_forget dX11_kin_92 rfl (Nat.le_of_ble_eq_true rfl) ⟨by decide, by decide, by decide, by decide⟩) (fun u1982 h1980 => ?_)
  obtain rfl := h1980
  refine z_iconst (v := 1) b dX11_kin_95 (by decide) ?_
  exact z_zret (u := S) b rfl (by decide) dX11_kin_96 ⟨rfl, rfl⟩ rfl (by decide) (by decide)

set_option maxHeartbeats 4000000 in
set_option maxRecDepth 100000 in
theorem c_X12_isIn_17 {l : Launch} {D : va_G} {cy : Nat → ClassId} {T0 tB tE : Nat} {a : Nat → Nat} (S : GS)   : Ct l D cy T0 tB tE yX12_isIn cX12_isIn 3 (some .boolean) 0 0 0 0 (mw cy a S) [.int 1, .int 0, .int 1] (QI D (U := GS) (fun r u => 1 = r ∧ S = u) (mw cy a)) := by
  refine Ct.ofZ RX12 "isIn" [(0, .int 1), (1, .int 0), (2, .int 1)] rfl rfl rfl rfl (Nat.le_of_ble_eq_true rfl) ?_
  intro p e R s m args below meth c A b
  refine z_iload_n b dX12_isIn_0 rfl rfl ?_
  refine z_iload_n b dX12_isIn_1 rfl rfl ?_
  refine z_icmp_lt_f (tgt := 14) b dX12_isIn_2 (by decide) (by decide) ?_
  refine z_iload_n b dX12_isIn_5 rfl rfl ?_
  refine z_iload_n b dX12_isIn_6 rfl rfl ?_
  refine z_icmp_gt_f (tgt := 14) b dX12_isIn_7 (by decide) (by decide) ?_
  refine z_iconst (v := 1) b dX12_isIn_10 (by decide) ?_
  refine z_goto (tgt := 15) b dX12_isIn_11 (by decide) ?_
  exact z_zret (u := S) b rfl (by decide) dX12_isIn_15 ⟨rfl, rfl⟩ rfl (by decide) (by decide)

set_option maxHeartbeats 4000000 in
set_option maxRecDepth 100000 in
theorem c_X12_kin_27 {l : Launch} {D : va_G} {cy : Nat → ClassId} {T0 tB tE : Nat} {a : Nat → Nat} (S : GS)  (h_l_0 : fl S 0 = 1649317774848) (h_a_4_7 : ar S 4 7 = 0) (h_a_1_7 : ar S 1 7 = 0) (h_a_4_6 : ar S 4 6 = 0) (h_a_1_6 : ar S 1 6 = 0) (h_a_3_6 : ar S 3 6 = 0) (h_a_3_2 : ar S 3 2 = 0) (h_a_2_2 : ar S 2 2 = 3) (h_a_0_2 : ar S 0 2 = 0) (h_a_4_3 : ar S 4 3 = 0) (h_a_1_3 : ar S 1 3 = 0) (h_a_4_5 : ar S 4 5 = 0) (h_a_1_5 : ar S 1 5 = 0) (h_a_3_5 : ar S 3 5 = 0) (h_a_3_7 : ar S 3 7 = 0) (h_a_2_1 : ar S 2 1 = 3) (h_a_0_1 : ar S 0 1 = 0) (h_a_4_2 : ar S 4 2 = 0) (h_a_1_2 : ar S 1 2 = 0) (h_a_4_1 : ar S 4 1 = 0) (h_a_1_1 : ar S 1 1 = 0) (h_a_3_1 : ar S 3 1 = 0) (h_a_3_3 : ar S 3 3 = 0) (h_a_2_0 : ar S 2 0 = 3) (h_a_0_0 : ar S 0 0 = 0) (h_i_0 : fi S 0 = 0) : Ct l D cy T0 tB tE yX12_kin cX12_kin 5 (some .boolean) 3 65 0 0 (mw cy a S) [.ref (a 0), .int 0, .int 1, .int 1, .int 0] (QI D (U := GS) (fun r u => 1 = r ∧ S = u) (mw cy a)) := by
  refine Ct.ofZ RX12 "kin" [(0, .ref (a 0)), (1, .int 0), (2, .int 1), (3, .int 1), (4, .int 0)] rfl rfl rfl rfl (Nat.le_of_ble_eq_true rfl) ?_
  intro p e R s m args below meth c A b
  refine z_iload_n b dX12_kin_0 rfl rfl ?_
  refine z_calli b (z_runS (As := [.int 0]) (st := []) b (c_X12_isOne_3 S ) cf_X12_isOne wm_X12_170 ws_X12_isOne dX12_kin_1 rfl (Nat.le_of_ble_eq_true rfl) ⟨by decide, by decide, by decide, by decide⟩) (fun r1984 u1985 h1983 => ?_)
  obtain ⟨rfl, rfl⟩ := h1983
  refine z_if_eq_f (tgt := 28) b dX12_kin_4 (by decide) (by decide) ?_
  refine z_iload_n b dX12_kin_7 rfl rfl ?_
  refine z_calli b (z_runS (As := [.int 1]) (st := []) b (c_X12_isOne_4 S ) cf_X12_isOne wm_X12_170 ws_X12_isOne dX12_kin_8 rfl (Nat.le_of_ble_eq_true rfl) ⟨by decide, by decide, by decide, by decide⟩) (fun r1987 u1988 h1986 => ?_)
  obtain ⟨rfl, rfl⟩ := h1986
  refine z_if_eq_f (tgt := 28) b dX12_kin_11 (by decide) (by decide) ?_
  refine z_iload_n b dX12_kin_14 rfl rfl ?_
  refine z_iload_n b dX12_kin_15 rfl rfl ?_
  refine z_icmp_eq_f (tgt := 28) b dX12_kin_16 (by decide) (by decide) ?_
  refine z_iload_n b dX12_kin_19 rfl rfl ?_
  refine z_iconst (v := 0) b dX12_kin_20 (by decide) ?_
  refine z_iconst (v := 1) b dX12_kin_21 (by decide) ?_
  refine z_calli b (z_runS (As := [.int 1, .int 0, .int 1]) (st := []) b (c_X12_isIn_17 S ) cf_X12_isIn wm_X12_1 ws_X12_isIn dX12_kin_22 rfl (Nat.le_of_ble_eq_true rfl) ⟨by decide, by decide, by decide, by decide⟩) (fun r1990 u1991 h1989 => ?_)
  obtain ⟨rfl, rfl⟩ := h1989
  refine z_if_ne_t (tgt := 30) b dX12_kin_25 (by decide) (by decide) ?_
  refine z_aload_n b dX12_kin_30 rfl rfl ?_
  refine z_aload_n b dX12_kin_31 rfl rfl ?_
  refine z_get (q0 := 0) (k9 := 6) (v := .long (fl S 0)) b (mw_0 cy a S) rfl in_X12 (by decide) wf_X12_153 rfl dX12_kin_32 ?_
  refine z_eql h_l_0 ?_
  refine z_callv b (z_runV (q0 := 0) (As := [.long 1649317774848]) (st := []) b (c_X12_takes S h_a_4_7 h_a_1_7 h_a_4_6 h_a_1_6 h_a_3_6 h_a_3_2 h_a_2_2 h_a_0_2 h_a_4_3 h_a_1_3 h_a_4_5 h_a_1_5 h_a_3_5 h_a_3_7 h_a_2_1 h_a_0_1 h_a_4_2 h_a_1_2 h_a_4_1 h_a_1_1 h_a_3_1 h_a_3_3 h_a_2_0 h_a_0_0 h_i_0) cf_X12_takes (mw_0 cy a S) rfl wm_X12_174 wi_X12_takes ws_X12_takes dX12_kin_35 rfl (Nat.le_of_ble_eq_true rfl) ⟨by decide, by decide, by decide, by decide⟩) (fun u1994 h1992 => ?_)
  obtain rfl := h1992
  refine z_iload_n b dX12_kin_38 rfl rfl ?_
  refine z_iconst (v := 1) b dX12_kin_39 (by decide) ?_
  refine z_icmp_ne_f (tgt := 58) b dX12_kin_40 (by decide) (by decide) ?_
  refine z_aload_n b dX12_kin_43 rfl rfl ?_
  refine z_get (q0 := 0) (k9 := 4) (v := .ref (a 5)) b (mw_0 cy a S) rfl in_X12 (by decide) wf_X12_27 rfl dX12_kin_44 ?_
  refine z_iconst (v := 3) b dX12_kin_47 (by decide) ?_
  refine z_iload_n b dX12_kin_48 rfl rfl ?_
  refine z_imul (v := 0) b dX12_kin_49 (by decide) ?_
  refine z_iload_n b dX12_kin_50 rfl rfl ?_
  refine z_iadd (v := 1) b dX12_kin_51 (by decide) ?_
  refine z_iload b dX12_kin_52 rfl ?_
  refine y_zast (q0 := 5) (j := 1) b (mw_5 cy a S) (by decide) (by decide) dX12_kin_54 ((mwa_5 cy a S 1 0).trans (congrArg (mw cy a) (su_same h_a_4_1))) ?_
  refine z_goto (tgt := 82) b dX12_kin_55 (by decide) ?_
  refine z_aload_n b dX12_kin_82 rfl rfl ?_
  refine z_calli b (z_runV (q0 := 0) (As := []) (st := []) b (c_X12_told_14 S h_i_0 h_a_0_0 h_a_2_0 h_a_3_1 h_a_1_1 h_a_4_1 h_a_1_2 h_a_4_2 h_a_0_1 h_a_2_1 h_a_3_5 h_a_1_5 h_a_4_5 h_a_1_3 h_a_4_3 h_a_0_2 h_a_2_2 h_a_3_6 h_a_1_6 h_a_4_6 h_a_1_7 h_a_4_7 h_l_0) cf_X12_told (mw_0 cy a S) rfl wm_X12_178 wi_X12_told ws_X12_told dX12_kin_83 rfl (Nat.le_of_ble_eq_true rfl) ⟨by decide, by decide, by decide, by decide⟩) (fun r1996 u1997 h1995 => ?_)
  obtain ⟨rfl, rfl⟩ := h1995
  exact z_zret (u := S) b rfl (by decide) dX12_kin_86 ⟨rfl, rfl⟩ rfl (by decide) (by decide)

set_option maxHeartbeats 4000000 in
set_option maxRecDepth 100000 in
theorem c_X9_set_19 {l : Launch} {D : va_G} {cy : Nat → ClassId} {T0 tB tE : Nat} {a : Nat → Nat} {rw : Nat → Option Nat} (S : GS)   : Ct l D cy T0 tB tE yX9_set cX9_set 3 none 0 0 0 0 (cw cy tE a rw S) [.ref (a 14), .int 31, .int 1] (QV D (U := GS) (fun u => su S 4 31 1 = u) (cw cy tE a rw)) := by
  refine Ct.ofZ RX9 "set" [(0, .ref (a 14)), (1, .int 31), (2, .int 1)] rfl rfl rfl rfl (Nat.le_of_ble_eq_true rfl) ?_
  intro p e R s m args below meth c A b
  refine z_iload_n b dX9_set_0 rfl rfl ?_
  refine z_if_lt_f (tgt := 20) b dX9_set_1 (by decide) (by decide) ?_
  refine z_iload_n b dX9_set_4 rfl rfl ?_
  refine z_aload_n b dX9_set_5 rfl rfl ?_
  refine z_get (q0 := 14) (k9 := 0) (v := .ref (a 15)) b (cw_14 cy tE a rw S) rfl in_X9 (by decide) wf_X9_11 rfl dX9_set_6 ?_
  refine z_alen (q0 := 15) (t0 := 0) (v := 51) b (cw_15 cy tE a rw S) rfl rfl dX9_set_9 ?_
  refine z_icmp_ge_f (tgt := 20) b dX9_set_10 (by decide) (by decide) ?_
  refine z_aload_n b dX9_set_13 rfl rfl ?_
  refine z_get (q0 := 14) (k9 := 0) (v := .ref (a 15)) b (cw_14 cy tE a rw S) rfl in_X9 (by decide) wf_X9_11 rfl dX9_set_14 ?_
  refine z_iload_n b dX9_set_17 rfl rfl ?_
  refine z_iload_n b dX9_set_18 rfl rfl ?_
  refine y_iast (q0 := 15) (j := 31) b (cw_15 cy tE a rw S) (by decide) dX9_set_19 (cwa_15 cy tE a rw S 31 1) ?_
  exact z_vret (u := (su S 4 31 1)) b rfl dX9_set_20 rfl rfl (by decide) (by decide)

set_option maxHeartbeats 4000000 in
set_option maxRecDepth 100000 in
theorem c_X11_kin_28 {l : Launch} {D : va_G} {cy : Nat → ClassId} {T0 tB tE : Nat} {a : Nat → Nat} {rw : Nat → Option Nat} (S : GS)  (h_i_24 : fi S 24 = 0) : Ct l D cy T0 tB tE yX11_kin cX11_kin 6 (some .boolean) 2 41 0 0 (cw cy tE a rw S) [.ref (a 0), .int 0, .int 1, .int 1, .int 1] (QI D (U := GS) (fun r u => 1 = r ∧ (su S 4 31 1) = u) (cw cy tE a rw)) := by
  refine Ct.ofZ RX11 "kin" [(0, .ref (a 0)), (1, .int 0), (2, .int 1), (3, .int 1), (4, .int 1)] rfl rfl rfl rfl (Nat.le_of_ble_eq_true rfl) ?_
  intro p e R s m args below meth c A b
  refine z_iload_n b dX11_kin_0 rfl rfl ?_
  refine z_iload_n b dX11_kin_1 rfl rfl ?_
  refine z_calli b (z_runS (As := [.int 0, .int 1]) (st := []) b (c_X11_arePair_12 S ) cf_X11_arePair wm_X11_84 ws_X11_arePair dX11_kin_2 rfl (Nat.le_of_ble_eq_true rfl) ⟨by decide, by decide, by decide, by decide⟩) (fun r1999 u2000 h1998 => ?_)
  obtain ⟨rfl, rfl⟩ := h1998
  refine z_if_eq_f (tgt := 16) b dX11_kin_5 (by decide) (by decide) ?_
  refine z_iload_n b dX11_kin_8 rfl rfl ?_
  refine z_iconst (v := 1) b dX11_kin_9 (by decide) ?_
  refine z_calli b (z_runS (As := [.int 1, .int 1]) (st := []) b (c_X11_isWithin_12 S ) cf_X11_isWithin wm_X11_73 ws_X11_isWithin dX11_kin_10 rfl (Nat.le_of_ble_eq_true rfl) ⟨by decide, by decide, by decide, by decide⟩) (fun r2002 u2003 h2001 => ?_)
  obtain ⟨rfl, rfl⟩ := h2001
  refine z_if_ne_t (tgt := 18) b dX11_kin_13 (by decide) (by decide) ?_
  refine z_iload b dX11_kin_18 rfl ?_
  refine z_if_eq_f (tgt := 27) b dX11_kin_20 (by decide) (by decide) ?_
  refine z_iconst (v := 1) b dX11_kin_23 (by decide) ?_
  refine z_goto (tgt := 28) b dX11_kin_24 (by decide) ?_
  refine z_istore (lv' := [(5, .int 1), (0, .ref (a 0)), (1, .int 0), (2, .int 1), (3, .int 1), (4, .int 1)]) b dX11_kin_28 (by decide) rfl ?_
  refine z_iload_n b dX11_kin_30 rfl rfl ?_
  refine z_if_ne_t (tgt := 71) b dX11_kin_31 (by decide) (by decide) ?_
  refine z_aload_n b dX11_kin_71 rfl rfl ?_
  refine z_get (q0 := 0) (k9 := 4) (v := .ref (a 14)) b (cw_0 cy tE a rw S) rfl in_X11 (by decide) wf_X11_34 rfl dX11_kin_72 ?_
  refine z_bipush (v := 30) b dX11_kin_75 (by decide) ?_
  refine z_iconst (v := 3) b dX11_kin_77 (by decide) ?_
  refine z_iload_n b dX11_kin_78 rfl rfl ?_
  refine z_imul (v := 0) b dX11_kin_79 (by decide) ?_
  refine z_iadd (v := 30) b dX11_kin_80 (by decide) ?_
  refine z_iload_n b dX11_kin_81 rfl rfl ?_
  refine z_iadd (v := 31) b dX11_kin_82 (by decide) ?_
  refine z_iload b dX11_kin_83 rfl ?_
  refine z_callv b (z_runV (q0 := 14) (As := [.int 31, .int 1]) (st := []) b (c_X9_set_19 S ) cf_X9_set (cw_14 cy tE a rw S) rfl wm_X11_77 wi_X9_set ws_X9_set dX11_kin_85 rfl (Nat.le_of_ble_eq_true rfl) ⟨by decide, by decide, by decide, by decide⟩) (fun u2006 h2004 => ?_)
  obtain rfl := h2004
  refine z_aload_n b dX11_kin_88 rfl rfl ?_
  refine z_get (q0 := 0) (k9 := 6) (v := .ref (a 25)) b (cw_0 cy tE a rw (su S 4 31 1)) rfl in_X11 (by decide) wf_X11_52 rfl dX11_kin_89 ?_
  refine z_callv b (z_runV (q0 := 25) (As := []) (st := []) b (c_X8_forget (su S 4 31 1) h_i_24) cf_X8_forget (cw_25 cy tE a rw (su S 4 31 1)) rfl wm_X11_81 wi_X8_forget ws_X8_forget dX11_kin_92 rfl (Nat.le_of_ble_eq_true rfl) ⟨by decide, by decide, by decide, by decide⟩) (fun u2009 h2007 => ?_)
  obtain rfl := h2007
  refine z_iconst (v := 1) b dX11_kin_95 (by decide) ?_
  exact z_zret (u := (su S 4 31 1)) b rfl (by decide) dX11_kin_96 ⟨rfl, rfl⟩ rfl (by decide) (by decide)

set_option maxHeartbeats 4000000 in
set_option maxRecDepth 100000 in
theorem ch_X12_packs_34 {p : Program} {l : Launch} {e : Env} {R : Room} {s : State} {m : MethodId} {args : Array Value} {below : List Frame} {meth : Method} {c : Code} {D : va_G} {cy : Nat → ClassId} {T0 tB tE : Nat} {A : Nat → Prop} {Q : State → Prop} {a : Nat → Nat} (S : GS)  (h_a_0_0 : ar S 0 0 = 0) (h_a_1_1 : ar S 1 1 = 0) (h_a_1_2 : ar S 1 2 = 0) (h_a_2_0 : ar S 2 0 = 3) (h_a_3_1 : ar S 3 1 = 0) (h_a_4_1 : ar S 4 1 = 1) (h_a_4_2 : ar S 4 2 = 0) (h_i_0 : fi S 0 = 0) (b : Bz p R s m args meth c D cy T0 tB tE A 5 cX12_packs RX12 (some .long) "packs" 1 21 0 0) (k : Z p l e R s m args below meth c D A 5 Q 0 0 (mw cy a S) [(3, .int 1), (4, .int 2), (1, .long 1552), (0, .ref (a 0))] 20 [.ref (a 1), .long 24832]) : Z p l e R s m args below meth c D A 5 Q 0 0 (mw cy a S) [(0, .ref (a 0))] 0 [] := by
  refine z_aload_n b dX12_packs_0 rfl rfl ?_
  refine z_get (q0 := 0) (k9 := 5) (v := .int (fi S 0)) b (mw_0 cy a S) rfl in_X12 (by decide) wf_X12_157 rfl dX12_packs_1 ?_
  refine z_eqi h_i_0 ?_
  refine z_i2l (v := 0) b dX12_packs_4 (by decide) ?_
  refine z_lstore_n (lv' := [(1, .long 0), (0, .ref (a 0))]) b dX12_packs_5 rfl (by decide) rfl ?_
  refine z_iconst (v := 0) b dX12_packs_6 (by decide) ?_
  refine z_istore_n (lv' := [(3, .int 0), (1, .long 0), (0, .ref (a 0))]) b dX12_packs_7 rfl (by decide) rfl ?_
  refine z_iload_n b dX12_packs_8 rfl rfl ?_
  refine z_iconst (v := 3) b dX12_packs_9 (by decide) ?_
  refine z_icmp_ge_f (tgt := 134) b dX12_packs_10 (by decide) (by decide) ?_
  refine z_lload_n b dX12_packs_13 rfl rfl ?_
  refine z_iconst (v := 4) b dX12_packs_14 (by decide) ?_
  refine z_lshl (v := 0) b dX12_packs_15 (by decide) ?_
  refine z_aload_n b dX12_packs_16 rfl rfl ?_
  refine z_get (q0 := 0) (k9 := 0) (v := .ref (a 1)) b (mw_0 cy a S) rfl in_X12 (by decide) wf_X12_13 rfl dX12_packs_17 ?_
  refine z_iload_n b dX12_packs_20 rfl rfl ?_
  refine y_iald (q0 := 1) (j := 0) (v := (ar S 0 0)) b (mw_1 cy a S) (by decide) rfl dX12_packs_21 ?_
  refine z_eqi h_a_0_0 ?_
  refine z_i2l (v := 0) b dX12_packs_22 (by decide) ?_
  refine z_lor (v := 0) b dX12_packs_23 (by decide) ?_
  refine z_lstore_n (lv' := [(1, .long 0), (3, .int 0), (0, .ref (a 0))]) b dX12_packs_24 rfl (by decide) rfl ?_
  refine z_lload_n b dX12_packs_25 rfl rfl ?_
  refine z_iconst (v := 2) b dX12_packs_26 (by decide) ?_
  refine z_lshl (v := 0) b dX12_packs_27 (by decide) ?_
  refine z_aload_n b dX12_packs_28 rfl rfl ?_
  refine z_get (q0 := 0) (k9 := 2) (v := .ref (a 3)) b (mw_0 cy a S) rfl in_X12 (by decide) wf_X12_20 rfl dX12_packs_29 ?_
  refine z_iload_n b dX12_packs_32 rfl rfl ?_
  refine y_iald (q0 := 3) (j := 0) (v := (ar S 2 0)) b (mw_3 cy a S) (by decide) rfl dX12_packs_33 ?_
  refine z_eqi h_a_2_0 ?_
  refine z_i2l (v := 3) b dX12_packs_34 (by decide) ?_
  refine z_lor (v := 3) b dX12_packs_35 (by decide) ?_
  refine z_lstore_n (lv' := [(1, .long 3), (3, .int 0), (0, .ref (a 0))]) b dX12_packs_36 rfl (by decide) rfl ?_
  refine z_lload_n b dX12_packs_37 rfl rfl ?_
  refine z_iconst (v := 1) b dX12_packs_38 (by decide) ?_
  refine z_lshl (v := 6) b dX12_packs_39 (by decide) ?_
  refine z_aload_n b dX12_packs_40 rfl rfl ?_
  refine z_get (q0 := 0) (k9 := 3) (v := .ref (a 4)) b (mw_0 cy a S) rfl in_X12 (by decide) wf_X12_23 rfl dX12_packs_41 ?_
  refine z_iconst (v := 3) b dX12_packs_44 (by decide) ?_
  refine z_iload_n b dX12_packs_45 rfl rfl ?_
  refine z_imul (v := 0) b dX12_packs_46 (by decide) ?_
  refine z_iload_n b dX12_packs_47 rfl rfl ?_
  refine z_iconst (v := 0) b dX12_packs_48 (by decide) ?_
  refine z_calli b (z_runS (As := [.int 0, .int 0]) (st := [.int 0, .ref (a 4), .long 6]) b (c_X12_other_6 S ) cf_X12_other wm_X12_160 ws_X12_other dX12_packs_49 rfl (Nat.le_of_ble_eq_true rfl) ⟨by decide, by decide, by decide, by decide⟩) (fun r2023 u2024 h2022 => ?_)
  obtain ⟨rfl, rfl⟩ := h2022
  refine z_iadd (v := 1) b dX12_packs_52 (by decide) ?_
  refine y_zald (q0 := 4) (j := 1) (v := (ar S 3 1)) b (mw_4 cy a S) (by decide) rfl dX12_packs_53 ?_
  refine z_eqi h_a_3_1 ?_
  refine z_if_eq_t (tgt := 61) b dX12_packs_54 (by decide) (by decide) ?_
  refine z_lconst (v := 0) b dX12_packs_61 (by decide) ?_
  refine z_lor (v := 6) b dX12_packs_62 (by decide) ?_
  refine z_lstore_n (lv' := [(1, .long 6), (3, .int 0), (0, .ref (a 0))]) b dX12_packs_63 rfl (by decide) rfl ?_
  refine z_iconst (v := 0) b dX12_packs_64 (by decide) ?_
  refine z_istore (lv' := [(4, .int 0), (1, .long 6), (3, .int 0), (0, .ref (a 0))]) b dX12_packs_65 (by decide) rfl ?_
  refine z_iload b dX12_packs_67 rfl ?_
  refine z_iconst (v := 2) b dX12_packs_69 (by decide) ?_
  refine z_icmp_ge_f (tgt := 128) b dX12_packs_70 (by decide) (by decide) ?_
  refine z_lload_n b dX12_packs_73 rfl rfl ?_
  refine z_iconst (v := 3) b dX12_packs_74 (by decide) ?_
  refine z_lshl (v := 48) b dX12_packs_75 (by decide) ?_
  refine z_aload_n b dX12_packs_76 rfl rfl ?_
  refine z_get (q0 := 0) (k9 := 1) (v := .ref (a 2)) b (mw_0 cy a S) rfl in_X12 (by decide) wf_X12_17 rfl dX12_packs_77 ?_
  refine z_iconst (v := 3) b dX12_packs_80 (by decide) ?_
  refine z_iload_n b dX12_packs_81 rfl rfl ?_
  refine z_imul (v := 0) b dX12_packs_82 (by decide) ?_
  refine z_iload_n b dX12_packs_83 rfl rfl ?_
  refine z_iload b dX12_packs_84 rfl ?_
  refine z_calli b (z_runS (As := [.int 0, .int 0]) (st := [.int 0, .ref (a 2), .long 48]) b (c_X12_other_6 S ) cf_X12_other wm_X12_160 ws_X12_other dX12_packs_86 rfl (Nat.le_of_ble_eq_true rfl) ⟨by decide, by decide, by decide, by decide⟩) (fun r2026 u2027 h2025 => ?_)
  obtain ⟨rfl, rfl⟩ := h2025
  refine z_iadd (v := 1) b dX12_packs_89 (by decide) ?_
  refine y_iald (q0 := 2) (j := 1) (v := (ar S 1 1)) b (mw_2 cy a S) (by decide) rfl dX12_packs_90 ?_
  refine z_eqi h_a_1_1 ?_
  refine z_i2l (v := 0) b dX12_packs_91 (by decide) ?_
  refine z_lor (v := 48) b dX12_packs_92 (by decide) ?_
  refine z_lstore_n (lv' := [(1, .long 48), (4, .int 0), (3, .int 0), (0, .ref (a 0))]) b dX12_packs_93 rfl (by decide) rfl ?_
  refine z_lload_n b dX12_packs_94 rfl rfl ?_
  refine z_iconst (v := 1) b dX12_packs_95 (by decide) ?_
  refine z_lshl (v := 96) b dX12_packs_96 (by decide) ?_
  refine z_aload_n b dX12_packs_97 rfl rfl ?_
  refine z_get (q0 := 0) (k9 := 4) (v := .ref (a 5)) b (mw_0 cy a S) rfl in_X12 (by decide) wf_X12_27 rfl dX12_packs_98 ?_
  refine z_iconst (v := 3) b dX12_packs_101 (by decide) ?_
  refine z_iload_n b dX12_packs_102 rfl rfl ?_
  refine z_imul (v := 0) b dX12_packs_103 (by decide) ?_
  refine z_iload_n b dX12_packs_104 rfl rfl ?_
  refine z_iload b dX12_packs_105 rfl ?_
  refine z_calli b (z_runS (As := [.int 0, .int 0]) (st := [.int 0, .ref (a 5), .long 96]) b (c_X12_other_6 S ) cf_X12_other wm_X12_160 ws_X12_other dX12_packs_107 rfl (Nat.le_of_ble_eq_true rfl) ⟨by decide, by decide, by decide, by decide⟩) (fun r2029 u2030 h2028 => ?_)
  obtain ⟨rfl, rfl⟩ := h2028
  refine z_iadd (v := 1) b dX12_packs_110 (by decide) ?_
  refine y_zald (q0 := 5) (j := 1) (v := (ar S 4 1)) b (mw_5 cy a S) (by decide) rfl dX12_packs_111 ?_
  refine z_eqi h_a_4_1 ?_
  refine z_if_eq_f (tgt := 119) b dX12_packs_112 (by decide) (by decide) ?_
  refine z_lconst (v := 1) b dX12_packs_115 (by decide) ?_
  refine z_goto (tgt := 120) b dX12_packs_116 (by decide) ?_
  refine z_lor (v := 97) b dX12_packs_120 (by decide) ?_
  refine z_lstore_n (lv' := [(1, .long 97), (4, .int 0), (3, .int 0), (0, .ref (a 0))]) b dX12_packs_121 rfl (by decide) rfl ?_
  refine z_iinc (k9 := 1) (v := 1) (lv' := [(4, .int 1), (1, .long 97), (3, .int 0), (0, .ref (a 0))]) b dX12_packs_122 rfl (by decide) (by decide) rfl ?_
  refine z_goto (tgt := 67) b dX12_packs_125 (by decide) ?_
  refine z_iload b dX12_packs_67 rfl ?_
  refine z_iconst (v := 2) b dX12_packs_69 (by decide) ?_
  refine z_icmp_ge_f (tgt := 128) b dX12_packs_70 (by decide) (by decide) ?_
  refine z_lload_n b dX12_packs_73 rfl rfl ?_
  refine z_iconst (v := 3) b dX12_packs_74 (by decide) ?_
  refine z_lshl (v := 776) b dX12_packs_75 (by decide) ?_
  refine z_aload_n b dX12_packs_76 rfl rfl ?_
  refine z_get (q0 := 0) (k9 := 1) (v := .ref (a 2)) b (mw_0 cy a S) rfl in_X12 (by decide) wf_X12_17 rfl dX12_packs_77 ?_
  refine z_iconst (v := 3) b dX12_packs_80 (by decide) ?_
  refine z_iload_n b dX12_packs_81 rfl rfl ?_
  refine z_imul (v := 0) b dX12_packs_82 (by decide) ?_
  refine z_iload_n b dX12_packs_83 rfl rfl ?_
  refine z_iload b dX12_packs_84 rfl ?_
  refine z_calli b (z_runS (As := [.int 0, .int 1]) (st := [.int 0, .ref (a 2), .long 776]) b (c_X12_other_5 S ) cf_X12_other wm_X12_160 ws_X12_other dX12_packs_86 rfl (Nat.le_of_ble_eq_true rfl) ⟨by decide, by decide, by decide, by decide⟩) (fun r2032 u2033 h2031 => ?_)
  obtain ⟨rfl, rfl⟩ := h2031
  refine z_iadd (v := 2) b dX12_packs_89 (by decide) ?_
  refine y_iald (q0 := 2) (j := 2) (v := (ar S 1 2)) b (mw_2 cy a S) (by decide) rfl dX12_packs_90 ?_
  refine z_eqi h_a_1_2 ?_
  refine z_i2l (v := 0) b dX12_packs_91 (by decide) ?_
  refine z_lor (v := 776) b dX12_packs_92 (by decide) ?_
  refine z_lstore_n (lv' := [(1, .long 776), (4, .int 1), (3, .int 0), (0, .ref (a 0))]) b dX12_packs_93 rfl (by decide) rfl ?_
  refine z_lload_n b dX12_packs_94 rfl rfl ?_
  refine z_iconst (v := 1) b dX12_packs_95 (by decide) ?_
  refine z_lshl (v := 1552) b dX12_packs_96 (by decide) ?_
  refine z_aload_n b dX12_packs_97 rfl rfl ?_
  refine z_get (q0 := 0) (k9 := 4) (v := .ref (a 5)) b (mw_0 cy a S) rfl in_X12 (by decide) wf_X12_27 rfl dX12_packs_98 ?_
  refine z_iconst (v := 3) b dX12_packs_101 (by decide) ?_
  refine z_iload_n b dX12_packs_102 rfl rfl ?_
  refine z_imul (v := 0) b dX12_packs_103 (by decide) ?_
  refine z_iload_n b dX12_packs_104 rfl rfl ?_
  refine z_iload b dX12_packs_105 rfl ?_
  refine z_calli b (z_runS (As := [.int 0, .int 1]) (st := [.int 0, .ref (a 5), .long 1552]) b (c_X12_other_5 S ) cf_X12_other wm_X12_160 ws_X12_other dX12_packs_107 rfl (Nat.le_of_ble_eq_true rfl) ⟨by decide, by decide, by decide, by decide⟩) (fun r2035 u2036 h2034 => ?_)
  obtain ⟨rfl, rfl⟩ := h2034
  refine z_iadd (v := 2) b dX12_packs_110 (by decide) ?_
  refine y_zald (q0 := 5) (j := 2) (v := (ar S 4 2)) b (mw_5 cy a S) (by decide) rfl dX12_packs_111 ?_
  refine z_eqi h_a_4_2 ?_
  refine z_if_eq_t (tgt := 119) b dX12_packs_112 (by decide) (by decide) ?_
  refine z_lconst (v := 0) b dX12_packs_119 (by decide) ?_
  refine z_lor (v := 1552) b dX12_packs_120 (by decide) ?_
  refine z_lstore_n (lv' := [(1, .long 1552), (4, .int 1), (3, .int 0), (0, .ref (a 0))]) b dX12_packs_121 rfl (by decide) rfl ?_
  refine z_iinc (k9 := 1) (v := 2) (lv' := [(4, .int 2), (1, .long 1552), (3, .int 0), (0, .ref (a 0))]) b dX12_packs_122 rfl (by decide) (by decide) rfl ?_
  refine z_goto (tgt := 67) b dX12_packs_125 (by decide) ?_
  refine z_iload b dX12_packs_67 rfl ?_
  refine z_iconst (v := 2) b dX12_packs_69 (by decide) ?_
  refine z_icmp_ge_t (tgt := 128) b dX12_packs_70 (by decide) (by decide) ?_
  refine z_iinc (k9 := 2) (v := 1) (lv' := [(3, .int 1), (4, .int 2), (1, .long 1552), (0, .ref (a 0))]) b dX12_packs_128 rfl (by decide) (by decide) rfl ?_
  refine z_goto (tgt := 8) b dX12_packs_131 (by decide) ?_
  refine z_iload_n b dX12_packs_8 rfl rfl ?_
  refine z_iconst (v := 3) b dX12_packs_9 (by decide) ?_
  refine z_icmp_ge_f (tgt := 134) b dX12_packs_10 (by decide) (by decide) ?_
  refine z_lload_n b dX12_packs_13 rfl rfl ?_
  refine z_iconst (v := 4) b dX12_packs_14 (by decide) ?_
  refine z_lshl (v := 24832) b dX12_packs_15 (by decide) ?_
  refine z_aload_n b dX12_packs_16 rfl rfl ?_
  refine z_get (q0 := 0) (k9 := 0) (v := .ref (a 1)) b (mw_0 cy a S) rfl in_X12 (by decide) wf_X12_13 rfl dX12_packs_17 ?_
  exact k

set_option maxHeartbeats 4000000 in
set_option maxRecDepth 100000 in
theorem ch_X12_packs_35 {p : Program} {l : Launch} {e : Env} {R : Room} {s : State} {m : MethodId} {args : Array Value} {below : List Frame} {meth : Method} {c : Code} {D : va_G} {cy : Nat → ClassId} {T0 tB tE : Nat} {A : Nat → Prop} {Q : State → Prop} {a : Nat → Nat} (S : GS)  (h_a_0_1 : ar S 0 1 = 0) (h_a_0_2 : ar S 0 2 = 0) (h_a_1_3 : ar S 1 3 = 0) (h_a_1_5 : ar S 1 5 = 0) (h_a_2_1 : ar S 2 1 = 3) (h_a_2_2 : ar S 2 2 = 3) (h_a_3_5 : ar S 3 5 = 0) (h_a_4_3 : ar S 4 3 = 0) (h_a_4_5 : ar S 4 5 = 0) (b : Bz p R s m args meth c D cy T0 tB tE A 5 cX12_packs RX12 (some .long) "packs" 1 21 0 0) (k : Z p l e R s m args below meth c D A 5 Q 0 0 (mw cy a S) [(1, .long 813719552), (3, .int 2), (4, .int 2), (0, .ref (a 0))] 36 [.long 3254878211]) : Z p l e R s m args below meth c D A 5 Q 0 0 (mw cy a S) [(3, .int 1), (4, .int 2), (1, .long 1552), (0, .ref (a 0))] 20 [.ref (a 1), .long 24832] := by
  refine z_iload_n b dX12_packs_20 rfl rfl ?_
  refine y_iald (q0 := 1) (j := 1) (v := (ar S 0 1)) b (mw_1 cy a S) (by decide) rfl dX12_packs_21 ?_
  refine z_eqi h_a_0_1 ?_
  refine z_i2l (v := 0) b dX12_packs_22 (by decide) ?_
  refine z_lor (v := 24832) b dX12_packs_23 (by decide) ?_
  refine z_lstore_n (lv' := [(1, .long 24832), (3, .int 1), (4, .int 2), (0, .ref (a 0))]) b dX12_packs_24 rfl (by decide) rfl ?_
  refine z_lload_n b dX12_packs_25 rfl rfl ?_
  refine z_iconst (v := 2) b dX12_packs_26 (by decide) ?_
  refine z_lshl (v := 99328) b dX12_packs_27 (by decide) ?_
  refine z_aload_n b dX12_packs_28 rfl rfl ?_
  refine z_get (q0 := 0) (k9 := 2) (v := .ref (a 3)) b (mw_0 cy a S) rfl in_X12 (by decide) wf_X12_20 rfl dX12_packs_29 ?_
  refine z_iload_n b dX12_packs_32 rfl rfl ?_
  refine y_iald (q0 := 3) (j := 1) (v := (ar S 2 1)) b (mw_3 cy a S) (by decide) rfl dX12_packs_33 ?_
  refine z_eqi h_a_2_1 ?_
  refine z_i2l (v := 3) b dX12_packs_34 (by decide) ?_
  refine z_lor (v := 99331) b dX12_packs_35 (by decide) ?_
  refine z_lstore_n (lv' := [(1, .long 99331), (3, .int 1), (4, .int 2), (0, .ref (a 0))]) b dX12_packs_36 rfl (by decide) rfl ?_
  refine z_lload_n b dX12_packs_37 rfl rfl ?_
  refine z_iconst (v := 1) b dX12_packs_38 (by decide) ?_
  refine z_lshl (v := 198662) b dX12_packs_39 (by decide) ?_
  refine z_aload_n b dX12_packs_40 rfl rfl ?_
  refine z_get (q0 := 0) (k9 := 3) (v := .ref (a 4)) b (mw_0 cy a S) rfl in_X12 (by decide) wf_X12_23 rfl dX12_packs_41 ?_
  refine z_iconst (v := 3) b dX12_packs_44 (by decide) ?_
  refine z_iload_n b dX12_packs_45 rfl rfl ?_
  refine z_imul (v := 3) b dX12_packs_46 (by decide) ?_
  refine z_iload_n b dX12_packs_47 rfl rfl ?_
  refine z_iconst (v := 0) b dX12_packs_48 (by decide) ?_
  refine z_calli b (z_runS (As := [.int 1, .int 0]) (st := [.int 3, .ref (a 4), .long 198662]) b (c_X12_other_4 S ) cf_X12_other wm_X12_160 ws_X12_other dX12_packs_49 rfl (Nat.le_of_ble_eq_true rfl) ⟨by decide, by decide, by decide, by decide⟩) (fun r2038 u2039 h2037 => ?_)
  obtain ⟨rfl, rfl⟩ := h2037
  refine z_iadd (v := 5) b dX12_packs_52 (by decide) ?_
  refine y_zald (q0 := 4) (j := 5) (v := (ar S 3 5)) b (mw_4 cy a S) (by decide) rfl dX12_packs_53 ?_
  refine z_eqi h_a_3_5 ?_
  refine z_if_eq_t (tgt := 61) b dX12_packs_54 (by decide) (by decide) ?_
  refine z_lconst (v := 0) b dX12_packs_61 (by decide) ?_
  refine z_lor (v := 198662) b dX12_packs_62 (by decide) ?_
  refine z_lstore_n (lv' := [(1, .long 198662), (3, .int 1), (4, .int 2), (0, .ref (a 0))]) b dX12_packs_63 rfl (by decide) rfl ?_
  refine z_iconst (v := 0) b dX12_packs_64 (by decide) ?_
  refine z_istore (lv' := [(4, .int 0), (1, .long 198662), (3, .int 1), (0, .ref (a 0))]) b dX12_packs_65 (by decide) rfl ?_
  refine z_iload b dX12_packs_67 rfl ?_
  refine z_iconst (v := 2) b dX12_packs_69 (by decide) ?_
  refine z_icmp_ge_f (tgt := 128) b dX12_packs_70 (by decide) (by decide) ?_
  refine z_lload_n b dX12_packs_73 rfl rfl ?_
  refine z_iconst (v := 3) b dX12_packs_74 (by decide) ?_
  refine z_lshl (v := 1589296) b dX12_packs_75 (by decide) ?_
  refine z_aload_n b dX12_packs_76 rfl rfl ?_
  refine z_get (q0 := 0) (k9 := 1) (v := .ref (a 2)) b (mw_0 cy a S) rfl in_X12 (by decide) wf_X12_17 rfl dX12_packs_77 ?_
  refine z_iconst (v := 3) b dX12_packs_80 (by decide) ?_
  refine z_iload_n b dX12_packs_81 rfl rfl ?_
  refine z_imul (v := 3) b dX12_packs_82 (by decide) ?_
  refine z_iload_n b dX12_packs_83 rfl rfl ?_
  refine z_iload b dX12_packs_84 rfl ?_
  refine z_calli b (z_runS (As := [.int 1, .int 0]) (st := [.int 3, .ref (a 2), .long 1589296]) b (c_X12_other_4 S ) cf_X12_other wm_X12_160 ws_X12_other dX12_packs_86 rfl (Nat.le_of_ble_eq_true rfl) ⟨by decide, by decide, by decide, by decide⟩) (fun r2041 u2042 h2040 => ?_)
  obtain ⟨rfl, rfl⟩ := h2040
  refine z_iadd (v := 5) b dX12_packs_89 (by decide) ?_
  refine y_iald (q0 := 2) (j := 5) (v := (ar S 1 5)) b (mw_2 cy a S) (by decide) rfl dX12_packs_90 ?_
  refine z_eqi h_a_1_5 ?_
  refine z_i2l (v := 0) b dX12_packs_91 (by decide) ?_
  refine z_lor (v := 1589296) b dX12_packs_92 (by decide) ?_
  refine z_lstore_n (lv' := [(1, .long 1589296), (4, .int 0), (3, .int 1), (0, .ref (a 0))]) b dX12_packs_93 rfl (by decide) rfl ?_
  refine z_lload_n b dX12_packs_94 rfl rfl ?_
  refine z_iconst (v := 1) b dX12_packs_95 (by decide) ?_
  refine z_lshl (v := 3178592) b dX12_packs_96 (by decide) ?_
  refine z_aload_n b dX12_packs_97 rfl rfl ?_
  refine z_get (q0 := 0) (k9 := 4) (v := .ref (a 5)) b (mw_0 cy a S) rfl in_X12 (by decide) wf_X12_27 rfl dX12_packs_98 ?_
  refine z_iconst (v := 3) b dX12_packs_101 (by decide) ?_
  refine z_iload_n b dX12_packs_102 rfl rfl ?_
  refine z_imul (v := 3) b dX12_packs_103 (by decide) ?_
  refine z_iload_n b dX12_packs_104 rfl rfl ?_
  refine z_iload b dX12_packs_105 rfl ?_
  refine z_calli b (z_runS (As := [.int 1, .int 0]) (st := [.int 3, .ref (a 5), .long 3178592]) b (c_X12_other_4 S ) cf_X12_other wm_X12_160 ws_X12_other dX12_packs_107 rfl (Nat.le_of_ble_eq_true rfl) ⟨by decide, by decide, by decide, by decide⟩) (fun r2044 u2045 h2043 => ?_)
  obtain ⟨rfl, rfl⟩ := h2043
  refine z_iadd (v := 5) b dX12_packs_110 (by decide) ?_
  refine y_zald (q0 := 5) (j := 5) (v := (ar S 4 5)) b (mw_5 cy a S) (by decide) rfl dX12_packs_111 ?_
  refine z_eqi h_a_4_5 ?_
  refine z_if_eq_t (tgt := 119) b dX12_packs_112 (by decide) (by decide) ?_
  refine z_lconst (v := 0) b dX12_packs_119 (by decide) ?_
  refine z_lor (v := 3178592) b dX12_packs_120 (by decide) ?_
  refine z_lstore_n (lv' := [(1, .long 3178592), (4, .int 0), (3, .int 1), (0, .ref (a 0))]) b dX12_packs_121 rfl (by decide) rfl ?_
  refine z_iinc (k9 := 1) (v := 1) (lv' := [(4, .int 1), (1, .long 3178592), (3, .int 1), (0, .ref (a 0))]) b dX12_packs_122 rfl (by decide) (by decide) rfl ?_
  refine z_goto (tgt := 67) b dX12_packs_125 (by decide) ?_
  refine z_iload b dX12_packs_67 rfl ?_
  refine z_iconst (v := 2) b dX12_packs_69 (by decide) ?_
  refine z_icmp_ge_f (tgt := 128) b dX12_packs_70 (by decide) (by decide) ?_
  refine z_lload_n b dX12_packs_73 rfl rfl ?_
  refine z_iconst (v := 3) b dX12_packs_74 (by decide) ?_
  refine z_lshl (v := 25428736) b dX12_packs_75 (by decide) ?_
  refine z_aload_n b dX12_packs_76 rfl rfl ?_
  refine z_get (q0 := 0) (k9 := 1) (v := .ref (a 2)) b (mw_0 cy a S) rfl in_X12 (by decide) wf_X12_17 rfl dX12_packs_77 ?_
  refine z_iconst (v := 3) b dX12_packs_80 (by decide) ?_
  refine z_iload_n b dX12_packs_81 rfl rfl ?_
  refine z_imul (v := 3) b dX12_packs_82 (by decide) ?_
  refine z_iload_n b dX12_packs_83 rfl rfl ?_
  refine z_iload b dX12_packs_84 rfl ?_
  refine z_calli b (z_runS (As := [.int 1, .int 1]) (st := [.int 3, .ref (a 2), .long 25428736]) b (c_X12_other_3 S ) cf_X12_other wm_X12_160 ws_X12_other dX12_packs_86 rfl (Nat.le_of_ble_eq_true rfl) ⟨by decide, by decide, by decide, by decide⟩) (fun r2047 u2048 h2046 => ?_)
  obtain ⟨rfl, rfl⟩ := h2046
  refine z_iadd (v := 3) b dX12_packs_89 (by decide) ?_
  refine y_iald (q0 := 2) (j := 3) (v := (ar S 1 3)) b (mw_2 cy a S) (by decide) rfl dX12_packs_90 ?_
  refine z_eqi h_a_1_3 ?_
  refine z_i2l (v := 0) b dX12_packs_91 (by decide) ?_
  refine z_lor (v := 25428736) b dX12_packs_92 (by decide) ?_
  refine z_lstore_n (lv' := [(1, .long 25428736), (4, .int 1), (3, .int 1), (0, .ref (a 0))]) b dX12_packs_93 rfl (by decide) rfl ?_
  refine z_lload_n b dX12_packs_94 rfl rfl ?_
  refine z_iconst (v := 1) b dX12_packs_95 (by decide) ?_
  refine z_lshl (v := 50857472) b dX12_packs_96 (by decide) ?_
  refine z_aload_n b dX12_packs_97 rfl rfl ?_
  refine z_get (q0 := 0) (k9 := 4) (v := .ref (a 5)) b (mw_0 cy a S) rfl in_X12 (by decide) wf_X12_27 rfl dX12_packs_98 ?_
  refine z_iconst (v := 3) b dX12_packs_101 (by decide) ?_
  refine z_iload_n b dX12_packs_102 rfl rfl ?_
  refine z_imul (v := 3) b dX12_packs_103 (by decide) ?_
  refine z_iload_n b dX12_packs_104 rfl rfl ?_
  refine z_iload b dX12_packs_105 rfl ?_
  refine z_calli b (z_runS (As := [.int 1, .int 1]) (st := [.int 3, .ref (a 5), .long 50857472]) b (c_X12_other_3 S ) cf_X12_other wm_X12_160 ws_X12_other dX12_packs_107 rfl (Nat.le_of_ble_eq_true rfl) ⟨by decide, by decide, by decide, by decide⟩) (fun r2050 u2051 h2049 => ?_)
  obtain ⟨rfl, rfl⟩ := h2049
  refine z_iadd (v := 3) b dX12_packs_110 (by decide) ?_
  refine y_zald (q0 := 5) (j := 3) (v := (ar S 4 3)) b (mw_5 cy a S) (by decide) rfl dX12_packs_111 ?_
  refine z_eqi h_a_4_3 ?_
  refine z_if_eq_t (tgt := 119) b dX12_packs_112 (by decide) (by decide) ?_
  refine z_lconst (v := 0) b dX12_packs_119 (by decide) ?_
  refine z_lor (v := 50857472) b dX12_packs_120 (by decide) ?_
  refine z_lstore_n (lv' := [(1, .long 50857472), (4, .int 1), (3, .int 1), (0, .ref (a 0))]) b dX12_packs_121 rfl (by decide) rfl ?_
  refine z_iinc (k9 := 1) (v := 2) (lv' := [(4, .int 2), (1, .long 50857472), (3, .int 1), (0, .ref (a 0))]) b dX12_packs_122 rfl (by decide) (by decide) rfl ?_
  refine z_goto (tgt := 67) b dX12_packs_125 (by decide) ?_
  refine z_iload b dX12_packs_67 rfl ?_
  refine z_iconst (v := 2) b dX12_packs_69 (by decide) ?_
  refine z_icmp_ge_t (tgt := 128) b dX12_packs_70 (by decide) (by decide) ?_
  refine z_iinc (k9 := 2) (v := 2) (lv' := [(3, .int 2), (4, .int 2), (1, .long 50857472), (0, .ref (a 0))]) b dX12_packs_128 rfl (by decide) (by decide) rfl ?_
  refine z_goto (tgt := 8) b dX12_packs_131 (by decide) ?_
  refine z_iload_n b dX12_packs_8 rfl rfl ?_
  refine z_iconst (v := 3) b dX12_packs_9 (by decide) ?_
  refine z_icmp_ge_f (tgt := 134) b dX12_packs_10 (by decide) (by decide) ?_
  refine z_lload_n b dX12_packs_13 rfl rfl ?_
  refine z_iconst (v := 4) b dX12_packs_14 (by decide) ?_
  refine z_lshl (v := 813719552) b dX12_packs_15 (by decide) ?_
  refine z_aload_n b dX12_packs_16 rfl rfl ?_
  refine z_get (q0 := 0) (k9 := 0) (v := .ref (a 1)) b (mw_0 cy a S) rfl in_X12 (by decide) wf_X12_13 rfl dX12_packs_17 ?_
  refine z_iload_n b dX12_packs_20 rfl rfl ?_
  refine y_iald (q0 := 1) (j := 2) (v := (ar S 0 2)) b (mw_1 cy a S) (by decide) rfl dX12_packs_21 ?_
  refine z_eqi h_a_0_2 ?_
  refine z_i2l (v := 0) b dX12_packs_22 (by decide) ?_
  refine z_lor (v := 813719552) b dX12_packs_23 (by decide) ?_
  refine z_lstore_n (lv' := [(1, .long 813719552), (3, .int 2), (4, .int 2), (0, .ref (a 0))]) b dX12_packs_24 rfl (by decide) rfl ?_
  refine z_lload_n b dX12_packs_25 rfl rfl ?_
  refine z_iconst (v := 2) b dX12_packs_26 (by decide) ?_
  refine z_lshl (v := 3254878208) b dX12_packs_27 (by decide) ?_
  refine z_aload_n b dX12_packs_28 rfl rfl ?_
  refine z_get (q0 := 0) (k9 := 2) (v := .ref (a 3)) b (mw_0 cy a S) rfl in_X12 (by decide) wf_X12_20 rfl dX12_packs_29 ?_
  refine z_iload_n b dX12_packs_32 rfl rfl ?_
  refine y_iald (q0 := 3) (j := 2) (v := (ar S 2 2)) b (mw_3 cy a S) (by decide) rfl dX12_packs_33 ?_
  refine z_eqi h_a_2_2 ?_
  refine z_i2l (v := 3) b dX12_packs_34 (by decide) ?_
  refine z_lor (v := 3254878211) b dX12_packs_35 (by decide) ?_
  exact k

set_option maxHeartbeats 4000000 in
set_option maxRecDepth 100000 in
theorem c_X12_packs_16 {l : Launch} {D : va_G} {cy : Nat → ClassId} {T0 tB tE : Nat} {a : Nat → Nat} (S : GS)  (h_i_0 : fi S 0 = 0) (h_a_0_0 : ar S 0 0 = 0) (h_a_2_0 : ar S 2 0 = 3) (h_a_3_1 : ar S 3 1 = 0) (h_a_1_1 : ar S 1 1 = 0) (h_a_4_1 : ar S 4 1 = 1) (h_a_1_2 : ar S 1 2 = 0) (h_a_4_2 : ar S 4 2 = 0) (h_a_0_1 : ar S 0 1 = 0) (h_a_2_1 : ar S 2 1 = 3) (h_a_3_5 : ar S 3 5 = 0) (h_a_1_5 : ar S 1 5 = 0) (h_a_4_5 : ar S 4 5 = 0) (h_a_1_3 : ar S 1 3 = 0) (h_a_4_3 : ar S 4 3 = 0) (h_a_0_2 : ar S 0 2 = 0) (h_a_2_2 : ar S 2 2 = 3) (h_a_3_6 : ar S 3 6 = 0) (h_a_1_6 : ar S 1 6 = 0) (h_a_4_6 : ar S 4 6 = 0) (h_a_1_7 : ar S 1 7 = 0) (h_a_4_7 : ar S 4 7 = 0) : Ct l D cy T0 tB tE yX12_packs cX12_packs 5 (some .long) 1 21 0 0 (mw cy a S) [.ref (a 0)] (QL D (U := GS) (fun r u => 1666497644032 = r ∧ S = u) (mw cy a)) := by
  refine Ct.ofZ RX12 "packs" [(0, .ref (a 0))] rfl rfl rfl rfl (Nat.le_of_ble_eq_true rfl) ?_
  intro p e R s m args below meth c A b
  refine ch_X12_packs_34 S  h_a_0_0 h_a_1_1 h_a_1_2 h_a_2_0 h_a_3_1 h_a_4_1 h_a_4_2 h_i_0  b ?_
  refine ch_X12_packs_35 S  h_a_0_1 h_a_0_2 h_a_1_3 h_a_1_5 h_a_2_1 h_a_2_2 h_a_3_5 h_a_4_3 h_a_4_5  b ?_
  refine z_lstore_n (lv' := [(1, .long 3254878211), (3, .int 2), (4, .int 2), (0, .ref (a 0))]) b dX12_packs_36 rfl (by decide) rfl ?_
  refine z_lload_n b dX12_packs_37 rfl rfl ?_
  refine z_iconst (v := 1) b dX12_packs_38 (by decide) ?_
  refine z_lshl (v := 6509756422) b dX12_packs_39 (by decide) ?_
  refine z_aload_n b dX12_packs_40 rfl rfl ?_
  refine z_get (q0 := 0) (k9 := 3) (v := .ref (a 4)) b (mw_0 cy a S) rfl in_X12 (by decide) wf_X12_23 rfl dX12_packs_41 ?_
  refine z_iconst (v := 3) b dX12_packs_44 (by decide) ?_
  refine z_iload_n b dX12_packs_45 rfl rfl ?_
  refine z_imul (v := 6) b dX12_packs_46 (by decide) ?_
  refine z_iload_n b dX12_packs_47 rfl rfl ?_
  refine z_iconst (v := 0) b dX12_packs_48 (by decide) ?_
  refine z_calli b (z_runS (As := [.int 2, .int 0]) (st := [.int 6, .ref (a 4), .long 6509756422]) b (c_X12_other_2 S ) cf_X12_other wm_X12_160 ws_X12_other dX12_packs_49 rfl (Nat.le_of_ble_eq_true rfl) ⟨by decide, by decide, by decide, by decide⟩) (fun r2053 u2054 h2052 => ?_)
  obtain ⟨rfl, rfl⟩ := h2052
  refine z_iadd (v := 6) b dX12_packs_52 (by decide) ?_
  refine y_zald (q0 := 4) (j := 6) (v := (ar S 3 6)) b (mw_4 cy a S) (by decide) rfl dX12_packs_53 ?_
  refine z_eqi h_a_3_6 ?_
  refine z_if_eq_t (tgt := 61) b dX12_packs_54 (by decide) (by decide) ?_
  refine z_lconst (v := 0) b dX12_packs_61 (by decide) ?_
  refine z_lor (v := 6509756422) b dX12_packs_62 (by decide) ?_
  refine z_lstore_n (lv' := [(1, .long 6509756422), (3, .int 2), (4, .int 2), (0, .ref (a 0))]) b dX12_packs_63 rfl (by decide) rfl ?_
  refine z_iconst (v := 0) b dX12_packs_64 (by decide) ?_
  refine z_istore (lv' := [(4, .int 0), (1, .long 6509756422), (3, .int 2), (0, .ref (a 0))]) b dX12_packs_65 (by decide) rfl ?_
  refine z_iload b dX12_packs_67 rfl ?_
  refine z_iconst (v := 2) b dX12_packs_69 (by decide) ?_
  refine z_icmp_ge_f (tgt := 128) b dX12_packs_70 (by decide) (by decide) ?_
  refine z_lload_n b dX12_packs_73 rfl rfl ?_
  refine z_iconst (v := 3) b dX12_packs_74 (by decide) ?_
  refine z_lshl (v := 52078051376) b dX12_packs_75 (by decide) ?_
  refine z_aload_n b dX12_packs_76 rfl rfl ?_
  refine z_get (q0 := 0) (k9 := 1) (v := .ref (a 2)) b (mw_0 cy a S) rfl in_X12 (by decide) wf_X12_17 rfl dX12_packs_77 ?_
  refine z_iconst (v := 3) b dX12_packs_80 (by decide) ?_
  refine z_iload_n b dX12_packs_81 rfl rfl ?_
  refine z_imul (v := 6) b dX12_packs_82 (by decide) ?_
  refine z_iload_n b dX12_packs_83 rfl rfl ?_
  refine z_iload b dX12_packs_84 rfl ?_
  refine z_calli b (z_runS (As := [.int 2, .int 0]) (st := [.int 6, .ref (a 2), .long 52078051376]) b (c_X12_other_2 S ) cf_X12_other wm_X12_160 ws_X12_other dX12_packs_86 rfl (Nat.le_of_ble_eq_true rfl) ⟨by decide, by decide, by decide, by decide⟩) (fun r2056 u2057 h2055 => ?_)
  obtain ⟨rfl, rfl⟩ := h2055
  refine z_iadd (v := 6) b dX12_packs_89 (by decide) ?_
  refine y_iald (q0 := 2) (j := 6) (v := (ar S 1 6)) b (mw_2 cy a S) (by decide) rfl dX12_packs_90 ?_
  refine z_eqi h_a_1_6 ?_
  refine z_i2l (v := 0) b dX12_packs_91 (by decide) ?_
  refine z_lor (v := 52078051376) b dX12_packs_92 (by decide) ?_
  refine z_lstore_n (lv' := [(1, .long 52078051376), (4, .int 0), (3, .int 2), (0, .ref (a 0))]) b dX12_packs_93 rfl (by decide) rfl ?_
  refine z_lload_n b dX12_packs_94 rfl rfl ?_
  refine z_iconst (v := 1) b dX12_packs_95 (by decide) ?_
  refine z_lshl (v := 104156102752) b dX12_packs_96 (by decide) ?_
  refine z_aload_n b dX12_packs_97 rfl rfl ?_
  refine z_get (q0 := 0) (k9 := 4) (v := .ref (a 5)) b (mw_0 cy a S) rfl in_X12 (by decide) wf_X12_27 rfl dX12_packs_98 ?_
  refine z_iconst (v := 3) b dX12_packs_101 (by decide) ?_
  refine z_iload_n b dX12_packs_102 rfl rfl ?_
  refine z_imul (v := 6) b dX12_packs_103 (by decide) ?_
  refine z_iload_n b dX12_packs_104 rfl rfl ?_
  refine z_iload b dX12_packs_105 rfl ?_
  refine z_calli b (z_runS (As := [.int 2, .int 0]) (st := [.int 6, .ref (a 5), .long 104156102752]) b (c_X12_other_2 S ) cf_X12_other wm_X12_160 ws_X12_other dX12_packs_107 rfl (Nat.le_of_ble_eq_true rfl) ⟨by decide, by decide, by decide, by decide⟩) (fun r2059 u2060 h2058 => ?_)
  obtain ⟨rfl, rfl⟩ := h2058
  refine z_iadd (v := 6) b dX12_packs_110 (by decide) ?_
  refine y_zald (q0 := 5) (j := 6) (v := (ar S 4 6)) b (mw_5 cy a S) (by decide) rfl dX12_packs_111 ?_
  refine z_eqi h_a_4_6 ?_
  refine z_if_eq_t (tgt := 119) b dX12_packs_112 (by decide) (by decide) ?_
  refine z_lconst (v := 0) b dX12_packs_119 (by decide) ?_
  refine z_lor (v := 104156102752) b dX12_packs_120 (by decide) ?_
  refine z_lstore_n (lv' := [(1, .long 104156102752), (4, .int 0), (3, .int 2), (0, .ref (a 0))]) b dX12_packs_121 rfl (by decide) rfl ?_
  refine z_iinc (k9 := 1) (v := 1) (lv' := [(4, .int 1), (1, .long 104156102752), (3, .int 2), (0, .ref (a 0))]) b dX12_packs_122 rfl (by decide) (by decide) rfl ?_
  refine z_goto (tgt := 67) b dX12_packs_125 (by decide) ?_
  refine z_iload b dX12_packs_67 rfl ?_
  refine z_iconst (v := 2) b dX12_packs_69 (by decide) ?_
  refine z_icmp_ge_f (tgt := 128) b dX12_packs_70 (by decide) (by decide) ?_
  refine z_lload_n b dX12_packs_73 rfl rfl ?_
  refine z_iconst (v := 3) b dX12_packs_74 (by decide) ?_
  refine z_lshl (v := 833248822016) b dX12_packs_75 (by decide) ?_
  refine z_aload_n b dX12_packs_76 rfl rfl ?_
  refine z_get (q0 := 0) (k9 := 1) (v := .ref (a 2)) b (mw_0 cy a S) rfl in_X12 (by decide) wf_X12_17 rfl dX12_packs_77 ?_
  refine z_iconst (v := 3) b dX12_packs_80 (by decide) ?_
  refine z_iload_n b dX12_packs_81 rfl rfl ?_
  refine z_imul (v := 6) b dX12_packs_82 (by decide) ?_
  refine z_iload_n b dX12_packs_83 rfl rfl ?_
  refine z_iload b dX12_packs_84 rfl ?_
  refine z_calli b (z_runS (As := [.int 2, .int 1]) (st := [.int 6, .ref (a 2), .long 833248822016]) b (c_X12_other S ) cf_X12_other wm_X12_160 ws_X12_other dX12_packs_86 rfl (Nat.le_of_ble_eq_true rfl) ⟨by decide, by decide, by decide, by decide⟩) (fun r2062 u2063 h2061 => ?_)
  obtain ⟨rfl, rfl⟩ := h2061
  refine z_iadd (v := 7) b dX12_packs_89 (by decide) ?_
  refine y_iald (q0 := 2) (j := 7) (v := (ar S 1 7)) b (mw_2 cy a S) (by decide) rfl dX12_packs_90 ?_
  refine z_eqi h_a_1_7 ?_
  refine z_i2l (v := 0) b dX12_packs_91 (by decide) ?_
  refine z_lor (v := 833248822016) b dX12_packs_92 (by decide) ?_
  refine z_lstore_n (lv' := [(1, .long 833248822016), (4, .int 1), (3, .int 2), (0, .ref (a 0))]) b dX12_packs_93 rfl (by decide) rfl ?_
  refine z_lload_n b dX12_packs_94 rfl rfl ?_
  refine z_iconst (v := 1) b dX12_packs_95 (by decide) ?_
  refine z_lshl (v := 1666497644032) b dX12_packs_96 (by decide) ?_
  refine z_aload_n b dX12_packs_97 rfl rfl ?_
  refine z_get (q0 := 0) (k9 := 4) (v := .ref (a 5)) b (mw_0 cy a S) rfl in_X12 (by decide) wf_X12_27 rfl dX12_packs_98 ?_
  refine z_iconst (v := 3) b dX12_packs_101 (by decide) ?_
  refine z_iload_n b dX12_packs_102 rfl rfl ?_
  refine z_imul (v := 6) b dX12_packs_103 (by decide) ?_
  refine z_iload_n b dX12_packs_104 rfl rfl ?_
  refine z_iload b dX12_packs_105 rfl ?_
  refine z_calli b (z_runS (As := [.int 2, .int 1]) (st := [.int 6, .ref (a 5), .long 1666497644032]) b (c_X12_other S ) cf_X12_other wm_X12_160 ws_X12_other dX12_packs_107 rfl (Nat.le_of_ble_eq_true rfl) ⟨by decide, by decide, by decide, by decide⟩) (fun r2065 u2066 h2064 => ?_)
  obtain ⟨rfl, rfl⟩ := h2064
  refine z_iadd (v := 7) b dX12_packs_110 (by decide) ?_
  refine y_zald (q0 := 5) (j := 7) (v := (ar S 4 7)) b (mw_5 cy a S) (by decide) rfl dX12_packs_111 ?_
  refine z_eqi h_a_4_7 ?_
  refine z_if_eq_t (tgt := 119) b dX12_packs_112 (by decide) (by decide) ?_
  refine z_lconst (v := 0) b dX12_packs_119 (by decide) ?_
  refine z_lor (v := 1666497644032) b dX12_packs_120 (by decide) ?_
  refine z_lstore_n (lv' := [(1, .long 1666497644032), (4, .int 1), (3, .int 2), (0, .ref (a 0))]) b dX12_packs_121 rfl (by decide) rfl ?_
  refine z_iinc (k9 := 1) (v := 2) (lv' := [(4, .int 2), (1, .long 1666497644032), (3, .int 2), (0, .ref (a 0))]) b dX12_packs_122 rfl (by decide) (by decide) rfl ?_
  refine z_goto (tgt := 67) b dX12_packs_125 (by decide) ?_
  refine z_iload b dX12_packs_67 rfl ?_
  refine z_iconst (v := 2) b dX12_packs_69 (by decide) ?_
  refine z_icmp_ge_t (tgt := 128) b dX12_packs_70 (by decide) (by decide) ?_
  refine z_iinc (k9 := 2) (v := 3) (lv' := [(3, .int 3), (4, .int 2), (1, .long 1666497644032), (0, .ref (a 0))]) b dX12_packs_128 rfl (by decide) (by decide) rfl ?_
  refine z_goto (tgt := 8) b dX12_packs_131 (by decide) ?_
  refine z_iload_n b dX12_packs_8 rfl rfl ?_
  refine z_iconst (v := 3) b dX12_packs_9 (by decide) ?_
  refine z_icmp_ge_t (tgt := 134) b dX12_packs_10 (by decide) (by decide) ?_
  refine z_lload_n b dX12_packs_134 rfl rfl ?_
  exact z_lret (u := S) b rfl dX12_packs_135 ⟨rfl, rfl⟩ rfl (by decide) (by decide)

set_option maxHeartbeats 4000000 in
set_option maxRecDepth 100000 in
theorem c_X12_told_16 {l : Launch} {D : va_G} {cy : Nat → ClassId} {T0 tB tE : Nat} {a : Nat → Nat} (S : GS)  (h_i_0 : fi S 0 = 0) (h_a_0_0 : ar S 0 0 = 0) (h_a_2_0 : ar S 2 0 = 3) (h_a_3_1 : ar S 3 1 = 0) (h_a_1_1 : ar S 1 1 = 0) (h_a_4_1 : ar S 4 1 = 1) (h_a_1_2 : ar S 1 2 = 0) (h_a_4_2 : ar S 4 2 = 0) (h_a_0_1 : ar S 0 1 = 0) (h_a_2_1 : ar S 2 1 = 3) (h_a_3_5 : ar S 3 5 = 0) (h_a_1_5 : ar S 1 5 = 0) (h_a_4_5 : ar S 4 5 = 0) (h_a_1_3 : ar S 1 3 = 0) (h_a_4_3 : ar S 4 3 = 0) (h_a_0_2 : ar S 0 2 = 0) (h_a_2_2 : ar S 2 2 = 3) (h_a_3_6 : ar S 3 6 = 0) (h_a_1_6 : ar S 1 6 = 0) (h_a_4_6 : ar S 4 6 = 0) (h_a_1_7 : ar S 1 7 = 0) (h_a_4_7 : ar S 4 7 = 0) : Ct l D cy T0 tB tE yX12_told cX12_told 1 (some .boolean) 2 45 0 0 (mw cy a S) [.ref (a 0)] (QI D (U := GS) (fun r u => 1 = r ∧ sl S 0 1666497644032 = u) (mw cy a)) := by
  refine Ct.ofZ RX12 "told" [(0, .ref (a 0))] rfl rfl rfl rfl (Nat.le_of_ble_eq_true rfl) ?_
  intro p e R s m args below meth c A b
  refine z_aload_n b dX12_told_0 rfl rfl ?_
  refine z_aload_n b dX12_told_1 rfl rfl ?_
  refine z_calll b (z_runV (q0 := 0) (As := []) (st := [.ref (a 0)]) b (c_X12_packs_16 S h_i_0 h_a_0_0 h_a_2_0 h_a_3_1 h_a_1_1 h_a_4_1 h_a_1_2 h_a_4_2 h_a_0_1 h_a_2_1 h_a_3_5 h_a_1_5 h_a_4_5 h_a_1_3 h_a_4_3 h_a_0_2 h_a_2_2 h_a_3_6 h_a_1_6 h_a_4_6 h_a_1_7 h_a_4_7) cf_X12_packs (mw_0 cy a S) rfl wm_X12_149 wi_X12_packs ws_X12_packs dX12_told_2 rfl (Nat.le_of_ble_eq_true rfl) ⟨by decide, by decide, by decide, by decide⟩) (fun r2068 u2069 h2067 => ?_)
  obtain ⟨rfl, rfl⟩ := h2067
  refine z_put (q0 := 0) (k9 := 6) tyX12 b (mw_0 cy a S) rfl in_X12 tyX12_ok nmX12 (by decide) wf_X12_153 rfl rfl rfl rfl (Nat.le_of_ble_eq_true rfl) dX12_told_5 (mwp_0_6 cy a S 1666497644032) ?_
  refine z_iconst (v := 1) b dX12_told_8 (by decide) ?_
  exact z_zret (u := (sl S 0 1666497644032)) b rfl (by decide) dX12_told_9 ⟨rfl, rfl⟩ rfl (by decide) (by decide)

set_option maxHeartbeats 4000000 in
set_option maxRecDepth 100000 in
theorem c_X12_kin_28 {l : Launch} {D : va_G} {cy : Nat → ClassId} {T0 tB tE : Nat} {a : Nat → Nat} (S : GS)  (h_l_0 : fl S 0 = 1649317774848) (h_a_4_7 : ar S 4 7 = 0) (h_a_1_7 : ar S 1 7 = 0) (h_a_4_6 : ar S 4 6 = 0) (h_a_1_6 : ar S 1 6 = 0) (h_a_3_6 : ar S 3 6 = 0) (h_a_3_2 : ar S 3 2 = 0) (h_a_2_2 : ar S 2 2 = 3) (h_a_0_2 : ar S 0 2 = 0) (h_a_4_3 : ar S 4 3 = 0) (h_a_1_3 : ar S 1 3 = 0) (h_a_4_5 : ar S 4 5 = 0) (h_a_1_5 : ar S 1 5 = 0) (h_a_3_5 : ar S 3 5 = 0) (h_a_3_7 : ar S 3 7 = 0) (h_a_2_1 : ar S 2 1 = 3) (h_a_0_1 : ar S 0 1 = 0) (h_a_4_2 : ar S 4 2 = 0) (h_a_1_2 : ar S 1 2 = 0) (h_a_4_1 : ar S 4 1 = 0) (h_a_1_1 : ar S 1 1 = 0) (h_a_3_1 : ar S 3 1 = 0) (h_a_3_3 : ar S 3 3 = 0) (h_a_2_0 : ar S 2 0 = 3) (h_a_0_0 : ar S 0 0 = 0) (h_i_0 : fi S 0 = 0) : Ct l D cy T0 tB tE yX12_kin cX12_kin 5 (some .boolean) 3 65 0 0 (mw cy a S) [.ref (a 0), .int 0, .int 1, .int 1, .int 1] (QI D (U := GS) (fun r u => 1 = r ∧ sl (su S 4 1 1) 0 1666497644032 = u) (mw cy a)) := by
  refine Ct.ofZ RX12 "kin" [(0, .ref (a 0)), (1, .int 0), (2, .int 1), (3, .int 1), (4, .int 1)] rfl rfl rfl rfl (Nat.le_of_ble_eq_true rfl) ?_
  intro p e R s m args below meth c A b
  refine z_iload_n b dX12_kin_0 rfl rfl ?_
  refine z_calli b (z_runS (As := [.int 0]) (st := []) b (c_X12_isOne_3 S ) cf_X12_isOne wm_X12_170 ws_X12_isOne dX12_kin_1 rfl (Nat.le_of_ble_eq_true rfl) ⟨by decide, by decide, by decide, by decide⟩) (fun r2011 u2012 h2010 => ?_)
  obtain ⟨rfl, rfl⟩ := h2010
  refine z_if_eq_f (tgt := 28) b dX12_kin_4 (by decide) (by decide) ?_
  refine z_iload_n b dX12_kin_7 rfl rfl ?_
  refine z_calli b (z_runS (As := [.int 1]) (st := []) b (c_X12_isOne_4 S ) cf_X12_isOne wm_X12_170 ws_X12_isOne dX12_kin_8 rfl (Nat.le_of_ble_eq_true rfl) ⟨by decide, by decide, by decide, by decide⟩) (fun r2014 u2015 h2013 => ?_)
  obtain ⟨rfl, rfl⟩ := h2013
  refine z_if_eq_f (tgt := 28) b dX12_kin_11 (by decide) (by decide) ?_
  refine z_iload_n b dX12_kin_14 rfl rfl ?_
  refine z_iload_n b dX12_kin_15 rfl rfl ?_
  refine z_icmp_eq_f (tgt := 28) b dX12_kin_16 (by decide) (by decide) ?_
  refine z_iload_n b dX12_kin_19 rfl rfl ?_
  refine z_iconst (v := 0) b dX12_kin_20 (by decide) ?_
  refine z_iconst (v := 1) b dX12_kin_21 (by decide) ?_
  refine z_calli b (z_runS (As := [.int 1, .int 0, .int 1]) (st := []) b (c_X12_isIn_17 S ) cf_X12_isIn wm_X12_1 ws_X12_isIn dX12_kin_22 rfl (Nat.le_of_ble_eq_true rfl) ⟨by decide, by decide, by decide, by decide⟩) (fun r2017 u2018 h2016 => ?_)
  obtain ⟨rfl, rfl⟩ := h2016
  refine z_if_ne_t (tgt := 30) b dX12_kin_25 (by decide) (by decide) ?_
  refine z_aload_n b dX12_kin_30 rfl rfl ?_
  refine z_aload_n b dX12_kin_31 rfl rfl ?_
  refine z_get (q0 := 0) (k9 := 6) (v := .long (fl S 0)) b (mw_0 cy a S) rfl in_X12 (by decide) wf_X12_153 rfl dX12_kin_32 ?_
  refine z_eql h_l_0 ?_
  refine z_callv b (z_runV (q0 := 0) (As := [.long 1649317774848]) (st := []) b (c_X12_takes S h_a_4_7 h_a_1_7 h_a_4_6 h_a_1_6 h_a_3_6 h_a_3_2 h_a_2_2 h_a_0_2 h_a_4_3 h_a_1_3 h_a_4_5 h_a_1_5 h_a_3_5 h_a_3_7 h_a_2_1 h_a_0_1 h_a_4_2 h_a_1_2 h_a_4_1 h_a_1_1 h_a_3_1 h_a_3_3 h_a_2_0 h_a_0_0 h_i_0) cf_X12_takes (mw_0 cy a S) rfl wm_X12_174 wi_X12_takes ws_X12_takes dX12_kin_35 rfl (Nat.le_of_ble_eq_true rfl) ⟨by decide, by decide, by decide, by decide⟩) (fun u2021 h2019 => ?_)
  obtain rfl := h2019
  refine z_iload_n b dX12_kin_38 rfl rfl ?_
  refine z_iconst (v := 1) b dX12_kin_39 (by decide) ?_
  refine z_icmp_ne_f (tgt := 58) b dX12_kin_40 (by decide) (by decide) ?_
  refine z_aload_n b dX12_kin_43 rfl rfl ?_
  refine z_get (q0 := 0) (k9 := 4) (v := .ref (a 5)) b (mw_0 cy a S) rfl in_X12 (by decide) wf_X12_27 rfl dX12_kin_44 ?_
  refine z_iconst (v := 3) b dX12_kin_47 (by decide) ?_
  refine z_iload_n b dX12_kin_48 rfl rfl ?_
  refine z_imul (v := 0) b dX12_kin_49 (by decide) ?_
  refine z_iload_n b dX12_kin_50 rfl rfl ?_
  refine z_iadd (v := 1) b dX12_kin_51 (by decide) ?_
  refine z_iload b dX12_kin_52 rfl ?_
  refine y_zast (q0 := 5) (j := 1) b (mw_5 cy a S) (by decide) (by decide) dX12_kin_54 (mwa_5 cy a S 1 1) ?_
  refine z_goto (tgt := 82) b dX12_kin_55 (by decide) ?_
  refine z_aload_n b dX12_kin_82 rfl rfl ?_
  refine z_calli b (z_runV (q0 := 0) (As := []) (st := []) b (c_X12_told_16 (su S 4 1 1) h_i_0 h_a_0_0 h_a_2_0 h_a_3_1 h_a_1_1 rfl h_a_1_2 h_a_4_2 h_a_0_1 h_a_2_1 h_a_3_5 h_a_1_5 h_a_4_5 h_a_1_3 h_a_4_3 h_a_0_2 h_a_2_2 h_a_3_6 h_a_1_6 h_a_4_6 h_a_1_7 h_a_4_7) cf_X12_told (mw_0 cy a (su S 4 1 1)) rfl wm_X12_178 wi_X12_told ws_X12_told dX12_kin_83 rfl (Nat.le_of_ble_eq_true rfl) ⟨by decide, by decide, by decide, by decide⟩) (fun r2071 u2072 h2070 => ?_)
  obtain ⟨rfl, rfl⟩ := h2070
  exact z_zret (u := (sl (su S 4 1 1) 0 1666497644032)) b rfl (by decide) dX12_kin_86 ⟨rfl, rfl⟩ rfl (by decide) (by decide)

set_option maxHeartbeats 4000000 in
set_option maxRecDepth 100000 in
theorem c_X11_isWithin_13 {l : Launch} {D : va_G} {cy : Nat → ClassId} {T0 tB tE : Nat} {a : Nat → Nat} {rw : Nat → Option Nat} (S : GS) (p0 : Int32)  (hr_p0 : 2 ≤ p0.toInt ∧ p0.toInt ≤ 2147483647) : Ct l D cy T0 tB tE yX11_isWithin cX11_isWithin 2 (some .boolean) 0 0 0 0 (cw cy tE a rw S) [.int p0, .int 1] (QI D (U := GS) (fun r u => 0 = r ∧ S = u) (cw cy tE a rw)) := by
  refine Ct.ofZ RX11 "isWithin" [(0, .int p0), (1, .int 1)] rfl rfl rfl rfl (Nat.le_of_ble_eq_true rfl) ?_
  intro p e R s m args below meth c A b
  refine z_iload_n b dX11_isWithin_0 rfl rfl ?_
  refine y_if_lt (tgt := 13) (xl := p0.toInt) b rfl dX11_isWithin_1 (by decide) (fun c2076 => ?_) (fun c2076 => ?_)
  · exfalso; omega
  · refine z_iload_n b dX11_isWithin_4 rfl rfl ?_
    refine z_iload_n b dX11_isWithin_5 rfl rfl ?_
    refine y_icmp_gt (tgt := 13) (xl := p0.toInt) (yl := 1) b rfl (by decide) dX11_isWithin_6 (by decide) (fun c2077 => ?_) (fun c2077 => ?_)
    · refine z_iconst (v := 0) b dX11_isWithin_13 (by decide) ?_
      exact z_zret (u := S) b rfl (by decide) dX11_isWithin_14 ⟨rfl, rfl⟩ rfl (by decide) (by decide)
    · exfalso; omega

set_option maxHeartbeats 4000000 in
set_option maxRecDepth 100000 in
theorem c_X11_kin_29 {l : Launch} {D : va_G} {cy : Nat → ClassId} {T0 tB tE : Nat} {a : Nat → Nat} {rw : Nat → Option Nat} (S : GS) (p0 : Int32)  (hr_p0 : 2 ≤ p0.toInt ∧ p0.toInt ≤ 2147483647) : Ct l D cy T0 tB tE yX11_kin cX11_kin 6 (some .boolean) 2 41 0 0 (cw cy tE a rw S) [.ref (a 0), .int 0, .int 1, .int p0, .int 0] (QI D (U := GS) (fun r u => 0 = r ∧ S = u) (cw cy tE a rw)) := by
  refine Ct.ofZ RX11 "kin" [(0, .ref (a 0)), (1, .int 0), (2, .int 1), (3, .int p0), (4, .int 0)] rfl rfl rfl rfl (Nat.le_of_ble_eq_true rfl) ?_
  intro p e R s m args below meth c A b
  refine z_iload_n b dX11_kin_0 rfl rfl ?_
  refine z_iload_n b dX11_kin_1 rfl rfl ?_
  refine z_calli b (z_runS (As := [.int 0, .int 1]) (st := []) b (c_X11_arePair_12 S ) cf_X11_arePair wm_X11_84 ws_X11_arePair dX11_kin_2 rfl (Nat.le_of_ble_eq_true rfl) ⟨by decide, by decide, by decide, by decide⟩) (fun r2074 u2075 h2073 => ?_)
  obtain ⟨rfl, rfl⟩ := h2073
  refine z_if_eq_f (tgt := 16) b dX11_kin_5 (by decide) (by decide) ?_
  refine z_iload_n b dX11_kin_8 rfl rfl ?_
  refine z_iconst (v := 1) b dX11_kin_9 (by decide) ?_
  refine z_calli b (z_runS (As := [.int p0, .int 1]) (st := []) b (c_X11_isWithin_13 S p0 ⟨by omega, by omega⟩) cf_X11_isWithin wm_X11_73 ws_X11_isWithin dX11_kin_10 rfl (Nat.le_of_ble_eq_true rfl) ⟨by decide, by decide, by decide, by decide⟩) (fun r2079 u2080 h2078 => ?_)
  obtain ⟨rfl, rfl⟩ := h2078
  refine z_if_ne_f (tgt := 18) b dX11_kin_13 (by decide) (by decide) ?_
  refine z_iconst (v := 0) b dX11_kin_16 (by decide) ?_
  exact z_zret (u := S) b rfl (by decide) dX11_kin_17 ⟨rfl, rfl⟩ rfl (by decide) (by decide)

set_option maxHeartbeats 4000000 in
set_option maxRecDepth 100000 in
theorem c_X12_isIn_18 {l : Launch} {D : va_G} {cy : Nat → ClassId} {T0 tB tE : Nat} {a : Nat → Nat} (S : GS) (p0 : Int32)  (hr_p0 : 2 ≤ p0.toInt ∧ p0.toInt ≤ 2147483647) : Ct l D cy T0 tB tE yX12_isIn cX12_isIn 3 (some .boolean) 0 0 0 0 (mw cy a S) [.int p0, .int 0, .int 1] (QI D (U := GS) (fun r u => 0 = r ∧ S = u) (mw cy a)) := by
  refine Ct.ofZ RX12 "isIn" [(0, .int p0), (1, .int 0), (2, .int 1)] rfl rfl rfl rfl (Nat.le_of_ble_eq_true rfl) ?_
  intro p e R s m args below meth c A b
  refine z_iload_n b dX12_isIn_0 rfl rfl ?_
  refine z_iload_n b dX12_isIn_1 rfl rfl ?_
  refine y_icmp_lt (tgt := 14) (xl := p0.toInt) (yl := 0) b rfl (by decide) dX12_isIn_2 (by decide) (fun c2087 => ?_) (fun c2087 => ?_)
  · exfalso; omega
  · refine z_iload_n b dX12_isIn_5 rfl rfl ?_
    refine z_iload_n b dX12_isIn_6 rfl rfl ?_
    refine y_icmp_gt (tgt := 14) (xl := p0.toInt) (yl := 1) b rfl (by decide) dX12_isIn_7 (by decide) (fun c2088 => ?_) (fun c2088 => ?_)
    · refine z_iconst (v := 0) b dX12_isIn_14 (by decide) ?_
      exact z_zret (u := S) b rfl (by decide) dX12_isIn_15 ⟨rfl, rfl⟩ rfl (by decide) (by decide)
    · exfalso; omega

set_option maxHeartbeats 4000000 in
set_option maxRecDepth 100000 in
theorem c_X12_kin_29 {l : Launch} {D : va_G} {cy : Nat → ClassId} {T0 tB tE : Nat} {a : Nat → Nat} (S : GS) (p0 : Int32)  (hr_p0 : 2 ≤ p0.toInt ∧ p0.toInt ≤ 2147483647) : Ct l D cy T0 tB tE yX12_kin cX12_kin 5 (some .boolean) 2 42 0 0 (mw cy a S) [.ref (a 0), .int 0, .int 1, .int p0, .int 0] (QI D (U := GS) (fun r u => 0 = r ∧ S = u) (mw cy a)) := by
  refine Ct.ofZ RX12 "kin" [(0, .ref (a 0)), (1, .int 0), (2, .int 1), (3, .int p0), (4, .int 0)] rfl rfl rfl rfl (Nat.le_of_ble_eq_true rfl) ?_
  intro p e R s m args below meth c A b
  refine z_iload_n b dX12_kin_0 rfl rfl ?_
  refine z_calli b (z_runS (As := [.int 0]) (st := []) b (c_X12_isOne_3 S ) cf_X12_isOne wm_X12_170 ws_X12_isOne dX12_kin_1 rfl (Nat.le_of_ble_eq_true rfl) ⟨by decide, by decide, by decide, by decide⟩) (fun r2082 u2083 h2081 => ?_)
  obtain ⟨rfl, rfl⟩ := h2081
  refine z_if_eq_f (tgt := 28) b dX12_kin_4 (by decide) (by decide) ?_
  refine z_iload_n b dX12_kin_7 rfl rfl ?_
  refine z_calli b (z_runS (As := [.int 1]) (st := []) b (c_X12_isOne_4 S ) cf_X12_isOne wm_X12_170 ws_X12_isOne dX12_kin_8 rfl (Nat.le_of_ble_eq_true rfl) ⟨by decide, by decide, by decide, by decide⟩) (fun r2085 u2086 h2084 => ?_)
  obtain ⟨rfl, rfl⟩ := h2084
  refine z_if_eq_f (tgt := 28) b dX12_kin_11 (by decide) (by decide) ?_
  refine z_iload_n b dX12_kin_14 rfl rfl ?_
  refine z_iload_n b dX12_kin_15 rfl rfl ?_
  refine z_icmp_eq_f (tgt := 28) b dX12_kin_16 (by decide) (by decide) ?_
  refine z_iload_n b dX12_kin_19 rfl rfl ?_
  refine z_iconst (v := 0) b dX12_kin_20 (by decide) ?_
  refine z_iconst (v := 1) b dX12_kin_21 (by decide) ?_
  refine z_calli b (z_runS (As := [.int p0, .int 0, .int 1]) (st := []) b (c_X12_isIn_18 S p0 ⟨by omega, by omega⟩) cf_X12_isIn wm_X12_1 ws_X12_isIn dX12_kin_22 rfl (Nat.le_of_ble_eq_true rfl) ⟨by decide, by decide, by decide, by decide⟩) (fun r2090 u2091 h2089 => ?_)
  obtain ⟨rfl, rfl⟩ := h2089
  refine z_if_ne_f (tgt := 30) b dX12_kin_25 (by decide) (by decide) ?_
  refine z_iconst (v := 0) b dX12_kin_28 (by decide) ?_
  exact z_zret (u := S) b rfl (by decide) dX12_kin_29 ⟨rfl, rfl⟩ rfl (by decide) (by decide)

set_option maxHeartbeats 4000000 in
set_option maxRecDepth 100000 in
theorem c_X11_kin_30 {l : Launch} {D : va_G} {cy : Nat → ClassId} {T0 tB tE : Nat} {a : Nat → Nat} {rw : Nat → Option Nat} (S : GS) (p0 : Int32)  (hr_p0 : 2 ≤ p0.toInt ∧ p0.toInt ≤ 2147483647) : Ct l D cy T0 tB tE yX11_kin cX11_kin 6 (some .boolean) 2 41 0 0 (cw cy tE a rw S) [.ref (a 0), .int 0, .int 1, .int p0, .int 1] (QI D (U := GS) (fun r u => 0 = r ∧ S = u) (cw cy tE a rw)) := by
  refine Ct.ofZ RX11 "kin" [(0, .ref (a 0)), (1, .int 0), (2, .int 1), (3, .int p0), (4, .int 1)] rfl rfl rfl rfl (Nat.le_of_ble_eq_true rfl) ?_
  intro p e R s m args below meth c A b
  refine z_iload_n b dX11_kin_0 rfl rfl ?_
  refine z_iload_n b dX11_kin_1 rfl rfl ?_
  refine z_calli b (z_runS (As := [.int 0, .int 1]) (st := []) b (c_X11_arePair_12 S ) cf_X11_arePair wm_X11_84 ws_X11_arePair dX11_kin_2 rfl (Nat.le_of_ble_eq_true rfl) ⟨by decide, by decide, by decide, by decide⟩) (fun r2093 u2094 h2092 => ?_)
  obtain ⟨rfl, rfl⟩ := h2092
  refine z_if_eq_f (tgt := 16) b dX11_kin_5 (by decide) (by decide) ?_
  refine z_iload_n b dX11_kin_8 rfl rfl ?_
  refine z_iconst (v := 1) b dX11_kin_9 (by decide) ?_
  refine z_calli b (z_runS (As := [.int p0, .int 1]) (st := []) b (c_X11_isWithin_13 S p0 ⟨by omega, by omega⟩) cf_X11_isWithin wm_X11_73 ws_X11_isWithin dX11_kin_10 rfl (Nat.le_of_ble_eq_true rfl) ⟨by decide, by decide, by decide, by decide⟩) (fun r2096 u2097 h2095 => ?_)
  obtain ⟨rfl, rfl⟩ := h2095
  refine z_if_ne_f (tgt := 18) b dX11_kin_13 (by decide) (by decide) ?_
  refine z_iconst (v := 0) b dX11_kin_16 (by decide) ?_
  exact z_zret (u := S) b rfl (by decide) dX11_kin_17 ⟨rfl, rfl⟩ rfl (by decide) (by decide)

set_option maxHeartbeats 4000000 in
set_option maxRecDepth 100000 in
theorem c_X12_kin_30 {l : Launch} {D : va_G} {cy : Nat → ClassId} {T0 tB tE : Nat} {a : Nat → Nat} (S : GS) (p0 : Int32)  (hr_p0 : 2 ≤ p0.toInt ∧ p0.toInt ≤ 2147483647) : Ct l D cy T0 tB tE yX12_kin cX12_kin 5 (some .boolean) 2 42 0 0 (mw cy a S) [.ref (a 0), .int 0, .int 1, .int p0, .int 1] (QI D (U := GS) (fun r u => 0 = r ∧ S = u) (mw cy a)) := by
  refine Ct.ofZ RX12 "kin" [(0, .ref (a 0)), (1, .int 0), (2, .int 1), (3, .int p0), (4, .int 1)] rfl rfl rfl rfl (Nat.le_of_ble_eq_true rfl) ?_
  intro p e R s m args below meth c A b
  refine z_iload_n b dX12_kin_0 rfl rfl ?_
  refine z_calli b (z_runS (As := [.int 0]) (st := []) b (c_X12_isOne_3 S ) cf_X12_isOne wm_X12_170 ws_X12_isOne dX12_kin_1 rfl (Nat.le_of_ble_eq_true rfl) ⟨by decide, by decide, by decide, by decide⟩) (fun r2099 u2100 h2098 => ?_)
  obtain ⟨rfl, rfl⟩ := h2098
  refine z_if_eq_f (tgt := 28) b dX12_kin_4 (by decide) (by decide) ?_
  refine z_iload_n b dX12_kin_7 rfl rfl ?_
  refine z_calli b (z_runS (As := [.int 1]) (st := []) b (c_X12_isOne_4 S ) cf_X12_isOne wm_X12_170 ws_X12_isOne dX12_kin_8 rfl (Nat.le_of_ble_eq_true rfl) ⟨by decide, by decide, by decide, by decide⟩) (fun r2102 u2103 h2101 => ?_)
  obtain ⟨rfl, rfl⟩ := h2101
  refine z_if_eq_f (tgt := 28) b dX12_kin_11 (by decide) (by decide) ?_
  refine z_iload_n b dX12_kin_14 rfl rfl ?_
  refine z_iload_n b dX12_kin_15 rfl rfl ?_
  refine z_icmp_eq_f (tgt := 28) b dX12_kin_16 (by decide) (by decide) ?_
  refine z_iload_n b dX12_kin_19 rfl rfl ?_
  refine z_iconst (v := 0) b dX12_kin_20 (by decide) ?_
  refine z_iconst (v := 1) b dX12_kin_21 (by decide) ?_
  refine z_calli b (z_runS (As := [.int p0, .int 0, .int 1]) (st := []) b (c_X12_isIn_18 S p0 ⟨by omega, by omega⟩) cf_X12_isIn wm_X12_1 ws_X12_isIn dX12_kin_22 rfl (Nat.le_of_ble_eq_true rfl) ⟨by decide, by decide, by decide, by decide⟩) (fun r2105 u2106 h2104 => ?_)
  obtain ⟨rfl, rfl⟩ := h2104
  refine z_if_ne_f (tgt := 30) b dX12_kin_25 (by decide) (by decide) ?_
  refine z_iconst (v := 0) b dX12_kin_28 (by decide) ?_
  exact z_zret (u := S) b rfl (by decide) dX12_kin_29 ⟨rfl, rfl⟩ rfl (by decide) (by decide)

set_option maxHeartbeats 4000000 in
set_option maxRecDepth 100000 in
theorem c_X11_kin_31 {l : Launch} {D : va_G} {cy : Nat → ClassId} {T0 tB tE : Nat} {a : Nat → Nat} {rw : Nat → Option Nat} (S : GS) (p0 : Int32)  (hr_p0 : (-2147483648) ≤ p0.toInt ∧ p0.toInt ≤ (-1)) : Ct l D cy T0 tB tE yX11_kin cX11_kin 6 (some .boolean) 2 41 0 0 (cw cy tE a rw S) [.ref (a 0), .int 0, .int 2, .int p0, .int 0] (QI D (U := GS) (fun r u => 0 = r ∧ S = u) (cw cy tE a rw)) := by
  refine Ct.ofZ RX11 "kin" [(0, .ref (a 0)), (1, .int 0), (2, .int 2), (3, .int p0), (4, .int 0)] rfl rfl rfl rfl (Nat.le_of_ble_eq_true rfl) ?_
  intro p e R s m args below meth c A b
  refine z_iload_n b dX11_kin_0 rfl rfl ?_
  refine z_iload_n b dX11_kin_1 rfl rfl ?_
  refine z_calli b (z_runS (As := [.int 0, .int 2]) (st := []) b (c_X11_arePair_13 S ) cf_X11_arePair wm_X11_84 ws_X11_arePair dX11_kin_2 rfl (Nat.le_of_ble_eq_true rfl) ⟨by decide, by decide, by decide, by decide⟩) (fun r2108 u2109 h2107 => ?_)
  obtain ⟨rfl, rfl⟩ := h2107
  refine z_if_eq_f (tgt := 16) b dX11_kin_5 (by decide) (by decide) ?_
  refine z_iload_n b dX11_kin_8 rfl rfl ?_
  refine z_iconst (v := 1) b dX11_kin_9 (by decide) ?_
  refine z_calli b (z_runS (As := [.int p0, .int 1]) (st := []) b (c_X11_isWithin_10 S p0 ⟨by omega, by omega⟩) cf_X11_isWithin wm_X11_73 ws_X11_isWithin dX11_kin_10 rfl (Nat.le_of_ble_eq_true rfl) ⟨by decide, by decide, by decide, by decide⟩) (fun r2111 u2112 h2110 => ?_)
  obtain ⟨rfl, rfl⟩ := h2110
  refine z_if_ne_f (tgt := 18) b dX11_kin_13 (by decide) (by decide) ?_
  refine z_iconst (v := 0) b dX11_kin_16 (by decide) ?_
  exact z_zret (u := S) b rfl (by decide) dX11_kin_17 ⟨rfl, rfl⟩ rfl (by decide) (by decide)

set_option maxHeartbeats 4000000 in
set_option maxRecDepth 100000 in
theorem c_X12_kin_31 {l : Launch} {D : va_G} {cy : Nat → ClassId} {T0 tB tE : Nat} {a : Nat → Nat} (S : GS) (p0 : Int32)  (hr_p0 : (-2147483648) ≤ p0.toInt ∧ p0.toInt ≤ (-1)) : Ct l D cy T0 tB tE yX12_kin cX12_kin 5 (some .boolean) 2 42 0 0 (mw cy a S) [.ref (a 0), .int 0, .int 2, .int p0, .int 0] (QI D (U := GS) (fun r u => 0 = r ∧ S = u) (mw cy a)) := by
  refine Ct.ofZ RX12 "kin" [(0, .ref (a 0)), (1, .int 0), (2, .int 2), (3, .int p0), (4, .int 0)] rfl rfl rfl rfl (Nat.le_of_ble_eq_true rfl) ?_
  intro p e R s m args below meth c A b
  refine z_iload_n b dX12_kin_0 rfl rfl ?_
  refine z_calli b (z_runS (As := [.int 0]) (st := []) b (c_X12_isOne_3 S ) cf_X12_isOne wm_X12_170 ws_X12_isOne dX12_kin_1 rfl (Nat.le_of_ble_eq_true rfl) ⟨by decide, by decide, by decide, by decide⟩) (fun r2114 u2115 h2113 => ?_)
  obtain ⟨rfl, rfl⟩ := h2113
  refine z_if_eq_f (tgt := 28) b dX12_kin_4 (by decide) (by decide) ?_
  refine z_iload_n b dX12_kin_7 rfl rfl ?_
  refine z_calli b (z_runS (As := [.int 2]) (st := []) b (c_X12_isOne_5 S ) cf_X12_isOne wm_X12_170 ws_X12_isOne dX12_kin_8 rfl (Nat.le_of_ble_eq_true rfl) ⟨by decide, by decide, by decide, by decide⟩) (fun r2117 u2118 h2116 => ?_)
  obtain ⟨rfl, rfl⟩ := h2116
  refine z_if_eq_f (tgt := 28) b dX12_kin_11 (by decide) (by decide) ?_
  refine z_iload_n b dX12_kin_14 rfl rfl ?_
  refine z_iload_n b dX12_kin_15 rfl rfl ?_
  refine z_icmp_eq_f (tgt := 28) b dX12_kin_16 (by decide) (by decide) ?_
  refine z_iload_n b dX12_kin_19 rfl rfl ?_
  refine z_iconst (v := 0) b dX12_kin_20 (by decide) ?_
  refine z_iconst (v := 1) b dX12_kin_21 (by decide) ?_
  refine z_calli b (z_runS (As := [.int p0, .int 0, .int 1]) (st := []) b (c_X12_isIn_15 S p0 ⟨by omega, by omega⟩) cf_X12_isIn wm_X12_1 ws_X12_isIn dX12_kin_22 rfl (Nat.le_of_ble_eq_true rfl) ⟨by decide, by decide, by decide, by decide⟩) (fun r2120 u2121 h2119 => ?_)
  obtain ⟨rfl, rfl⟩ := h2119
  refine z_if_ne_f (tgt := 30) b dX12_kin_25 (by decide) (by decide) ?_
  refine z_iconst (v := 0) b dX12_kin_28 (by decide) ?_
  exact z_zret (u := S) b rfl (by decide) dX12_kin_29 ⟨rfl, rfl⟩ rfl (by decide) (by decide)

set_option maxHeartbeats 4000000 in
set_option maxRecDepth 100000 in
theorem c_X11_kin_32 {l : Launch} {D : va_G} {cy : Nat → ClassId} {T0 tB tE : Nat} {a : Nat → Nat} {rw : Nat → Option Nat} (S : GS) (p0 : Int32)  (hr_p0 : (-2147483648) ≤ p0.toInt ∧ p0.toInt ≤ (-1)) : Ct l D cy T0 tB tE yX11_kin cX11_kin 6 (some .boolean) 2 41 0 0 (cw cy tE a rw S) [.ref (a 0), .int 0, .int 2, .int p0, .int 1] (QI D (U := GS) (fun r u => 0 = r ∧ S = u) (cw cy tE a rw)) := by
  refine Ct.ofZ RX11 "kin" [(0, .ref (a 0)), (1, .int 0), (2, .int 2), (3, .int p0), (4, .int 1)] rfl rfl rfl rfl (Nat.le_of_ble_eq_true rfl) ?_
  intro p e R s m args below meth c A b
  refine z_iload_n b dX11_kin_0 rfl rfl ?_
  refine z_iload_n b dX11_kin_1 rfl rfl ?_
  refine z_calli b (z_runS (As := [.int 0, .int 2]) (st := []) b (c_X11_arePair_13 S ) cf_X11_arePair wm_X11_84 ws_X11_arePair dX11_kin_2 rfl (Nat.le_of_ble_eq_true rfl) ⟨by decide, by decide, by decide, by decide⟩) (fun r2123 u2124 h2122 => ?_)
  obtain ⟨rfl, rfl⟩ := h2122
  refine z_if_eq_f (tgt := 16) b dX11_kin_5 (by decide) (by decide) ?_
  refine z_iload_n b dX11_kin_8 rfl rfl ?_
  refine z_iconst (v := 1) b dX11_kin_9 (by decide) ?_
  refine z_calli b (z_runS (As := [.int p0, .int 1]) (st := []) b (c_X11_isWithin_10 S p0 ⟨by omega, by omega⟩) cf_X11_isWithin wm_X11_73 ws_X11_isWithin dX11_kin_10 rfl (Nat.le_of_ble_eq_true rfl) ⟨by decide, by decide, by decide, by decide⟩) (fun r2126 u2127 h2125 => ?_)
  obtain ⟨rfl, rfl⟩ := h2125
  refine z_if_ne_f (tgt := 18) b dX11_kin_13 (by decide) (by decide) ?_
  refine z_iconst (v := 0) b dX11_kin_16 (by decide) ?_
  exact z_zret (u := S) b rfl (by decide) dX11_kin_17 ⟨rfl, rfl⟩ rfl (by decide) (by decide)

set_option maxHeartbeats 4000000 in
set_option maxRecDepth 100000 in
theorem c_X12_kin_32 {l : Launch} {D : va_G} {cy : Nat → ClassId} {T0 tB tE : Nat} {a : Nat → Nat} (S : GS) (p0 : Int32)  (hr_p0 : (-2147483648) ≤ p0.toInt ∧ p0.toInt ≤ (-1)) : Ct l D cy T0 tB tE yX12_kin cX12_kin 5 (some .boolean) 2 42 0 0 (mw cy a S) [.ref (a 0), .int 0, .int 2, .int p0, .int 1] (QI D (U := GS) (fun r u => 0 = r ∧ S = u) (mw cy a)) := by
  refine Ct.ofZ RX12 "kin" [(0, .ref (a 0)), (1, .int 0), (2, .int 2), (3, .int p0), (4, .int 1)] rfl rfl rfl rfl (Nat.le_of_ble_eq_true rfl) ?_
  intro p e R s m args below meth c A b
  refine z_iload_n b dX12_kin_0 rfl rfl ?_
  refine z_calli b (z_runS (As := [.int 0]) (st := []) b (c_X12_isOne_3 S ) cf_X12_isOne wm_X12_170 ws_X12_isOne dX12_kin_1 rfl (Nat.le_of_ble_eq_true rfl) ⟨by decide, by decide, by decide, by decide⟩) (fun r2129 u2130 h2128 => ?_)
  obtain ⟨rfl, rfl⟩ := h2128
  refine z_if_eq_f (tgt := 28) b dX12_kin_4 (by decide) (by decide) ?_
  refine z_iload_n b dX12_kin_7 rfl rfl ?_
  refine z_calli b (z_runS (As := [.int 2]) (st := []) b (c_X12_isOne_5 S ) cf_X12_isOne wm_X12_170 ws_X12_isOne dX12_kin_8 rfl (Nat.le_of_ble_eq_true rfl) ⟨by decide, by decide, by decide, by decide⟩) (fun r2132 u2133 h2131 => ?_)
  obtain ⟨rfl, rfl⟩ := h2131
  refine z_if_eq_f (tgt := 28) b dX12_kin_11 (by decide) (by decide) ?_
  refine z_iload_n b dX12_kin_14 rfl rfl ?_
  refine z_iload_n b dX12_kin_15 rfl rfl ?_
  refine z_icmp_eq_f (tgt := 28) b dX12_kin_16 (by decide) (by decide) ?_
  refine z_iload_n b dX12_kin_19 rfl rfl ?_
  refine z_iconst (v := 0) b dX12_kin_20 (by decide) ?_
  refine z_iconst (v := 1) b dX12_kin_21 (by decide) ?_
  refine z_calli b (z_runS (As := [.int p0, .int 0, .int 1]) (st := []) b (c_X12_isIn_15 S p0 ⟨by omega, by omega⟩) cf_X12_isIn wm_X12_1 ws_X12_isIn dX12_kin_22 rfl (Nat.le_of_ble_eq_true rfl) ⟨by decide, by decide, by decide, by decide⟩) (fun r2135 u2136 h2134 => ?_)
  obtain ⟨rfl, rfl⟩ := h2134
  refine z_if_ne_f (tgt := 30) b dX12_kin_25 (by decide) (by decide) ?_
  refine z_iconst (v := 0) b dX12_kin_28 (by decide) ?_
  exact z_zret (u := S) b rfl (by decide) dX12_kin_29 ⟨rfl, rfl⟩ rfl (by decide) (by decide)

set_option maxHeartbeats 4000000 in
set_option maxRecDepth 100000 in
theorem c_X9_set_20 {l : Launch} {D : va_G} {cy : Nat → ClassId} {T0 tB tE : Nat} {a : Nat → Nat} {rw : Nat → Option Nat} (S : GS)  (h_a_4_22 : ar S 4 22 = 0) : Ct l D cy T0 tB tE yX9_set cX9_set 3 none 0 0 0 0 (cw cy tE a rw S) [.ref (a 14), .int 22, .int 0] (QV D (U := GS) (fun u => S = u) (cw cy tE a rw)) := by
  refine Ct.ofZ RX9 "set" [(0, .ref (a 14)), (1, .int 22), (2, .int 0)] rfl rfl rfl rfl (Nat.le_of_ble_eq_true rfl) ?_
  intro p e R s m args below meth c A b
  refine z_iload_n b dX9_set_0 rfl rfl ?_
  refine z_if_lt_f (tgt := 20) b dX9_set_1 (by decide) (by decide) ?_
  refine z_iload_n b dX9_set_4 rfl rfl ?_
  refine z_aload_n b dX9_set_5 rfl rfl ?_
  refine z_get (q0 := 14) (k9 := 0) (v := .ref (a 15)) b (cw_14 cy tE a rw S) rfl in_X9 (by decide) wf_X9_11 rfl dX9_set_6 ?_
  refine z_alen (q0 := 15) (t0 := 0) (v := 51) b (cw_15 cy tE a rw S) rfl rfl dX9_set_9 ?_
  refine z_icmp_ge_f (tgt := 20) b dX9_set_10 (by decide) (by decide) ?_
  refine z_aload_n b dX9_set_13 rfl rfl ?_
  refine z_get (q0 := 14) (k9 := 0) (v := .ref (a 15)) b (cw_14 cy tE a rw S) rfl in_X9 (by decide) wf_X9_11 rfl dX9_set_14 ?_
  refine z_iload_n b dX9_set_17 rfl rfl ?_
  refine z_iload_n b dX9_set_18 rfl rfl ?_
  refine y_iast (q0 := 15) (j := 22) b (cw_15 cy tE a rw S) (by decide) dX9_set_19 ((cwa_15 cy tE a rw S 22 0).trans (congrArg (cw cy tE a rw) (su_same h_a_4_22))) ?_
  exact z_vret (u := S) b rfl dX9_set_20 rfl rfl (by decide) (by decide)

set_option maxHeartbeats 4000000 in
set_option maxRecDepth 100000 in
theorem c_X9_set_21 {l : Launch} {D : va_G} {cy : Nat → ClassId} {T0 tB tE : Nat} {a : Nat → Nat} {rw : Nat → Option Nat} (S : GS)  (h_a_4_26 : ar S 4 26 = 0) : Ct l D cy T0 tB tE yX9_set cX9_set 3 none 0 0 0 0 (cw cy tE a rw S) [.ref (a 14), .int 26, .int 0] (QV D (U := GS) (fun u => S = u) (cw cy tE a rw)) := by
  refine Ct.ofZ RX9 "set" [(0, .ref (a 14)), (1, .int 26), (2, .int 0)] rfl rfl rfl rfl (Nat.le_of_ble_eq_true rfl) ?_
  intro p e R s m args below meth c A b
  refine z_iload_n b dX9_set_0 rfl rfl ?_
  refine z_if_lt_f (tgt := 20) b dX9_set_1 (by decide) (by decide) ?_
  refine z_iload_n b dX9_set_4 rfl rfl ?_
  refine z_aload_n b dX9_set_5 rfl rfl ?_
  refine z_get (q0 := 14) (k9 := 0) (v := .ref (a 15)) b (cw_14 cy tE a rw S) rfl in_X9 (by decide) wf_X9_11 rfl dX9_set_6 ?_
  refine z_alen (q0 := 15) (t0 := 0) (v := 51) b (cw_15 cy tE a rw S) rfl rfl dX9_set_9 ?_
  refine z_icmp_ge_f (tgt := 20) b dX9_set_10 (by decide) (by decide) ?_
  refine z_aload_n b dX9_set_13 rfl rfl ?_
  refine z_get (q0 := 14) (k9 := 0) (v := .ref (a 15)) b (cw_14 cy tE a rw S) rfl in_X9 (by decide) wf_X9_11 rfl dX9_set_14 ?_
  refine z_iload_n b dX9_set_17 rfl rfl ?_
  refine z_iload_n b dX9_set_18 rfl rfl ?_
  refine y_iast (q0 := 15) (j := 26) b (cw_15 cy tE a rw S) (by decide) dX9_set_19 ((cwa_15 cy tE a rw S 26 0).trans (congrArg (cw cy tE a rw) (su_same h_a_4_26))) ?_
  exact z_vret (u := S) b rfl dX9_set_20 rfl rfl (by decide) (by decide)

set_option maxHeartbeats 4000000 in
set_option maxRecDepth 100000 in
theorem c_X11_kin_33 {l : Launch} {D : va_G} {cy : Nat → ClassId} {T0 tB tE : Nat} {a : Nat → Nat} {rw : Nat → Option Nat} (S : GS)  (h_a_4_22 : ar S 4 22 = 0) (h_a_4_26 : ar S 4 26 = 0) (h_i_24 : fi S 24 = 0) : Ct l D cy T0 tB tE yX11_kin cX11_kin 6 (some .boolean) 2 41 0 0 (cw cy tE a rw S) [.ref (a 0), .int 0, .int 2, .int 0, .int 0] (QI D (U := GS) (fun r u => 1 = r ∧ S = u) (cw cy tE a rw)) := by
  refine Ct.ofZ RX11 "kin" [(0, .ref (a 0)), (1, .int 0), (2, .int 2), (3, .int 0), (4, .int 0)] rfl rfl rfl rfl (Nat.le_of_ble_eq_true rfl) ?_
  intro p e R s m args below meth c A b
  refine z_iload_n b dX11_kin_0 rfl rfl ?_
  refine z_iload_n b dX11_kin_1 rfl rfl ?_
  refine z_calli b (z_runS (As := [.int 0, .int 2]) (st := []) b (c_X11_arePair_13 S ) cf_X11_arePair wm_X11_84 ws_X11_arePair dX11_kin_2 rfl (Nat.le_of_ble_eq_true rfl) ⟨by decide, by decide, by decide, by decide⟩) (fun r2138 u2139 h2137 => ?_)
  obtain ⟨rfl, rfl⟩ := h2137
  refine z_if_eq_f (tgt := 16) b dX11_kin_5 (by decide) (by decide) ?_
  refine z_iload_n b dX11_kin_8 rfl rfl ?_
  refine z_iconst (v := 1) b dX11_kin_9 (by decide) ?_
  refine z_calli b (z_runS (As := [.int 0, .int 1]) (st := []) b (c_X11_isWithin_11 S ) cf_X11_isWithin wm_X11_73 ws_X11_isWithin dX11_kin_10 rfl (Nat.le_of_ble_eq_true rfl) ⟨by decide, by decide, by decide, by decide⟩) (fun r2141 u2142 h2140 => ?_)
  obtain ⟨rfl, rfl⟩ := h2140
  refine z_if_ne_t (tgt := 18) b dX11_kin_13 (by decide) (by decide) ?_
  refine z_iload b dX11_kin_18 rfl ?_
  refine z_if_eq_t (tgt := 27) b dX11_kin_20 (by decide) (by decide) ?_
  refine z_iconst (v := 0) b dX11_kin_27 (by decide) ?_
  refine z_istore (lv' := [(5, .int 0), (0, .ref (a 0)), (1, .int 0), (2, .int 2), (3, .int 0), (4, .int 0)]) b dX11_kin_28 (by decide) rfl ?_
  refine z_iload_n b dX11_kin_30 rfl rfl ?_
  refine z_if_ne_f (tgt := 71) b dX11_kin_31 (by decide) (by decide) ?_
  refine z_aload_n b dX11_kin_34 rfl rfl ?_
  refine z_get (q0 := 0) (k9 := 4) (v := .ref (a 14)) b (cw_0 cy tE a rw S) rfl in_X11 (by decide) wf_X11_34 rfl dX11_kin_35 ?_
  refine z_bipush (v := 20) b dX11_kin_38 (by decide) ?_
  refine z_iconst (v := 3) b dX11_kin_40 (by decide) ?_
  refine z_iload_n b dX11_kin_41 rfl rfl ?_
  refine z_imul (v := 0) b dX11_kin_42 (by decide) ?_
  refine z_iadd (v := 20) b dX11_kin_43 (by decide) ?_
  refine z_iload_n b dX11_kin_44 rfl rfl ?_
  refine z_iadd (v := 22) b dX11_kin_45 (by decide) ?_
  refine z_iload b dX11_kin_46 rfl ?_
  refine z_callv b (z_runV (q0 := 14) (As := [.int 22, .int 0]) (st := []) b (c_X9_set_20 S h_a_4_22) cf_X9_set (cw_14 cy tE a rw S) rfl wm_X11_77 wi_X9_set ws_X9_set dX11_kin_48 rfl (Nat.le_of_ble_eq_true rfl) ⟨by decide, by decide, by decide, by decide⟩) (fun u2145 h2143 => ?_)
  obtain rfl := h2143
  refine z_aload_n b dX11_kin_51 rfl rfl ?_
  refine z_get (q0 := 0) (k9 := 4) (v := .ref (a 14)) b (cw_0 cy tE a rw S) rfl in_X11 (by decide) wf_X11_34 rfl dX11_kin_52 ?_
  refine z_bipush (v := 20) b dX11_kin_55 (by decide) ?_
  refine z_iconst (v := 3) b dX11_kin_57 (by decide) ?_
  refine z_iload_n b dX11_kin_58 rfl rfl ?_
  refine z_imul (v := 6) b dX11_kin_59 (by decide) ?_
  refine z_iadd (v := 26) b dX11_kin_60 (by decide) ?_
  refine z_iload_n b dX11_kin_61 rfl rfl ?_
  refine z_iadd (v := 26) b dX11_kin_62 (by decide) ?_
  refine z_iload b dX11_kin_63 rfl ?_
  refine z_callv b (z_runV (q0 := 14) (As := [.int 26, .int 0]) (st := []) b (c_X9_set_21 S h_a_4_26) cf_X9_set (cw_14 cy tE a rw S) rfl wm_X11_77 wi_X9_set ws_X9_set dX11_kin_65 rfl (Nat.le_of_ble_eq_true rfl) ⟨by decide, by decide, by decide, by decide⟩) (fun u2148 h2146 => ?_)
  obtain rfl := h2146
  refine z_goto (tgt := 88) b dX11_kin_68 (by decide) ?_
  refine z_aload_n b dX11_kin_88 rfl rfl ?_
  refine z_get (q0 := 0) (k9 := 6) (v := .ref (a 25)) b (cw_0 cy tE a rw S) rfl in_X11 (by decide) wf_X11_52 rfl dX11_kin_89 ?_
  refine z_callv b (z_runV (q0 := 25) (As := []) (st := []) b (c_X8_forget S h_i_24) cf_X8_forget (cw_25 cy tE a rw S) rfl wm_X11_81 wi_X8_forget ws_X8_forget dX11_kin_92 rfl (Nat.le_of_ble_eq_true rfl) ⟨by decide, by decide, by decide, by decide⟩) (fun u2151 h2149 => ?_)
  obtain rfl := h2149
  refine z_iconst (v := 1) b dX11_kin_95 (by decide) ?_
  exact z_zret (u := S) b rfl (by decide) dX11_kin_96 ⟨rfl, rfl⟩ rfl (by decide) (by decide)

set_option maxHeartbeats 4000000 in
set_option maxRecDepth 100000 in
theorem c_X12_kin_33 {l : Launch} {D : va_G} {cy : Nat → ClassId} {T0 tB tE : Nat} {a : Nat → Nat} (S : GS)  (h_l_0 : fl S 0 = 1649317774848) (h_a_4_7 : ar S 4 7 = 0) (h_a_1_7 : ar S 1 7 = 0) (h_a_4_6 : ar S 4 6 = 0) (h_a_1_6 : ar S 1 6 = 0) (h_a_3_6 : ar S 3 6 = 0) (h_a_3_2 : ar S 3 2 = 0) (h_a_2_2 : ar S 2 2 = 3) (h_a_0_2 : ar S 0 2 = 0) (h_a_4_3 : ar S 4 3 = 0) (h_a_1_3 : ar S 1 3 = 0) (h_a_4_5 : ar S 4 5 = 0) (h_a_1_5 : ar S 1 5 = 0) (h_a_3_5 : ar S 3 5 = 0) (h_a_3_7 : ar S 3 7 = 0) (h_a_2_1 : ar S 2 1 = 3) (h_a_0_1 : ar S 0 1 = 0) (h_a_4_2 : ar S 4 2 = 0) (h_a_1_2 : ar S 1 2 = 0) (h_a_4_1 : ar S 4 1 = 0) (h_a_1_1 : ar S 1 1 = 0) (h_a_3_1 : ar S 3 1 = 0) (h_a_3_3 : ar S 3 3 = 0) (h_a_2_0 : ar S 2 0 = 3) (h_a_0_0 : ar S 0 0 = 0) (h_i_0 : fi S 0 = 0) : Ct l D cy T0 tB tE yX12_kin cX12_kin 5 (some .boolean) 3 65 0 0 (mw cy a S) [.ref (a 0), .int 0, .int 2, .int 0, .int 0] (QI D (U := GS) (fun r u => 1 = r ∧ S = u) (mw cy a)) := by
  refine Ct.ofZ RX12 "kin" [(0, .ref (a 0)), (1, .int 0), (2, .int 2), (3, .int 0), (4, .int 0)] rfl rfl rfl rfl (Nat.le_of_ble_eq_true rfl) ?_
  intro p e R s m args below meth c A b
  refine z_iload_n b dX12_kin_0 rfl rfl ?_
  refine z_calli b (z_runS (As := [.int 0]) (st := []) b (c_X12_isOne_3 S ) cf_X12_isOne wm_X12_170 ws_X12_isOne dX12_kin_1 rfl (Nat.le_of_ble_eq_true rfl) ⟨by decide, by decide, by decide, by decide⟩) (fun r2153 u2154 h2152 => ?_)
  obtain ⟨rfl, rfl⟩ := h2152
  refine z_if_eq_f (tgt := 28) b dX12_kin_4 (by decide) (by decide) ?_
  refine z_iload_n b dX12_kin_7 rfl rfl ?_
  refine z_calli b (z_runS (As := [.int 2]) (st := []) b (c_X12_isOne_5 S ) cf_X12_isOne wm_X12_170 ws_X12_isOne dX12_kin_8 rfl (Nat.le_of_ble_eq_true rfl) ⟨by decide, by decide, by decide, by decide⟩) (fun r2156 u2157 h2155 => ?_)
  obtain ⟨rfl, rfl⟩ := h2155
  refine z_if_eq_f (tgt := 28) b dX12_kin_11 (by decide) (by decide) ?_
  refine z_iload_n b dX12_kin_14 rfl rfl ?_
  refine z_iload_n b dX12_kin_15 rfl rfl ?_
  refine z_icmp_eq_f (tgt := 28) b dX12_kin_16 (by decide) (by decide) ?_
  refine z_iload_n b dX12_kin_19 rfl rfl ?_
  refine z_iconst (v := 0) b dX12_kin_20 (by decide) ?_
  refine z_iconst (v := 1) b dX12_kin_21 (by decide) ?_
  refine z_calli b (z_runS (As := [.int 0, .int 0, .int 1]) (st := []) b (c_X12_isIn_16 S ) cf_X12_isIn wm_X12_1 ws_X12_isIn dX12_kin_22 rfl (Nat.le_of_ble_eq_true rfl) ⟨by decide, by decide, by decide, by decide⟩) (fun r2159 u2160 h2158 => ?_)
  obtain ⟨rfl, rfl⟩ := h2158
  refine z_if_ne_t (tgt := 30) b dX12_kin_25 (by decide) (by decide) ?_
  refine z_aload_n b dX12_kin_30 rfl rfl ?_
  refine z_aload_n b dX12_kin_31 rfl rfl ?_
  refine z_get (q0 := 0) (k9 := 6) (v := .long (fl S 0)) b (mw_0 cy a S) rfl in_X12 (by decide) wf_X12_153 rfl dX12_kin_32 ?_
  refine z_eql h_l_0 ?_
  refine z_callv b (z_runV (q0 := 0) (As := [.long 1649317774848]) (st := []) b (c_X12_takes S h_a_4_7 h_a_1_7 h_a_4_6 h_a_1_6 h_a_3_6 h_a_3_2 h_a_2_2 h_a_0_2 h_a_4_3 h_a_1_3 h_a_4_5 h_a_1_5 h_a_3_5 h_a_3_7 h_a_2_1 h_a_0_1 h_a_4_2 h_a_1_2 h_a_4_1 h_a_1_1 h_a_3_1 h_a_3_3 h_a_2_0 h_a_0_0 h_i_0) cf_X12_takes (mw_0 cy a S) rfl wm_X12_174 wi_X12_takes ws_X12_takes dX12_kin_35 rfl (Nat.le_of_ble_eq_true rfl) ⟨by decide, by decide, by decide, by decide⟩) (fun u2163 h2161 => ?_)
  obtain rfl := h2161
  refine z_iload_n b dX12_kin_38 rfl rfl ?_
  refine z_iconst (v := 1) b dX12_kin_39 (by decide) ?_
  refine z_icmp_ne_t (tgt := 58) b dX12_kin_40 (by decide) (by decide) ?_
  refine z_aload_n b dX12_kin_58 rfl rfl ?_
  refine z_get (q0 := 0) (k9 := 3) (v := .ref (a 4)) b (mw_0 cy a S) rfl in_X12 (by decide) wf_X12_23 rfl dX12_kin_59 ?_
  refine z_iconst (v := 3) b dX12_kin_62 (by decide) ?_
  refine z_iload_n b dX12_kin_63 rfl rfl ?_
  refine z_imul (v := 0) b dX12_kin_64 (by decide) ?_
  refine z_iload_n b dX12_kin_65 rfl rfl ?_
  refine z_iadd (v := 2) b dX12_kin_66 (by decide) ?_
  refine z_iload b dX12_kin_67 rfl ?_
  refine y_zast (q0 := 4) (j := 2) b (mw_4 cy a S) (by decide) (by decide) dX12_kin_69 ((mwa_4 cy a S 2 0).trans (congrArg (mw cy a) (su_same h_a_3_2))) ?_
  refine z_aload_n b dX12_kin_70 rfl rfl ?_
  refine z_get (q0 := 0) (k9 := 3) (v := .ref (a 4)) b (mw_0 cy a S) rfl in_X12 (by decide) wf_X12_23 rfl dX12_kin_71 ?_
  refine z_iconst (v := 3) b dX12_kin_74 (by decide) ?_
  refine z_iload_n b dX12_kin_75 rfl rfl ?_
  refine z_imul (v := 6) b dX12_kin_76 (by decide) ?_
  refine z_iload_n b dX12_kin_77 rfl rfl ?_
  refine z_iadd (v := 6) b dX12_kin_78 (by decide) ?_
  refine z_iload b dX12_kin_79 rfl ?_
  refine y_zast (q0 := 4) (j := 6) b (mw_4 cy a S) (by decide) (by decide) dX12_kin_81 ((mwa_4 cy a S 6 0).trans (congrArg (mw cy a) (su_same h_a_3_6))) ?_
  refine z_aload_n b dX12_kin_82 rfl rfl ?_
  refine z_calli b (z_runV (q0 := 0) (As := []) (st := []) b (c_X12_told_14 S h_i_0 h_a_0_0 h_a_2_0 h_a_3_1 h_a_1_1 h_a_4_1 h_a_1_2 h_a_4_2 h_a_0_1 h_a_2_1 h_a_3_5 h_a_1_5 h_a_4_5 h_a_1_3 h_a_4_3 h_a_0_2 h_a_2_2 h_a_3_6 h_a_1_6 h_a_4_6 h_a_1_7 h_a_4_7 h_l_0) cf_X12_told (mw_0 cy a S) rfl wm_X12_178 wi_X12_told ws_X12_told dX12_kin_83 rfl (Nat.le_of_ble_eq_true rfl) ⟨by decide, by decide, by decide, by decide⟩) (fun r2165 u2166 h2164 => ?_)
  obtain ⟨rfl, rfl⟩ := h2164
  exact z_zret (u := S) b rfl (by decide) dX12_kin_86 ⟨rfl, rfl⟩ rfl (by decide) (by decide)

set_option maxHeartbeats 4000000 in
set_option maxRecDepth 100000 in
theorem c_X9_set_22 {l : Launch} {D : va_G} {cy : Nat → ClassId} {T0 tB tE : Nat} {a : Nat → Nat} {rw : Nat → Option Nat} (S : GS)   : Ct l D cy T0 tB tE yX9_set cX9_set 3 none 0 0 0 0 (cw cy tE a rw S) [.ref (a 14), .int 22, .int 1] (QV D (U := GS) (fun u => su S 4 22 1 = u) (cw cy tE a rw)) := by
  refine Ct.ofZ RX9 "set" [(0, .ref (a 14)), (1, .int 22), (2, .int 1)] rfl rfl rfl rfl (Nat.le_of_ble_eq_true rfl) ?_
  intro p e R s m args below meth c A b
  refine z_iload_n b dX9_set_0 rfl rfl ?_
  refine z_if_lt_f (tgt := 20) b dX9_set_1 (by decide) (by decide) ?_
  refine z_iload_n b dX9_set_4 rfl rfl ?_
  refine z_aload_n b dX9_set_5 rfl rfl ?_
  refine z_get (q0 := 14) (k9 := 0) (v := .ref (a 15)) b (cw_14 cy tE a rw S) rfl in_X9 (by decide) wf_X9_11 rfl dX9_set_6 ?_
  refine z_alen (q0 := 15) (t0 := 0) (v := 51) b (cw_15 cy tE a rw S) rfl rfl dX9_set_9 ?_
  refine z_icmp_ge_f (tgt := 20) b dX9_set_10 (by decide) (by decide) ?_
  refine z_aload_n b dX9_set_13 rfl rfl ?_
  refine z_get (q0 := 14) (k9 := 0) (v := .ref (a 15)) b (cw_14 cy tE a rw S) rfl in_X9 (by decide) wf_X9_11 rfl dX9_set_14 ?_
  refine z_iload_n b dX9_set_17 rfl rfl ?_
  refine z_iload_n b dX9_set_18 rfl rfl ?_
  refine y_iast (q0 := 15) (j := 22) b (cw_15 cy tE a rw S) (by decide) dX9_set_19 (cwa_15 cy tE a rw S 22 1) ?_
  exact z_vret (u := (su S 4 22 1)) b rfl dX9_set_20 rfl rfl (by decide) (by decide)

set_option maxHeartbeats 4000000 in
set_option maxRecDepth 100000 in
theorem c_X9_set_23 {l : Launch} {D : va_G} {cy : Nat → ClassId} {T0 tB tE : Nat} {a : Nat → Nat} {rw : Nat → Option Nat} (S : GS)   : Ct l D cy T0 tB tE yX9_set cX9_set 3 none 0 0 0 0 (cw cy tE a rw S) [.ref (a 14), .int 26, .int 1] (QV D (U := GS) (fun u => su S 4 26 1 = u) (cw cy tE a rw)) := by
  refine Ct.ofZ RX9 "set" [(0, .ref (a 14)), (1, .int 26), (2, .int 1)] rfl rfl rfl rfl (Nat.le_of_ble_eq_true rfl) ?_
  intro p e R s m args below meth c A b
  refine z_iload_n b dX9_set_0 rfl rfl ?_
  refine z_if_lt_f (tgt := 20) b dX9_set_1 (by decide) (by decide) ?_
  refine z_iload_n b dX9_set_4 rfl rfl ?_
  refine z_aload_n b dX9_set_5 rfl rfl ?_
  refine z_get (q0 := 14) (k9 := 0) (v := .ref (a 15)) b (cw_14 cy tE a rw S) rfl in_X9 (by decide) wf_X9_11 rfl dX9_set_6 ?_
  refine z_alen (q0 := 15) (t0 := 0) (v := 51) b (cw_15 cy tE a rw S) rfl rfl dX9_set_9 ?_
  refine z_icmp_ge_f (tgt := 20) b dX9_set_10 (by decide) (by decide) ?_
  refine z_aload_n b dX9_set_13 rfl rfl ?_
  refine z_get (q0 := 14) (k9 := 0) (v := .ref (a 15)) b (cw_14 cy tE a rw S) rfl in_X9 (by decide) wf_X9_11 rfl dX9_set_14 ?_
  refine z_iload_n b dX9_set_17 rfl rfl ?_
  refine z_iload_n b dX9_set_18 rfl rfl ?_
  refine y_iast (q0 := 15) (j := 26) b (cw_15 cy tE a rw S) (by decide) dX9_set_19 (cwa_15 cy tE a rw S 26 1) ?_
  exact z_vret (u := (su S 4 26 1)) b rfl dX9_set_20 rfl rfl (by decide) (by decide)

set_option maxHeartbeats 4000000 in
set_option maxRecDepth 100000 in
theorem c_X11_kin_34 {l : Launch} {D : va_G} {cy : Nat → ClassId} {T0 tB tE : Nat} {a : Nat → Nat} {rw : Nat → Option Nat} (S : GS)  (h_i_24 : fi S 24 = 0) : Ct l D cy T0 tB tE yX11_kin cX11_kin 6 (some .boolean) 2 41 0 0 (cw cy tE a rw S) [.ref (a 0), .int 0, .int 2, .int 0, .int 1] (QI D (U := GS) (fun r u => 1 = r ∧ (su (su S 4 22 1) 4 26 1) = u) (cw cy tE a rw)) := by
  refine Ct.ofZ RX11 "kin" [(0, .ref (a 0)), (1, .int 0), (2, .int 2), (3, .int 0), (4, .int 1)] rfl rfl rfl rfl (Nat.le_of_ble_eq_true rfl) ?_
  intro p e R s m args below meth c A b
  refine z_iload_n b dX11_kin_0 rfl rfl ?_
  refine z_iload_n b dX11_kin_1 rfl rfl ?_
  refine z_calli b (z_runS (As := [.int 0, .int 2]) (st := []) b (c_X11_arePair_13 S ) cf_X11_arePair wm_X11_84 ws_X11_arePair dX11_kin_2 rfl (Nat.le_of_ble_eq_true rfl) ⟨by decide, by decide, by decide, by decide⟩) (fun r2168 u2169 h2167 => ?_)
  obtain ⟨rfl, rfl⟩ := h2167
  refine z_if_eq_f (tgt := 16) b dX11_kin_5 (by decide) (by decide) ?_
  refine z_iload_n b dX11_kin_8 rfl rfl ?_
  refine z_iconst (v := 1) b dX11_kin_9 (by decide) ?_
  refine z_calli b (z_runS (As := [.int 0, .int 1]) (st := []) b (c_X11_isWithin_11 S ) cf_X11_isWithin wm_X11_73 ws_X11_isWithin dX11_kin_10 rfl (Nat.le_of_ble_eq_true rfl) ⟨by decide, by decide, by decide, by decide⟩) (fun r2171 u2172 h2170 => ?_)
  obtain ⟨rfl, rfl⟩ := h2170
  refine z_if_ne_t (tgt := 18) b dX11_kin_13 (by decide) (by decide) ?_
  refine z_iload b dX11_kin_18 rfl ?_
  refine z_if_eq_f (tgt := 27) b dX11_kin_20 (by decide) (by decide) ?_
  refine z_iconst (v := 1) b dX11_kin_23 (by decide) ?_
  refine z_goto (tgt := 28) b dX11_kin_24 (by decide) ?_
  refine z_istore (lv' := [(5, .int 1), (0, .ref (a 0)), (1, .int 0), (2, .int 2), (3, .int 0), (4, .int 1)]) b dX11_kin_28 (by decide) rfl ?_
  refine z_iload_n b dX11_kin_30 rfl rfl ?_
  refine z_if_ne_f (tgt := 71) b dX11_kin_31 (by decide) (by decide) ?_
  refine z_aload_n b dX11_kin_34 rfl rfl ?_
  refine z_get (q0 := 0) (k9 := 4) (v := .ref (a 14)) b (cw_0 cy tE a rw S) rfl in_X11 (by decide) wf_X11_34 rfl dX11_kin_35 ?_
  refine z_bipush (v := 20) b dX11_kin_38 (by decide) ?_
  refine z_iconst (v := 3) b dX11_kin_40 (by decide) ?_
  refine z_iload_n b dX11_kin_41 rfl rfl ?_
  refine z_imul (v := 0) b dX11_kin_42 (by decide) ?_
  refine z_iadd (v := 20) b dX11_kin_43 (by decide) ?_
  refine z_iload_n b dX11_kin_44 rfl rfl ?_
  refine z_iadd (v := 22) b dX11_kin_45 (by decide) ?_
  refine z_iload b dX11_kin_46 rfl ?_
  refine z_callv b (z_runV (q0 := 14) (As := [.int 22, .int 1]) (st := []) b (c_X9_set_22 S ) cf_X9_set (cw_14 cy tE a rw S) rfl wm_X11_77 wi_X9_set ws_X9_set dX11_kin_48 rfl (Nat.le_of_ble_eq_true rfl) ⟨by decide, by decide, by decide, by decide⟩) (fun u2175 h2173 => ?_)
  obtain rfl := h2173
  refine z_aload_n b dX11_kin_51 rfl rfl ?_
  refine z_get (q0 := 0) (k9 := 4) (v := .ref (a 14)) b (cw_0 cy tE a rw (su S 4 22 1)) rfl in_X11 (by decide) wf_X11_34 rfl dX11_kin_52 ?_
  refine z_bipush (v := 20) b dX11_kin_55 (by decide) ?_
  refine z_iconst (v := 3) b dX11_kin_57 (by decide) ?_
  refine z_iload_n b dX11_kin_58 rfl rfl ?_
  refine z_imul (v := 6) b dX11_kin_59 (by decide) ?_
  refine z_iadd (v := 26) b dX11_kin_60 (by decide) ?_
  refine z_iload_n b dX11_kin_61 rfl rfl ?_
  refine z_iadd (v := 26) b dX11_kin_62 (by decide) ?_
  refine z_iload b dX11_kin_63 rfl ?_
  refine z_callv b (z_runV (q0 := 14) (As := [.int 26, .int 1]) (st := []) b (c_X9_set_23 (su S 4 22 1) ) cf_X9_set (cw_14 cy tE a rw (su S 4 22 1)) rfl wm_X11_77 wi_X9_set ws_X9_set dX11_kin_65 rfl (Nat.le_of_ble_eq_true rfl) ⟨by decide, by decide, by decide, by decide⟩) (fun u2178 h2176 => ?_)
  obtain rfl := h2176
  refine z_goto (tgt := 88) b dX11_kin_68 (by decide) ?_
  refine z_aload_n b dX11_kin_88 rfl rfl ?_
  refine z_get (q0 := 0) (k9 := 6) (v := .ref (a 25)) b (cw_0 cy tE a rw (su (su S 4 22 1) 4 26 1)) rfl in_X11 (by decide) wf_X11_52 rfl dX11_kin_89 ?_
  refine z_callv b (z_runV (q0 := 25) (As := []) (st := []) b (c_X8_forget (su (su S 4 22 1) 4 26 1) h_i_24) cf_X8_forget (cw_25 cy tE a rw (su (su S 4 22 1) 4 26 1)) rfl wm_X11_81 wi_X8_forget ws_X8_forget dX11_kin_92 rfl (Nat.le_of_ble_eq_true rfl) ⟨by decide, by decide, by decide, by decide⟩) (fun u2181 h2179 => ?_)
  obtain rfl := h2179
  refine z_iconst (v := 1) b dX11_kin_95 (by decide) ?_
  exact z_zret (u := (su (su S 4 22 1) 4 26 1)) b rfl (by decide) dX11_kin_96 ⟨rfl, rfl⟩ rfl (by decide) (by decide)

set_option maxHeartbeats 4000000 in
set_option maxRecDepth 100000 in
theorem ch_X12_packs_36 {p : Program} {l : Launch} {e : Env} {R : Room} {s : State} {m : MethodId} {args : Array Value} {below : List Frame} {meth : Method} {c : Code} {D : va_G} {cy : Nat → ClassId} {T0 tB tE : Nat} {A : Nat → Prop} {Q : State → Prop} {a : Nat → Nat} (S : GS)  (h_a_0_0 : ar S 0 0 = 0) (h_a_1_1 : ar S 1 1 = 0) (h_a_1_2 : ar S 1 2 = 0) (h_a_2_0 : ar S 2 0 = 3) (h_a_3_1 : ar S 3 1 = 0) (h_a_4_1 : ar S 4 1 = 0) (h_a_4_2 : ar S 4 2 = 0) (h_i_0 : fi S 0 = 0) (b : Bz p R s m args meth c D cy T0 tB tE A 5 cX12_packs RX12 (some .long) "packs" 1 21 0 0) (k : Z p l e R s m args below meth c D A 5 Q 0 0 (mw cy a S) [(3, .int 1), (4, .int 2), (1, .long 1536), (0, .ref (a 0))] 21 [.int 1, .ref (a 1), .long 24576]) : Z p l e R s m args below meth c D A 5 Q 0 0 (mw cy a S) [(0, .ref (a 0))] 0 [] := by
  refine z_aload_n b dX12_packs_0 rfl rfl ?_
  refine z_get (q0 := 0) (k9 := 5) (v := .int (fi S 0)) b (mw_0 cy a S) rfl in_X12 (by decide) wf_X12_157 rfl dX12_packs_1 ?_
  refine z_eqi h_i_0 ?_
  refine z_i2l (v := 0) b dX12_packs_4 (by decide) ?_
  refine z_lstore_n (lv' := [(1, .long 0), (0, .ref (a 0))]) b dX12_packs_5 rfl (by decide) rfl ?_
  refine z_iconst (v := 0) b dX12_packs_6 (by decide) ?_
  refine z_istore_n (lv' := [(3, .int 0), (1, .long 0), (0, .ref (a 0))]) b dX12_packs_7 rfl (by decide) rfl ?_
  refine z_iload_n b dX12_packs_8 rfl rfl ?_
  refine z_iconst (v := 3) b dX12_packs_9 (by decide) ?_
  refine z_icmp_ge_f (tgt := 134) b dX12_packs_10 (by decide) (by decide) ?_
  refine z_lload_n b dX12_packs_13 rfl rfl ?_
  refine z_iconst (v := 4) b dX12_packs_14 (by decide) ?_
  refine z_lshl (v := 0) b dX12_packs_15 (by decide) ?_
  refine z_aload_n b dX12_packs_16 rfl rfl ?_
  refine z_get (q0 := 0) (k9 := 0) (v := .ref (a 1)) b (mw_0 cy a S) rfl in_X12 (by decide) wf_X12_13 rfl dX12_packs_17 ?_
  refine z_iload_n b dX12_packs_20 rfl rfl ?_
  refine y_iald (q0 := 1) (j := 0) (v := (ar S 0 0)) b (mw_1 cy a S) (by decide) rfl dX12_packs_21 ?_
  refine z_eqi h_a_0_0 ?_
  refine z_i2l (v := 0) b dX12_packs_22 (by decide) ?_
  refine z_lor (v := 0) b dX12_packs_23 (by decide) ?_
  refine z_lstore_n (lv' := [(1, .long 0), (3, .int 0), (0, .ref (a 0))]) b dX12_packs_24 rfl (by decide) rfl ?_
  refine z_lload_n b dX12_packs_25 rfl rfl ?_
  refine z_iconst (v := 2) b dX12_packs_26 (by decide) ?_
  refine z_lshl (v := 0) b dX12_packs_27 (by decide) ?_
  refine z_aload_n b dX12_packs_28 rfl rfl ?_
  refine z_get (q0 := 0) (k9 := 2) (v := .ref (a 3)) b (mw_0 cy a S) rfl in_X12 (by decide) wf_X12_20 rfl dX12_packs_29 ?_
  refine z_iload_n b dX12_packs_32 rfl rfl ?_
  refine y_iald (q0 := 3) (j := 0) (v := (ar S 2 0)) b (mw_3 cy a S) (by decide) rfl dX12_packs_33 ?_
  refine z_eqi h_a_2_0 ?_
  refine z_i2l (v := 3) b dX12_packs_34 (by decide) ?_
  refine z_lor (v := 3) b dX12_packs_35 (by decide) ?_
  refine z_lstore_n (lv' := [(1, .long 3), (3, .int 0), (0, .ref (a 0))]) b dX12_packs_36 rfl (by decide) rfl ?_
  refine z_lload_n b dX12_packs_37 rfl rfl ?_
  refine z_iconst (v := 1) b dX12_packs_38 (by decide) ?_
  refine z_lshl (v := 6) b dX12_packs_39 (by decide) ?_
  refine z_aload_n b dX12_packs_40 rfl rfl ?_
  refine z_get (q0 := 0) (k9 := 3) (v := .ref (a 4)) b (mw_0 cy a S) rfl in_X12 (by decide) wf_X12_23 rfl dX12_packs_41 ?_
  refine z_iconst (v := 3) b dX12_packs_44 (by decide) ?_
  refine z_iload_n b dX12_packs_45 rfl rfl ?_
  refine z_imul (v := 0) b dX12_packs_46 (by decide) ?_
  refine z_iload_n b dX12_packs_47 rfl rfl ?_
  refine z_iconst (v := 0) b dX12_packs_48 (by decide) ?_
  refine z_calli b (z_runS (As := [.int 0, .int 0]) (st := [.int 0, .ref (a 4), .long 6]) b (c_X12_other_6 S ) cf_X12_other wm_X12_160 ws_X12_other dX12_packs_49 rfl (Nat.le_of_ble_eq_true rfl) ⟨by decide, by decide, by decide, by decide⟩) (fun r2195 u2196 h2194 => ?_)
  obtain ⟨rfl, rfl⟩ := h2194
  refine z_iadd (v := 1) b dX12_packs_52 (by decide) ?_
  refine y_zald (q0 := 4) (j := 1) (v := (ar S 3 1)) b (mw_4 cy a S) (by decide) rfl dX12_packs_53 ?_
  refine z_eqi h_a_3_1 ?_
  refine z_if_eq_t (tgt := 61) b dX12_packs_54 (by decide) (by decide) ?_
  refine z_lconst (v := 0) b dX12_packs_61 (by decide) ?_
  refine z_lor (v := 6) b dX12_packs_62 (by decide) ?_
  refine z_lstore_n (lv' := [(1, .long 6), (3, .int 0), (0, .ref (a 0))]) b dX12_packs_63 rfl (by decide) rfl ?_
  refine z_iconst (v := 0) b dX12_packs_64 (by decide) ?_
  refine z_istore (lv' := [(4, .int 0), (1, .long 6), (3, .int 0), (0, .ref (a 0))]) b dX12_packs_65 (by decide) rfl ?_
  refine z_iload b dX12_packs_67 rfl ?_
  refine z_iconst (v := 2) b dX12_packs_69 (by decide) ?_
  refine z_icmp_ge_f (tgt := 128) b dX12_packs_70 (by decide) (by decide) ?_
  refine z_lload_n b dX12_packs_73 rfl rfl ?_
  refine z_iconst (v := 3) b dX12_packs_74 (by decide) ?_
  refine z_lshl (v := 48) b dX12_packs_75 (by decide) ?_
  refine z_aload_n b dX12_packs_76 rfl rfl ?_
  refine z_get (q0 := 0) (k9 := 1) (v := .ref (a 2)) b (mw_0 cy a S) rfl in_X12 (by decide) wf_X12_17 rfl dX12_packs_77 ?_
  refine z_iconst (v := 3) b dX12_packs_80 (by decide) ?_
  refine z_iload_n b dX12_packs_81 rfl rfl ?_
  refine z_imul (v := 0) b dX12_packs_82 (by decide) ?_
  refine z_iload_n b dX12_packs_83 rfl rfl ?_
  refine z_iload b dX12_packs_84 rfl ?_
  refine z_calli b (z_runS (As := [.int 0, .int 0]) (st := [.int 0, .ref (a 2), .long 48]) b (c_X12_other_6 S ) cf_X12_other wm_X12_160 ws_X12_other dX12_packs_86 rfl (Nat.le_of_ble_eq_true rfl) ⟨by decide, by decide, by decide, by decide⟩) (fun r2198 u2199 h2197 => ?_)
  obtain ⟨rfl, rfl⟩ := h2197
  refine z_iadd (v := 1) b dX12_packs_89 (by decide) ?_
  refine y_iald (q0 := 2) (j := 1) (v := (ar S 1 1)) b (mw_2 cy a S) (by decide) rfl dX12_packs_90 ?_
  refine z_eqi h_a_1_1 ?_
  refine z_i2l (v := 0) b dX12_packs_91 (by decide) ?_
  refine z_lor (v := 48) b dX12_packs_92 (by decide) ?_
  refine z_lstore_n (lv' := [(1, .long 48), (4, .int 0), (3, .int 0), (0, .ref (a 0))]) b dX12_packs_93 rfl (by decide) rfl ?_
  refine z_lload_n b dX12_packs_94 rfl rfl ?_
  refine z_iconst (v := 1) b dX12_packs_95 (by decide) ?_
  refine z_lshl (v := 96) b dX12_packs_96 (by decide) ?_
  refine z_aload_n b dX12_packs_97 rfl rfl ?_
  refine z_get (q0 := 0) (k9 := 4) (v := .ref (a 5)) b (mw_0 cy a S) rfl in_X12 (by decide) wf_X12_27 rfl dX12_packs_98 ?_
  refine z_iconst (v := 3) b dX12_packs_101 (by decide) ?_
  refine z_iload_n b dX12_packs_102 rfl rfl ?_
  refine z_imul (v := 0) b dX12_packs_103 (by decide) ?_
  refine z_iload_n b dX12_packs_104 rfl rfl ?_
  refine z_iload b dX12_packs_105 rfl ?_
  refine z_calli b (z_runS (As := [.int 0, .int 0]) (st := [.int 0, .ref (a 5), .long 96]) b (c_X12_other_6 S ) cf_X12_other wm_X12_160 ws_X12_other dX12_packs_107 rfl (Nat.le_of_ble_eq_true rfl) ⟨by decide, by decide, by decide, by decide⟩) (fun r2201 u2202 h2200 => ?_)
  obtain ⟨rfl, rfl⟩ := h2200
  refine z_iadd (v := 1) b dX12_packs_110 (by decide) ?_
  refine y_zald (q0 := 5) (j := 1) (v := (ar S 4 1)) b (mw_5 cy a S) (by decide) rfl dX12_packs_111 ?_
  refine z_eqi h_a_4_1 ?_
  refine z_if_eq_t (tgt := 119) b dX12_packs_112 (by decide) (by decide) ?_
  refine z_lconst (v := 0) b dX12_packs_119 (by decide) ?_
  refine z_lor (v := 96) b dX12_packs_120 (by decide) ?_
  refine z_lstore_n (lv' := [(1, .long 96), (4, .int 0), (3, .int 0), (0, .ref (a 0))]) b dX12_packs_121 rfl (by decide) rfl ?_
  refine z_iinc (k9 := 1) (v := 1) (lv' := [(4, .int 1), (1, .long 96), (3, .int 0), (0, .ref (a 0))]) b dX12_packs_122 rfl (by decide) (by decide) rfl ?_
  refine z_goto (tgt := 67) b dX12_packs_125 (by decide) ?_
  refine z_iload b dX12_packs_67 rfl ?_
  refine z_iconst (v := 2) b dX12_packs_69 (by decide) ?_
  refine z_icmp_ge_f (tgt := 128) b dX12_packs_70 (by decide) (by decide) ?_
  refine z_lload_n b dX12_packs_73 rfl rfl ?_
  refine z_iconst (v := 3) b dX12_packs_74 (by decide) ?_
  refine z_lshl (v := 768) b dX12_packs_75 (by decide) ?_
  refine z_aload_n b dX12_packs_76 rfl rfl ?_
  refine z_get (q0 := 0) (k9 := 1) (v := .ref (a 2)) b (mw_0 cy a S) rfl in_X12 (by decide) wf_X12_17 rfl dX12_packs_77 ?_
  refine z_iconst (v := 3) b dX12_packs_80 (by decide) ?_
  refine z_iload_n b dX12_packs_81 rfl rfl ?_
  refine z_imul (v := 0) b dX12_packs_82 (by decide) ?_
  refine z_iload_n b dX12_packs_83 rfl rfl ?_
  refine z_iload b dX12_packs_84 rfl ?_
  refine z_calli b (z_runS (As := [.int 0, .int 1]) (st := [.int 0, .ref (a 2), .long 768]) b (c_X12_other_5 S ) cf_X12_other wm_X12_160 ws_X12_other dX12_packs_86 rfl (Nat.le_of_ble_eq_true rfl) ⟨by decide, by decide, by decide, by decide⟩) (fun r2204 u2205 h2203 => ?_)
  obtain ⟨rfl, rfl⟩ := h2203
  refine z_iadd (v := 2) b dX12_packs_89 (by decide) ?_
  refine y_iald (q0 := 2) (j := 2) (v := (ar S 1 2)) b (mw_2 cy a S) (by decide) rfl dX12_packs_90 ?_
  refine z_eqi h_a_1_2 ?_
  refine z_i2l (v := 0) b dX12_packs_91 (by decide) ?_
  refine z_lor (v := 768) b dX12_packs_92 (by decide) ?_
  refine z_lstore_n (lv' := [(1, .long 768), (4, .int 1), (3, .int 0), (0, .ref (a 0))]) b dX12_packs_93 rfl (by decide) rfl ?_
  refine z_lload_n b dX12_packs_94 rfl rfl ?_
  refine z_iconst (v := 1) b dX12_packs_95 (by decide) ?_
  refine z_lshl (v := 1536) b dX12_packs_96 (by decide) ?_
  refine z_aload_n b dX12_packs_97 rfl rfl ?_
  refine z_get (q0 := 0) (k9 := 4) (v := .ref (a 5)) b (mw_0 cy a S) rfl in_X12 (by decide) wf_X12_27 rfl dX12_packs_98 ?_
  refine z_iconst (v := 3) b dX12_packs_101 (by decide) ?_
  refine z_iload_n b dX12_packs_102 rfl rfl ?_
  refine z_imul (v := 0) b dX12_packs_103 (by decide) ?_
  refine z_iload_n b dX12_packs_104 rfl rfl ?_
  refine z_iload b dX12_packs_105 rfl ?_
  refine z_calli b (z_runS (As := [.int 0, .int 1]) (st := [.int 0, .ref (a 5), .long 1536]) b (c_X12_other_5 S ) cf_X12_other wm_X12_160 ws_X12_other dX12_packs_107 rfl (Nat.le_of_ble_eq_true rfl) ⟨by decide, by decide, by decide, by decide⟩) (fun r2207 u2208 h2206 => ?_)
  obtain ⟨rfl, rfl⟩ := h2206
  refine z_iadd (v := 2) b dX12_packs_110 (by decide) ?_
  refine y_zald (q0 := 5) (j := 2) (v := (ar S 4 2)) b (mw_5 cy a S) (by decide) rfl dX12_packs_111 ?_
  refine z_eqi h_a_4_2 ?_
  refine z_if_eq_t (tgt := 119) b dX12_packs_112 (by decide) (by decide) ?_
  refine z_lconst (v := 0) b dX12_packs_119 (by decide) ?_
  refine z_lor (v := 1536) b dX12_packs_120 (by decide) ?_
  refine z_lstore_n (lv' := [(1, .long 1536), (4, .int 1), (3, .int 0), (0, .ref (a 0))]) b dX12_packs_121 rfl (by decide) rfl ?_
  refine z_iinc (k9 := 1) (v := 2) (lv' := [(4, .int 2), (1, .long 1536), (3, .int 0), (0, .ref (a 0))]) b dX12_packs_122 rfl (by decide) (by decide) rfl ?_
  refine z_goto (tgt := 67) b dX12_packs_125 (by decide) ?_
  refine z_iload b dX12_packs_67 rfl ?_
  refine z_iconst (v := 2) b dX12_packs_69 (by decide) ?_
  refine z_icmp_ge_t (tgt := 128) b dX12_packs_70 (by decide) (by decide) ?_
  refine z_iinc (k9 := 2) (v := 1) (lv' := [(3, .int 1), (4, .int 2), (1, .long 1536), (0, .ref (a 0))]) b dX12_packs_128 rfl (by decide) (by decide) rfl ?_
  refine z_goto (tgt := 8) b dX12_packs_131 (by decide) ?_
  refine z_iload_n b dX12_packs_8 rfl rfl ?_
  refine z_iconst (v := 3) b dX12_packs_9 (by decide) ?_
  refine z_icmp_ge_f (tgt := 134) b dX12_packs_10 (by decide) (by decide) ?_
  refine z_lload_n b dX12_packs_13 rfl rfl ?_
  refine z_iconst (v := 4) b dX12_packs_14 (by decide) ?_
  refine z_lshl (v := 24576) b dX12_packs_15 (by decide) ?_
  refine z_aload_n b dX12_packs_16 rfl rfl ?_
  refine z_get (q0 := 0) (k9 := 0) (v := .ref (a 1)) b (mw_0 cy a S) rfl in_X12 (by decide) wf_X12_13 rfl dX12_packs_17 ?_
  refine z_iload_n b dX12_packs_20 rfl rfl ?_
  exact k

set_option maxHeartbeats 4000000 in
set_option maxRecDepth 100000 in
theorem ch_X12_packs_37 {p : Program} {l : Launch} {e : Env} {R : Room} {s : State} {m : MethodId} {args : Array Value} {below : List Frame} {meth : Method} {c : Code} {D : va_G} {cy : Nat → ClassId} {T0 tB tE : Nat} {A : Nat → Prop} {Q : State → Prop} {a : Nat → Nat} (S : GS)  (h_a_0_1 : ar S 0 1 = 0) (h_a_0_2 : ar S 0 2 = 0) (h_a_1_3 : ar S 1 3 = 0) (h_a_1_5 : ar S 1 5 = 0) (h_a_2_1 : ar S 2 1 = 3) (h_a_2_2 : ar S 2 2 = 3) (h_a_3_5 : ar S 3 5 = 0) (h_a_4_3 : ar S 4 3 = 0) (h_a_4_5 : ar S 4 5 = 0) (b : Bz p R s m args meth c D cy T0 tB tE A 5 cX12_packs RX12 (some .long) "packs" 1 21 0 0) (k : Z p l e R s m args below meth c D A 5 Q 0 0 (mw cy a S) [(1, .long 3221323779), (3, .int 2), (4, .int 2), (0, .ref (a 0))] 37 []) : Z p l e R s m args below meth c D A 5 Q 0 0 (mw cy a S) [(3, .int 1), (4, .int 2), (1, .long 1536), (0, .ref (a 0))] 21 [.int 1, .ref (a 1), .long 24576] := by
  refine y_iald (q0 := 1) (j := 1) (v := (ar S 0 1)) b (mw_1 cy a S) (by decide) rfl dX12_packs_21 ?_
  refine z_eqi h_a_0_1 ?_
  refine z_i2l (v := 0) b dX12_packs_22 (by decide) ?_
  refine z_lor (v := 24576) b dX12_packs_23 (by decide) ?_
  refine z_lstore_n (lv' := [(1, .long 24576), (3, .int 1), (4, .int 2), (0, .ref (a 0))]) b dX12_packs_24 rfl (by decide) rfl ?_
  refine z_lload_n b dX12_packs_25 rfl rfl ?_
  refine z_iconst (v := 2) b dX12_packs_26 (by decide) ?_
  refine z_lshl (v := 98304) b dX12_packs_27 (by decide) ?_
  refine z_aload_n b dX12_packs_28 rfl rfl ?_
  refine z_get (q0 := 0) (k9 := 2) (v := .ref (a 3)) b (mw_0 cy a S) rfl in_X12 (by decide) wf_X12_20 rfl dX12_packs_29 ?_
  refine z_iload_n b dX12_packs_32 rfl rfl ?_
  refine y_iald (q0 := 3) (j := 1) (v := (ar S 2 1)) b (mw_3 cy a S) (by decide) rfl dX12_packs_33 ?_
  refine z_eqi h_a_2_1 ?_
  refine z_i2l (v := 3) b dX12_packs_34 (by decide) ?_
  refine z_lor (v := 98307) b dX12_packs_35 (by decide) ?_
  refine z_lstore_n (lv' := [(1, .long 98307), (3, .int 1), (4, .int 2), (0, .ref (a 0))]) b dX12_packs_36 rfl (by decide) rfl ?_
  refine z_lload_n b dX12_packs_37 rfl rfl ?_
  refine z_iconst (v := 1) b dX12_packs_38 (by decide) ?_
  refine z_lshl (v := 196614) b dX12_packs_39 (by decide) ?_
  refine z_aload_n b dX12_packs_40 rfl rfl ?_
  refine z_get (q0 := 0) (k9 := 3) (v := .ref (a 4)) b (mw_0 cy a S) rfl in_X12 (by decide) wf_X12_23 rfl dX12_packs_41 ?_
  refine z_iconst (v := 3) b dX12_packs_44 (by decide) ?_
  refine z_iload_n b dX12_packs_45 rfl rfl ?_
  refine z_imul (v := 3) b dX12_packs_46 (by decide) ?_
  refine z_iload_n b dX12_packs_47 rfl rfl ?_
  refine z_iconst (v := 0) b dX12_packs_48 (by decide) ?_
  refine z_calli b (z_runS (As := [.int 1, .int 0]) (st := [.int 3, .ref (a 4), .long 196614]) b (c_X12_other_4 S ) cf_X12_other wm_X12_160 ws_X12_other dX12_packs_49 rfl (Nat.le_of_ble_eq_true rfl) ⟨by decide, by decide, by decide, by decide⟩) (fun r2210 u2211 h2209 => ?_)
  obtain ⟨rfl, rfl⟩ := h2209
  refine z_iadd (v := 5) b dX12_packs_52 (by decide) ?_
  refine y_zald (q0 := 4) (j := 5) (v := (ar S 3 5)) b (mw_4 cy a S) (by decide) rfl dX12_packs_53 ?_
  refine z_eqi h_a_3_5 ?_
  refine z_if_eq_t (tgt := 61) b dX12_packs_54 (by decide) (by decide) ?_
  refine z_lconst (v := 0) b dX12_packs_61 (by decide) ?_
  refine z_lor (v := 196614) b dX12_packs_62 (by decide) ?_
  refine z_lstore_n (lv' := [(1, .long 196614), (3, .int 1), (4, .int 2), (0, .ref (a 0))]) b dX12_packs_63 rfl (by decide) rfl ?_
  refine z_iconst (v := 0) b dX12_packs_64 (by decide) ?_
  refine z_istore (lv' := [(4, .int 0), (1, .long 196614), (3, .int 1), (0, .ref (a 0))]) b dX12_packs_65 (by decide) rfl ?_
  refine z_iload b dX12_packs_67 rfl ?_
  refine z_iconst (v := 2) b dX12_packs_69 (by decide) ?_
  refine z_icmp_ge_f (tgt := 128) b dX12_packs_70 (by decide) (by decide) ?_
  refine z_lload_n b dX12_packs_73 rfl rfl ?_
  refine z_iconst (v := 3) b dX12_packs_74 (by decide) ?_
  refine z_lshl (v := 1572912) b dX12_packs_75 (by decide) ?_
  refine z_aload_n b dX12_packs_76 rfl rfl ?_
  refine z_get (q0 := 0) (k9 := 1) (v := .ref (a 2)) b (mw_0 cy a S) rfl in_X12 (by decide) wf_X12_17 rfl dX12_packs_77 ?_
  refine z_iconst (v := 3) b dX12_packs_80 (by decide) ?_
  refine z_iload_n b dX12_packs_81 rfl rfl ?_
  refine z_imul (v := 3) b dX12_packs_82 (by decide) ?_
  refine z_iload_n b dX12_packs_83 rfl rfl ?_
  refine z_iload b dX12_packs_84 rfl ?_
  refine z_calli b (z_runS (As := [.int 1, .int 0]) (st := [.int 3, .ref (a 2), .long 1572912]) b (c_X12_other_4 S ) cf_X12_other wm_X12_160 ws_X12_other dX12_packs_86 rfl (Nat.le_of_ble_eq_true rfl) ⟨by decide, by decide, by decide, by decide⟩) (fun r2213 u2214 h2212 => ?_)
  obtain ⟨rfl, rfl⟩ := h2212
  refine z_iadd (v := 5) b dX12_packs_89 (by decide) ?_
  refine y_iald (q0 := 2) (j := 5) (v := (ar S 1 5)) b (mw_2 cy a S) (by decide) rfl dX12_packs_90 ?_
  refine z_eqi h_a_1_5 ?_
  refine z_i2l (v := 0) b dX12_packs_91 (by decide) ?_
  refine z_lor (v := 1572912) b dX12_packs_92 (by decide) ?_
  refine z_lstore_n (lv' := [(1, .long 1572912), (4, .int 0), (3, .int 1), (0, .ref (a 0))]) b dX12_packs_93 rfl (by decide) rfl ?_
  refine z_lload_n b dX12_packs_94 rfl rfl ?_
  refine z_iconst (v := 1) b dX12_packs_95 (by decide) ?_
  refine z_lshl (v := 3145824) b dX12_packs_96 (by decide) ?_
  refine z_aload_n b dX12_packs_97 rfl rfl ?_
  refine z_get (q0 := 0) (k9 := 4) (v := .ref (a 5)) b (mw_0 cy a S) rfl in_X12 (by decide) wf_X12_27 rfl dX12_packs_98 ?_
  refine z_iconst (v := 3) b dX12_packs_101 (by decide) ?_
  refine z_iload_n b dX12_packs_102 rfl rfl ?_
  refine z_imul (v := 3) b dX12_packs_103 (by decide) ?_
  refine z_iload_n b dX12_packs_104 rfl rfl ?_
  refine z_iload b dX12_packs_105 rfl ?_
  refine z_calli b (z_runS (As := [.int 1, .int 0]) (st := [.int 3, .ref (a 5), .long 3145824]) b (c_X12_other_4 S ) cf_X12_other wm_X12_160 ws_X12_other dX12_packs_107 rfl (Nat.le_of_ble_eq_true rfl) ⟨by decide, by decide, by decide, by decide⟩) (fun r2216 u2217 h2215 => ?_)
  obtain ⟨rfl, rfl⟩ := h2215
  refine z_iadd (v := 5) b dX12_packs_110 (by decide) ?_
  refine y_zald (q0 := 5) (j := 5) (v := (ar S 4 5)) b (mw_5 cy a S) (by decide) rfl dX12_packs_111 ?_
  refine z_eqi h_a_4_5 ?_
  refine z_if_eq_t (tgt := 119) b dX12_packs_112 (by decide) (by decide) ?_
  refine z_lconst (v := 0) b dX12_packs_119 (by decide) ?_
  refine z_lor (v := 3145824) b dX12_packs_120 (by decide) ?_
  refine z_lstore_n (lv' := [(1, .long 3145824), (4, .int 0), (3, .int 1), (0, .ref (a 0))]) b dX12_packs_121 rfl (by decide) rfl ?_
  refine z_iinc (k9 := 1) (v := 1) (lv' := [(4, .int 1), (1, .long 3145824), (3, .int 1), (0, .ref (a 0))]) b dX12_packs_122 rfl (by decide) (by decide) rfl ?_
  refine z_goto (tgt := 67) b dX12_packs_125 (by decide) ?_
  refine z_iload b dX12_packs_67 rfl ?_
  refine z_iconst (v := 2) b dX12_packs_69 (by decide) ?_
  refine z_icmp_ge_f (tgt := 128) b dX12_packs_70 (by decide) (by decide) ?_
  refine z_lload_n b dX12_packs_73 rfl rfl ?_
  refine z_iconst (v := 3) b dX12_packs_74 (by decide) ?_
  refine z_lshl (v := 25166592) b dX12_packs_75 (by decide) ?_
  refine z_aload_n b dX12_packs_76 rfl rfl ?_
  refine z_get (q0 := 0) (k9 := 1) (v := .ref (a 2)) b (mw_0 cy a S) rfl in_X12 (by decide) wf_X12_17 rfl dX12_packs_77 ?_
  refine z_iconst (v := 3) b dX12_packs_80 (by decide) ?_
  refine z_iload_n b dX12_packs_81 rfl rfl ?_
  refine z_imul (v := 3) b dX12_packs_82 (by decide) ?_
  refine z_iload_n b dX12_packs_83 rfl rfl ?_
  refine z_iload b dX12_packs_84 rfl ?_
  refine z_calli b (z_runS (As := [.int 1, .int 1]) (st := [.int 3, .ref (a 2), .long 25166592]) b (c_X12_other_3 S ) cf_X12_other wm_X12_160 ws_X12_other dX12_packs_86 rfl (Nat.le_of_ble_eq_true rfl) ⟨by decide, by decide, by decide, by decide⟩) (fun r2219 u2220 h2218 => ?_)
  obtain ⟨rfl, rfl⟩ := h2218
  refine z_iadd (v := 3) b dX12_packs_89 (by decide) ?_
  refine y_iald (q0 := 2) (j := 3) (v := (ar S 1 3)) b (mw_2 cy a S) (by decide) rfl dX12_packs_90 ?_
  refine z_eqi h_a_1_3 ?_
  refine z_i2l (v := 0) b dX12_packs_91 (by decide) ?_
  refine z_lor (v := 25166592) b dX12_packs_92 (by decide) ?_
  refine z_lstore_n (lv' := [(1, .long 25166592), (4, .int 1), (3, .int 1), (0, .ref (a 0))]) b dX12_packs_93 rfl (by decide) rfl ?_
  refine z_lload_n b dX12_packs_94 rfl rfl ?_
  refine z_iconst (v := 1) b dX12_packs_95 (by decide) ?_
  refine z_lshl (v := 50333184) b dX12_packs_96 (by decide) ?_
  refine z_aload_n b dX12_packs_97 rfl rfl ?_
  refine z_get (q0 := 0) (k9 := 4) (v := .ref (a 5)) b (mw_0 cy a S) rfl in_X12 (by decide) wf_X12_27 rfl dX12_packs_98 ?_
  refine z_iconst (v := 3) b dX12_packs_101 (by decide) ?_
  refine z_iload_n b dX12_packs_102 rfl rfl ?_
  refine z_imul (v := 3) b dX12_packs_103 (by decide) ?_
  refine z_iload_n b dX12_packs_104 rfl rfl ?_
  refine z_iload b dX12_packs_105 rfl ?_
  refine z_calli b (z_runS (As := [.int 1, .int 1]) (st := [.int 3, .ref (a 5), .long 50333184]) b (c_X12_other_3 S ) cf_X12_other wm_X12_160 ws_X12_other dX12_packs_107 rfl (Nat.le_of_ble_eq_true rfl) ⟨by decide, by decide, by decide, by decide⟩) (fun r2222 u2223 h2221 => ?_)
  obtain ⟨rfl, rfl⟩ := h2221
  refine z_iadd (v := 3) b dX12_packs_110 (by decide) ?_
  refine y_zald (q0 := 5) (j := 3) (v := (ar S 4 3)) b (mw_5 cy a S) (by decide) rfl dX12_packs_111 ?_
  refine z_eqi h_a_4_3 ?_
  refine z_if_eq_t (tgt := 119) b dX12_packs_112 (by decide) (by decide) ?_
  refine z_lconst (v := 0) b dX12_packs_119 (by decide) ?_
  refine z_lor (v := 50333184) b dX12_packs_120 (by decide) ?_
  refine z_lstore_n (lv' := [(1, .long 50333184), (4, .int 1), (3, .int 1), (0, .ref (a 0))]) b dX12_packs_121 rfl (by decide) rfl ?_
  refine z_iinc (k9 := 1) (v := 2) (lv' := [(4, .int 2), (1, .long 50333184), (3, .int 1), (0, .ref (a 0))]) b dX12_packs_122 rfl (by decide) (by decide) rfl ?_
  refine z_goto (tgt := 67) b dX12_packs_125 (by decide) ?_
  refine z_iload b dX12_packs_67 rfl ?_
  refine z_iconst (v := 2) b dX12_packs_69 (by decide) ?_
  refine z_icmp_ge_t (tgt := 128) b dX12_packs_70 (by decide) (by decide) ?_
  refine z_iinc (k9 := 2) (v := 2) (lv' := [(3, .int 2), (4, .int 2), (1, .long 50333184), (0, .ref (a 0))]) b dX12_packs_128 rfl (by decide) (by decide) rfl ?_
  refine z_goto (tgt := 8) b dX12_packs_131 (by decide) ?_
  refine z_iload_n b dX12_packs_8 rfl rfl ?_
  refine z_iconst (v := 3) b dX12_packs_9 (by decide) ?_
  refine z_icmp_ge_f (tgt := 134) b dX12_packs_10 (by decide) (by decide) ?_
  refine z_lload_n b dX12_packs_13 rfl rfl ?_
  refine z_iconst (v := 4) b dX12_packs_14 (by decide) ?_
  refine z_lshl (v := 805330944) b dX12_packs_15 (by decide) ?_
  refine z_aload_n b dX12_packs_16 rfl rfl ?_
  refine z_get (q0 := 0) (k9 := 0) (v := .ref (a 1)) b (mw_0 cy a S) rfl in_X12 (by decide) wf_X12_13 rfl dX12_packs_17 ?_
  refine z_iload_n b dX12_packs_20 rfl rfl ?_
  refine y_iald (q0 := 1) (j := 2) (v := (ar S 0 2)) b (mw_1 cy a S) (by decide) rfl dX12_packs_21 ?_
  refine z_eqi h_a_0_2 ?_
  refine z_i2l (v := 0) b dX12_packs_22 (by decide) ?_
  refine z_lor (v := 805330944) b dX12_packs_23 (by decide) ?_
  refine z_lstore_n (lv' := [(1, .long 805330944), (3, .int 2), (4, .int 2), (0, .ref (a 0))]) b dX12_packs_24 rfl (by decide) rfl ?_
  refine z_lload_n b dX12_packs_25 rfl rfl ?_
  refine z_iconst (v := 2) b dX12_packs_26 (by decide) ?_
  refine z_lshl (v := 3221323776) b dX12_packs_27 (by decide) ?_
  refine z_aload_n b dX12_packs_28 rfl rfl ?_
  refine z_get (q0 := 0) (k9 := 2) (v := .ref (a 3)) b (mw_0 cy a S) rfl in_X12 (by decide) wf_X12_20 rfl dX12_packs_29 ?_
  refine z_iload_n b dX12_packs_32 rfl rfl ?_
  refine y_iald (q0 := 3) (j := 2) (v := (ar S 2 2)) b (mw_3 cy a S) (by decide) rfl dX12_packs_33 ?_
  refine z_eqi h_a_2_2 ?_
  refine z_i2l (v := 3) b dX12_packs_34 (by decide) ?_
  refine z_lor (v := 3221323779) b dX12_packs_35 (by decide) ?_
  refine z_lstore_n (lv' := [(1, .long 3221323779), (3, .int 2), (4, .int 2), (0, .ref (a 0))]) b dX12_packs_36 rfl (by decide) rfl ?_
  exact k

set_option maxHeartbeats 4000000 in
set_option maxRecDepth 100000 in
theorem c_X12_packs_17 {l : Launch} {D : va_G} {cy : Nat → ClassId} {T0 tB tE : Nat} {a : Nat → Nat} (S : GS)  (h_i_0 : fi S 0 = 0) (h_a_0_0 : ar S 0 0 = 0) (h_a_2_0 : ar S 2 0 = 3) (h_a_3_1 : ar S 3 1 = 0) (h_a_1_1 : ar S 1 1 = 0) (h_a_4_1 : ar S 4 1 = 0) (h_a_1_2 : ar S 1 2 = 0) (h_a_4_2 : ar S 4 2 = 0) (h_a_0_1 : ar S 0 1 = 0) (h_a_2_1 : ar S 2 1 = 3) (h_a_3_5 : ar S 3 5 = 0) (h_a_1_5 : ar S 1 5 = 0) (h_a_4_5 : ar S 4 5 = 0) (h_a_1_3 : ar S 1 3 = 0) (h_a_4_3 : ar S 4 3 = 0) (h_a_0_2 : ar S 0 2 = 0) (h_a_2_2 : ar S 2 2 = 3) (h_a_3_6 : ar S 3 6 = 1) (h_a_1_6 : ar S 1 6 = 0) (h_a_4_6 : ar S 4 6 = 0) (h_a_1_7 : ar S 1 7 = 0) (h_a_4_7 : ar S 4 7 = 0) : Ct l D cy T0 tB tE yX12_packs cX12_packs 5 (some .long) 1 21 0 0 (mw cy a S) [.ref (a 0)] (QL D (U := GS) (fun r u => 1649317775104 = r ∧ S = u) (mw cy a)) := by
  refine Ct.ofZ RX12 "packs" [(0, .ref (a 0))] rfl rfl rfl rfl (Nat.le_of_ble_eq_true rfl) ?_
  intro p e R s m args below meth c A b
  refine ch_X12_packs_36 S  h_a_0_0 h_a_1_1 h_a_1_2 h_a_2_0 h_a_3_1 h_a_4_1 h_a_4_2 h_i_0  b ?_
  refine ch_X12_packs_37 S  h_a_0_1 h_a_0_2 h_a_1_3 h_a_1_5 h_a_2_1 h_a_2_2 h_a_3_5 h_a_4_3 h_a_4_5  b ?_
  refine z_lload_n b dX12_packs_37 rfl rfl ?_
  refine z_iconst (v := 1) b dX12_packs_38 (by decide) ?_
  refine z_lshl (v := 6442647558) b dX12_packs_39 (by decide) ?_
  refine z_aload_n b dX12_packs_40 rfl rfl ?_
  refine z_get (q0 := 0) (k9 := 3) (v := .ref (a 4)) b (mw_0 cy a S) rfl in_X12 (by decide) wf_X12_23 rfl dX12_packs_41 ?_
  refine z_iconst (v := 3) b dX12_packs_44 (by decide) ?_
  refine z_iload_n b dX12_packs_45 rfl rfl ?_
  refine z_imul (v := 6) b dX12_packs_46 (by decide) ?_
  refine z_iload_n b dX12_packs_47 rfl rfl ?_
  refine z_iconst (v := 0) b dX12_packs_48 (by decide) ?_
  refine z_calli b (z_runS (As := [.int 2, .int 0]) (st := [.int 6, .ref (a 4), .long 6442647558]) b (c_X12_other_2 S ) cf_X12_other wm_X12_160 ws_X12_other dX12_packs_49 rfl (Nat.le_of_ble_eq_true rfl) ⟨by decide, by decide, by decide, by decide⟩) (fun r2225 u2226 h2224 => ?_)
  obtain ⟨rfl, rfl⟩ := h2224
  refine z_iadd (v := 6) b dX12_packs_52 (by decide) ?_
  refine y_zald (q0 := 4) (j := 6) (v := (ar S 3 6)) b (mw_4 cy a S) (by decide) rfl dX12_packs_53 ?_
  refine z_eqi h_a_3_6 ?_
  refine z_if_eq_f (tgt := 61) b dX12_packs_54 (by decide) (by decide) ?_
  refine z_lconst (v := 1) b dX12_packs_57 (by decide) ?_
  refine z_goto (tgt := 62) b dX12_packs_58 (by decide) ?_
  refine z_lor (v := 6442647559) b dX12_packs_62 (by decide) ?_
  refine z_lstore_n (lv' := [(1, .long 6442647559), (3, .int 2), (4, .int 2), (0, .ref (a 0))]) b dX12_packs_63 rfl (by decide) rfl ?_
  refine z_iconst (v := 0) b dX12_packs_64 (by decide) ?_
  refine z_istore (lv' := [(4, .int 0), (1, .long 6442647559), (3, .int 2), (0, .ref (a 0))]) b dX12_packs_65 (by decide) rfl ?_
  refine z_iload b dX12_packs_67 rfl ?_
  refine z_iconst (v := 2) b dX12_packs_69 (by decide) ?_
  refine z_icmp_ge_f (tgt := 128) b dX12_packs_70 (by decide) (by decide) ?_
  refine z_lload_n b dX12_packs_73 rfl rfl ?_
  refine z_iconst (v := 3) b dX12_packs_74 (by decide) ?_
  refine z_lshl (v := 51541180472) b dX12_packs_75 (by decide) ?_
  refine z_aload_n b dX12_packs_76 rfl rfl ?_
  refine z_get (q0 := 0) (k9 := 1) (v := .ref (a 2)) b (mw_0 cy a S) rfl in_X12 (by decide) wf_X12_17 rfl dX12_packs_77 ?_
  refine z_iconst (v := 3) b dX12_packs_80 (by decide) ?_
  refine z_iload_n b dX12_packs_81 rfl rfl ?_
  refine z_imul (v := 6) b dX12_packs_82 (by decide) ?_
  refine z_iload_n b dX12_packs_83 rfl rfl ?_
  refine z_iload b dX12_packs_84 rfl ?_
  refine z_calli b (z_runS (As := [.int 2, .int 0]) (st := [.int 6, .ref (a 2), .long 51541180472]) b (c_X12_other_2 S ) cf_X12_other wm_X12_160 ws_X12_other dX12_packs_86 rfl (Nat.le_of_ble_eq_true rfl) ⟨by decide, by decide, by decide, by decide⟩) (fun r2228 u2229 h2227 => ?_)
  obtain ⟨rfl, rfl⟩ := h2227
  refine z_iadd (v := 6) b dX12_packs_89 (by decide) ?_
  refine y_iald (q0 := 2) (j := 6) (v := (ar S 1 6)) b (mw_2 cy a S) (by decide) rfl dX12_packs_90 ?_
  refine z_eqi h_a_1_6 ?_
  refine z_i2l (v := 0) b dX12_packs_91 (by decide) ?_
  refine z_lor (v := 51541180472) b dX12_packs_92 (by decide) ?_
  refine z_lstore_n (lv' := [(1, .long 51541180472), (4, .int 0), (3, .int 2), (0, .ref (a 0))]) b dX12_packs_93 rfl (by decide) rfl ?_
  refine z_lload_n b dX12_packs_94 rfl rfl ?_
  refine z_iconst (v := 1) b dX12_packs_95 (by decide) ?_
  refine z_lshl (v := 103082360944) b dX12_packs_96 (by decide) ?_
  refine z_aload_n b dX12_packs_97 rfl rfl ?_
  refine z_get (q0 := 0) (k9 := 4) (v := .ref (a 5)) b (mw_0 cy a S) rfl in_X12 (by decide) wf_X12_27 rfl dX12_packs_98 ?_
  refine z_iconst (v := 3) b dX12_packs_101 (by decide) ?_
  refine z_iload_n b dX12_packs_102 rfl rfl ?_
  refine z_imul (v := 6) b dX12_packs_103 (by decide) ?_
  refine z_iload_n b dX12_packs_104 rfl rfl ?_
  refine z_iload b dX12_packs_105 rfl ?_
  refine z_calli b (z_runS (As := [.int 2, .int 0]) (st := [.int 6, .ref (a 5), .long 103082360944]) b (c_X12_other_2 S ) cf_X12_other wm_X12_160 ws_X12_other dX12_packs_107 rfl (Nat.le_of_ble_eq_true rfl) ⟨by decide, by decide, by decide, by decide⟩) (fun r2231 u2232 h2230 => ?_)
  obtain ⟨rfl, rfl⟩ := h2230
  refine z_iadd (v := 6) b dX12_packs_110 (by decide) ?_
  refine y_zald (q0 := 5) (j := 6) (v := (ar S 4 6)) b (mw_5 cy a S) (by decide) rfl dX12_packs_111 ?_
  refine z_eqi h_a_4_6 ?_
  refine z_if_eq_t (tgt := 119) b dX12_packs_112 (by decide) (by decide) ?_
  refine z_lconst (v := 0) b dX12_packs_119 (by decide) ?_
  refine z_lor (v := 103082360944) b dX12_packs_120 (by decide) ?_
  refine z_lstore_n (lv' := [(1, .long 103082360944), (4, .int 0), (3, .int 2), (0, .ref (a 0))]) b dX12_packs_121 rfl (by decide) rfl ?_
  refine z_iinc (k9 := 1) (v := 1) (lv' := [(4, .int 1), (1, .long 103082360944), (3, .int 2), (0, .ref (a 0))]) b dX12_packs_122 rfl (by decide) (by decide) rfl ?_
  refine z_goto (tgt := 67) b dX12_packs_125 (by decide) ?_
  refine z_iload b dX12_packs_67 rfl ?_
  refine z_iconst (v := 2) b dX12_packs_69 (by decide) ?_
  refine z_icmp_ge_f (tgt := 128) b dX12_packs_70 (by decide) (by decide) ?_
  refine z_lload_n b dX12_packs_73 rfl rfl ?_
  refine z_iconst (v := 3) b dX12_packs_74 (by decide) ?_
  refine z_lshl (v := 824658887552) b dX12_packs_75 (by decide) ?_
  refine z_aload_n b dX12_packs_76 rfl rfl ?_
  refine z_get (q0 := 0) (k9 := 1) (v := .ref (a 2)) b (mw_0 cy a S) rfl in_X12 (by decide) wf_X12_17 rfl dX12_packs_77 ?_
  refine z_iconst (v := 3) b dX12_packs_80 (by decide) ?_
  refine z_iload_n b dX12_packs_81 rfl rfl ?_
  refine z_imul (v := 6) b dX12_packs_82 (by decide) ?_
  refine z_iload_n b dX12_packs_83 rfl rfl ?_
  refine z_iload b dX12_packs_84 rfl ?_
  refine z_calli b (z_runS (As := [.int 2, .int 1]) (st := [.int 6, .ref (a 2), .long 824658887552]) b (c_X12_other S ) cf_X12_other wm_X12_160 ws_X12_other dX12_packs_86 rfl (Nat.le_of_ble_eq_true rfl) ⟨by decide, by decide, by decide, by decide⟩) (fun r2234 u2235 h2233 => ?_)
  obtain ⟨rfl, rfl⟩ := h2233
  refine z_iadd (v := 7) b dX12_packs_89 (by decide) ?_
  refine y_iald (q0 := 2) (j := 7) (v := (ar S 1 7)) b (mw_2 cy a S) (by decide) rfl dX12_packs_90 ?_
  refine z_eqi h_a_1_7 ?_
  refine z_i2l (v := 0) b dX12_packs_91 (by decide) ?_
  refine z_lor (v := 824658887552) b dX12_packs_92 (by decide) ?_
  refine z_lstore_n (lv' := [(1, .long 824658887552), (4, .int 1), (3, .int 2), (0, .ref (a 0))]) b dX12_packs_93 rfl (by decide) rfl ?_
  refine z_lload_n b dX12_packs_94 rfl rfl ?_
  refine z_iconst (v := 1) b dX12_packs_95 (by decide) ?_
  refine z_lshl (v := 1649317775104) b dX12_packs_96 (by decide) ?_
  refine z_aload_n b dX12_packs_97 rfl rfl ?_
  refine z_get (q0 := 0) (k9 := 4) (v := .ref (a 5)) b (mw_0 cy a S) rfl in_X12 (by decide) wf_X12_27 rfl dX12_packs_98 ?_
  refine z_iconst (v := 3) b dX12_packs_101 (by decide) ?_
  refine z_iload_n b dX12_packs_102 rfl rfl ?_
  refine z_imul (v := 6) b dX12_packs_103 (by decide) ?_
  refine z_iload_n b dX12_packs_104 rfl rfl ?_
  refine z_iload b dX12_packs_105 rfl ?_
  refine z_calli b (z_runS (As := [.int 2, .int 1]) (st := [.int 6, .ref (a 5), .long 1649317775104]) b (c_X12_other S ) cf_X12_other wm_X12_160 ws_X12_other dX12_packs_107 rfl (Nat.le_of_ble_eq_true rfl) ⟨by decide, by decide, by decide, by decide⟩) (fun r2237 u2238 h2236 => ?_)
  obtain ⟨rfl, rfl⟩ := h2236
  refine z_iadd (v := 7) b dX12_packs_110 (by decide) ?_
  refine y_zald (q0 := 5) (j := 7) (v := (ar S 4 7)) b (mw_5 cy a S) (by decide) rfl dX12_packs_111 ?_
  refine z_eqi h_a_4_7 ?_
  refine z_if_eq_t (tgt := 119) b dX12_packs_112 (by decide) (by decide) ?_
  refine z_lconst (v := 0) b dX12_packs_119 (by decide) ?_
  refine z_lor (v := 1649317775104) b dX12_packs_120 (by decide) ?_
  refine z_lstore_n (lv' := [(1, .long 1649317775104), (4, .int 1), (3, .int 2), (0, .ref (a 0))]) b dX12_packs_121 rfl (by decide) rfl ?_
  refine z_iinc (k9 := 1) (v := 2) (lv' := [(4, .int 2), (1, .long 1649317775104), (3, .int 2), (0, .ref (a 0))]) b dX12_packs_122 rfl (by decide) (by decide) rfl ?_
  refine z_goto (tgt := 67) b dX12_packs_125 (by decide) ?_
  refine z_iload b dX12_packs_67 rfl ?_
  refine z_iconst (v := 2) b dX12_packs_69 (by decide) ?_
  refine z_icmp_ge_t (tgt := 128) b dX12_packs_70 (by decide) (by decide) ?_
  refine z_iinc (k9 := 2) (v := 3) (lv' := [(3, .int 3), (4, .int 2), (1, .long 1649317775104), (0, .ref (a 0))]) b dX12_packs_128 rfl (by decide) (by decide) rfl ?_
  refine z_goto (tgt := 8) b dX12_packs_131 (by decide) ?_
  refine z_iload_n b dX12_packs_8 rfl rfl ?_
  refine z_iconst (v := 3) b dX12_packs_9 (by decide) ?_
  refine z_icmp_ge_t (tgt := 134) b dX12_packs_10 (by decide) (by decide) ?_
  refine z_lload_n b dX12_packs_134 rfl rfl ?_
  exact z_lret (u := S) b rfl dX12_packs_135 ⟨rfl, rfl⟩ rfl (by decide) (by decide)

set_option maxHeartbeats 4000000 in
set_option maxRecDepth 100000 in
theorem c_X12_told_17 {l : Launch} {D : va_G} {cy : Nat → ClassId} {T0 tB tE : Nat} {a : Nat → Nat} (S : GS)  (h_i_0 : fi S 0 = 0) (h_a_0_0 : ar S 0 0 = 0) (h_a_2_0 : ar S 2 0 = 3) (h_a_3_1 : ar S 3 1 = 0) (h_a_1_1 : ar S 1 1 = 0) (h_a_4_1 : ar S 4 1 = 0) (h_a_1_2 : ar S 1 2 = 0) (h_a_4_2 : ar S 4 2 = 0) (h_a_0_1 : ar S 0 1 = 0) (h_a_2_1 : ar S 2 1 = 3) (h_a_3_5 : ar S 3 5 = 0) (h_a_1_5 : ar S 1 5 = 0) (h_a_4_5 : ar S 4 5 = 0) (h_a_1_3 : ar S 1 3 = 0) (h_a_4_3 : ar S 4 3 = 0) (h_a_0_2 : ar S 0 2 = 0) (h_a_2_2 : ar S 2 2 = 3) (h_a_3_6 : ar S 3 6 = 1) (h_a_1_6 : ar S 1 6 = 0) (h_a_4_6 : ar S 4 6 = 0) (h_a_1_7 : ar S 1 7 = 0) (h_a_4_7 : ar S 4 7 = 0) : Ct l D cy T0 tB tE yX12_told cX12_told 1 (some .boolean) 2 45 0 0 (mw cy a S) [.ref (a 0)] (QI D (U := GS) (fun r u => 1 = r ∧ sl S 0 1649317775104 = u) (mw cy a)) := by
  refine Ct.ofZ RX12 "told" [(0, .ref (a 0))] rfl rfl rfl rfl (Nat.le_of_ble_eq_true rfl) ?_
  intro p e R s m args below meth c A b
  refine z_aload_n b dX12_told_0 rfl rfl ?_
  refine z_aload_n b dX12_told_1 rfl rfl ?_
  refine z_calll b (z_runV (q0 := 0) (As := []) (st := [.ref (a 0)]) b (c_X12_packs_17 S h_i_0 h_a_0_0 h_a_2_0 h_a_3_1 h_a_1_1 h_a_4_1 h_a_1_2 h_a_4_2 h_a_0_1 h_a_2_1 h_a_3_5 h_a_1_5 h_a_4_5 h_a_1_3 h_a_4_3 h_a_0_2 h_a_2_2 h_a_3_6 h_a_1_6 h_a_4_6 h_a_1_7 h_a_4_7) cf_X12_packs (mw_0 cy a S) rfl wm_X12_149 wi_X12_packs ws_X12_packs dX12_told_2 rfl (Nat.le_of_ble_eq_true rfl) ⟨by decide, by decide, by decide, by decide⟩) (fun r2240 u2241 h2239 => ?_)
  obtain ⟨rfl, rfl⟩ := h2239
  refine z_put (q0 := 0) (k9 := 6) tyX12 b (mw_0 cy a S) rfl in_X12 tyX12_ok nmX12 (by decide) wf_X12_153 rfl rfl rfl rfl (Nat.le_of_ble_eq_true rfl) dX12_told_5 (mwp_0_6 cy a S 1649317775104) ?_
  refine z_iconst (v := 1) b dX12_told_8 (by decide) ?_
  exact z_zret (u := (sl S 0 1649317775104)) b rfl (by decide) dX12_told_9 ⟨rfl, rfl⟩ rfl (by decide) (by decide)

set_option maxHeartbeats 4000000 in
set_option maxRecDepth 100000 in
theorem c_X12_kin_34 {l : Launch} {D : va_G} {cy : Nat → ClassId} {T0 tB tE : Nat} {a : Nat → Nat} (S : GS)  (h_l_0 : fl S 0 = 1649317774848) (h_a_4_7 : ar S 4 7 = 0) (h_a_1_7 : ar S 1 7 = 0) (h_a_4_6 : ar S 4 6 = 0) (h_a_1_6 : ar S 1 6 = 0) (h_a_3_6 : ar S 3 6 = 0) (h_a_3_2 : ar S 3 2 = 0) (h_a_2_2 : ar S 2 2 = 3) (h_a_0_2 : ar S 0 2 = 0) (h_a_4_3 : ar S 4 3 = 0) (h_a_1_3 : ar S 1 3 = 0) (h_a_4_5 : ar S 4 5 = 0) (h_a_1_5 : ar S 1 5 = 0) (h_a_3_5 : ar S 3 5 = 0) (h_a_3_7 : ar S 3 7 = 0) (h_a_2_1 : ar S 2 1 = 3) (h_a_0_1 : ar S 0 1 = 0) (h_a_4_2 : ar S 4 2 = 0) (h_a_1_2 : ar S 1 2 = 0) (h_a_4_1 : ar S 4 1 = 0) (h_a_1_1 : ar S 1 1 = 0) (h_a_3_1 : ar S 3 1 = 0) (h_a_3_3 : ar S 3 3 = 0) (h_a_2_0 : ar S 2 0 = 3) (h_a_0_0 : ar S 0 0 = 0) (h_i_0 : fi S 0 = 0) : Ct l D cy T0 tB tE yX12_kin cX12_kin 5 (some .boolean) 3 65 0 0 (mw cy a S) [.ref (a 0), .int 0, .int 2, .int 0, .int 1] (QI D (U := GS) (fun r u => 1 = r ∧ sl (su (su S 3 2 1) 3 6 1) 0 1649317775104 = u) (mw cy a)) := by
  refine Ct.ofZ RX12 "kin" [(0, .ref (a 0)), (1, .int 0), (2, .int 2), (3, .int 0), (4, .int 1)] rfl rfl rfl rfl (Nat.le_of_ble_eq_true rfl) ?_
  intro p e R s m args below meth c A b
  refine z_iload_n b dX12_kin_0 rfl rfl ?_
  refine z_calli b (z_runS (As := [.int 0]) (st := []) b (c_X12_isOne_3 S ) cf_X12_isOne wm_X12_170 ws_X12_isOne dX12_kin_1 rfl (Nat.le_of_ble_eq_true rfl) ⟨by decide, by decide, by decide, by decide⟩) (fun r2183 u2184 h2182 => ?_)
  obtain ⟨rfl, rfl⟩ := h2182
  refine z_if_eq_f (tgt := 28) b dX12_kin_4 (by decide) (by decide) ?_
  refine z_iload_n b dX12_kin_7 rfl rfl ?_
  refine z_calli b (z_runS (As := [.int 2]) (st := []) b (c_X12_isOne_5 S ) cf_X12_isOne wm_X12_170 ws_X12_isOne dX12_kin_8 rfl (Nat.le_of_ble_eq_true rfl) ⟨by decide, by decide, by decide, by decide⟩) (fun r2186 u2187 h2185 => ?_)
  obtain ⟨rfl, rfl⟩ := h2185
  refine z_if_eq_f (tgt := 28) b dX12_kin_11 (by decide) (by decide) ?_
  refine z_iload_n b dX12_kin_14 rfl rfl ?_
  refine z_iload_n b dX12_kin_15 rfl rfl ?_
  refine z_icmp_eq_f (tgt := 28) b dX12_kin_16 (by decide) (by decide) ?_
  refine z_iload_n b dX12_kin_19 rfl rfl ?_
  refine z_iconst (v := 0) b dX12_kin_20 (by decide) ?_
  refine z_iconst (v := 1) b dX12_kin_21 (by decide) ?_
  refine z_calli b (z_runS (As := [.int 0, .int 0, .int 1]) (st := []) b (c_X12_isIn_16 S ) cf_X12_isIn wm_X12_1 ws_X12_isIn dX12_kin_22 rfl (Nat.le_of_ble_eq_true rfl) ⟨by decide, by decide, by decide, by decide⟩) (fun r2189 u2190 h2188 => ?_)
  obtain ⟨rfl, rfl⟩ := h2188
  refine z_if_ne_t (tgt := 30) b dX12_kin_25 (by decide) (by decide) ?_
  refine z_aload_n b dX12_kin_30 rfl rfl ?_
  refine z_aload_n b dX12_kin_31 rfl rfl ?_
  refine z_get (q0 := 0) (k9 := 6) (v := .long (fl S 0)) b (mw_0 cy a S) rfl in_X12 (by decide) wf_X12_153 rfl dX12_kin_32 ?_
  refine z_eql h_l_0 ?_
  refine z_callv b (z_runV (q0 := 0) (As := [.long 1649317774848]) (st := []) b (c_X12_takes S h_a_4_7 h_a_1_7 h_a_4_6 h_a_1_6 h_a_3_6 h_a_3_2 h_a_2_2 h_a_0_2 h_a_4_3 h_a_1_3 h_a_4_5 h_a_1_5 h_a_3_5 h_a_3_7 h_a_2_1 h_a_0_1 h_a_4_2 h_a_1_2 h_a_4_1 h_a_1_1 h_a_3_1 h_a_3_3 h_a_2_0 h_a_0_0 h_i_0) cf_X12_takes (mw_0 cy a S) rfl wm_X12_174 wi_X12_takes ws_X12_takes dX12_kin_35 rfl (Nat.le_of_ble_eq_true rfl) ⟨by decide, by decide, by decide, by decide⟩) (fun u2193 h2191 => ?_)
  obtain rfl := h2191
  refine z_iload_n b dX12_kin_38 rfl rfl ?_
  refine z_iconst (v := 1) b dX12_kin_39 (by decide) ?_
  refine z_icmp_ne_t (tgt := 58) b dX12_kin_40 (by decide) (by decide) ?_
  refine z_aload_n b dX12_kin_58 rfl rfl ?_
  refine z_get (q0 := 0) (k9 := 3) (v := .ref (a 4)) b (mw_0 cy a S) rfl in_X12 (by decide) wf_X12_23 rfl dX12_kin_59 ?_
  refine z_iconst (v := 3) b dX12_kin_62 (by decide) ?_
  refine z_iload_n b dX12_kin_63 rfl rfl ?_
  refine z_imul (v := 0) b dX12_kin_64 (by decide) ?_
  refine z_iload_n b dX12_kin_65 rfl rfl ?_
  refine z_iadd (v := 2) b dX12_kin_66 (by decide) ?_
  refine z_iload b dX12_kin_67 rfl ?_
  refine y_zast (q0 := 4) (j := 2) b (mw_4 cy a S) (by decide) (by decide) dX12_kin_69 (mwa_4 cy a S 2 1) ?_
  refine z_aload_n b dX12_kin_70 rfl rfl ?_
  refine z_get (q0 := 0) (k9 := 3) (v := .ref (a 4)) b (mw_0 cy a (su S 3 2 1)) rfl in_X12 (by decide) wf_X12_23 rfl dX12_kin_71 ?_
  refine z_iconst (v := 3) b dX12_kin_74 (by decide) ?_
  refine z_iload_n b dX12_kin_75 rfl rfl ?_
  refine z_imul (v := 6) b dX12_kin_76 (by decide) ?_
  refine z_iload_n b dX12_kin_77 rfl rfl ?_
  refine z_iadd (v := 6) b dX12_kin_78 (by decide) ?_
  refine z_iload b dX12_kin_79 rfl ?_
  refine y_zast (q0 := 4) (j := 6) b (mw_4 cy a (su S 3 2 1)) (by decide) (by decide) dX12_kin_81 (mwa_4 cy a (su S 3 2 1) 6 1) ?_
  refine z_aload_n b dX12_kin_82 rfl rfl ?_
  refine z_calli b (z_runV (q0 := 0) (As := []) (st := []) b (c_X12_told_17 (su (su S 3 2 1) 3 6 1) h_i_0 h_a_0_0 h_a_2_0 h_a_3_1 h_a_1_1 h_a_4_1 h_a_1_2 h_a_4_2 h_a_0_1 h_a_2_1 h_a_3_5 h_a_1_5 h_a_4_5 h_a_1_3 h_a_4_3 h_a_0_2 h_a_2_2 rfl h_a_1_6 h_a_4_6 h_a_1_7 h_a_4_7) cf_X12_told (mw_0 cy a (su (su S 3 2 1) 3 6 1)) rfl wm_X12_178 wi_X12_told ws_X12_told dX12_kin_83 rfl (Nat.le_of_ble_eq_true rfl) ⟨by decide, by decide, by decide, by decide⟩) (fun r2243 u2244 h2242 => ?_)
  obtain ⟨rfl, rfl⟩ := h2242
  exact z_zret (u := (sl (su (su S 3 2 1) 3 6 1) 0 1649317775104)) b rfl (by decide) dX12_kin_86 ⟨rfl, rfl⟩ rfl (by decide) (by decide)

set_option maxHeartbeats 4000000 in
set_option maxRecDepth 100000 in
theorem c_X9_set_24 {l : Launch} {D : va_G} {cy : Nat → ClassId} {T0 tB tE : Nat} {a : Nat → Nat} {rw : Nat → Option Nat} (S : GS)  (h_a_4_32 : ar S 4 32 = 0) : Ct l D cy T0 tB tE yX9_set cX9_set 3 none 0 0 0 0 (cw cy tE a rw S) [.ref (a 14), .int 32, .int 0] (QV D (U := GS) (fun u => S = u) (cw cy tE a rw)) := by
  refine Ct.ofZ RX9 "set" [(0, .ref (a 14)), (1, .int 32), (2, .int 0)] rfl rfl rfl rfl (Nat.le_of_ble_eq_true rfl) ?_
  intro p e R s m args below meth c A b
  refine z_iload_n b dX9_set_0 rfl rfl ?_
  refine z_if_lt_f (tgt := 20) b dX9_set_1 (by decide) (by decide) ?_
  refine z_iload_n b dX9_set_4 rfl rfl ?_
  refine z_aload_n b dX9_set_5 rfl rfl ?_
  refine z_get (q0 := 14) (k9 := 0) (v := .ref (a 15)) b (cw_14 cy tE a rw S) rfl in_X9 (by decide) wf_X9_11 rfl dX9_set_6 ?_
  refine z_alen (q0 := 15) (t0 := 0) (v := 51) b (cw_15 cy tE a rw S) rfl rfl dX9_set_9 ?_
  refine z_icmp_ge_f (tgt := 20) b dX9_set_10 (by decide) (by decide) ?_
  refine z_aload_n b dX9_set_13 rfl rfl ?_
  refine z_get (q0 := 14) (k9 := 0) (v := .ref (a 15)) b (cw_14 cy tE a rw S) rfl in_X9 (by decide) wf_X9_11 rfl dX9_set_14 ?_
  refine z_iload_n b dX9_set_17 rfl rfl ?_
  refine z_iload_n b dX9_set_18 rfl rfl ?_
  refine y_iast (q0 := 15) (j := 32) b (cw_15 cy tE a rw S) (by decide) dX9_set_19 ((cwa_15 cy tE a rw S 32 0).trans (congrArg (cw cy tE a rw) (su_same h_a_4_32))) ?_
  exact z_vret (u := S) b rfl dX9_set_20 rfl rfl (by decide) (by decide)

set_option maxHeartbeats 4000000 in
set_option maxRecDepth 100000 in
theorem c_X11_kin_35 {l : Launch} {D : va_G} {cy : Nat → ClassId} {T0 tB tE : Nat} {a : Nat → Nat} {rw : Nat → Option Nat} (S : GS)  (h_a_4_32 : ar S 4 32 = 0) (h_i_24 : fi S 24 = 0) : Ct l D cy T0 tB tE yX11_kin cX11_kin 6 (some .boolean) 2 41 0 0 (cw cy tE a rw S) [.ref (a 0), .int 0, .int 2, .int 1, .int 0] (QI D (U := GS) (fun r u => 1 = r ∧ S = u) (cw cy tE a rw)) := by
  refine Ct.ofZ RX11 "kin" [(0, .ref (a 0)), (1, .int 0), (2, .int 2), (3, .int 1), (4, .int 0)] rfl rfl rfl rfl (Nat.le_of_ble_eq_true rfl) ?_
  intro p e R s m args below meth c A b
  refine z_iload_n b dX11_kin_0 rfl rfl ?_
  refine z_iload_n b dX11_kin_1 rfl rfl ?_
  refine z_calli b (z_runS (As := [.int 0, .int 2]) (st := []) b (c_X11_arePair_13 S ) cf_X11_arePair wm_X11_84 ws_X11_arePair dX11_kin_2 rfl (Nat.le_of_ble_eq_true rfl) ⟨by decide, by decide, by decide, by decide⟩) (fun r2246 u2247 h2245 => ?_)
  obtain ⟨rfl, rfl⟩ := h2245
  refine z_if_eq_f (tgt := 16) b dX11_kin_5 (by decide) (by decide) ?_
  refine z_iload_n b dX11_kin_8 rfl rfl ?_
  refine z_iconst (v := 1) b dX11_kin_9 (by decide) ?_
  refine z_calli b (z_runS (As := [.int 1, .int 1]) (st := []) b (c_X11_isWithin_12 S ) cf_X11_isWithin wm_X11_73 ws_X11_isWithin dX11_kin_10 rfl (Nat.le_of_ble_eq_true rfl) ⟨by decide, by decide, by decide, by decide⟩) (fun r2249 u2250 h2248 => ?_)
  obtain ⟨rfl, rfl⟩ := h2248
  refine z_if_ne_t (tgt := 18) b dX11_kin_13 (by decide) (by decide) ?_
  refine z_iload b dX11_kin_18 rfl ?_
  refine z_if_eq_t (tgt := 27) b dX11_kin_20 (by decide) (by decide) ?_
  refine z_iconst (v := 0) b dX11_kin_27 (by decide) ?_
  refine z_istore (lv' := [(5, .int 0), (0, .ref (a 0)), (1, .int 0), (2, .int 2), (3, .int 1), (4, .int 0)]) b dX11_kin_28 (by decide) rfl ?_
  refine z_iload_n b dX11_kin_30 rfl rfl ?_
  refine z_if_ne_t (tgt := 71) b dX11_kin_31 (by decide) (by decide) ?_
  refine z_aload_n b dX11_kin_71 rfl rfl ?_
  refine z_get (q0 := 0) (k9 := 4) (v := .ref (a 14)) b (cw_0 cy tE a rw S) rfl in_X11 (by decide) wf_X11_34 rfl dX11_kin_72 ?_
  refine z_bipush (v := 30) b dX11_kin_75 (by decide) ?_
  refine z_iconst (v := 3) b dX11_kin_77 (by decide) ?_
  refine z_iload_n b dX11_kin_78 rfl rfl ?_
  refine z_imul (v := 0) b dX11_kin_79 (by decide) ?_
  refine z_iadd (v := 30) b dX11_kin_80 (by decide) ?_
  refine z_iload_n b dX11_kin_81 rfl rfl ?_
  refine z_iadd (v := 32) b dX11_kin_82 (by decide) ?_
  refine z_iload b dX11_kin_83 rfl ?_
  refine z_callv b (z_runV (q0 := 14) (As := [.int 32, .int 0]) (st := []) b (c_X9_set_24 S h_a_4_32) cf_X9_set (cw_14 cy tE a rw S) rfl wm_X11_77 wi_X9_set ws_X9_set dX11_kin_85 rfl (Nat.le_of_ble_eq_true rfl) ⟨by decide, by decide, by decide, by decide⟩) (fun u2253 h2251 => ?_)
  obtain rfl := h2251
  refine z_aload_n b dX11_kin_88 rfl rfl ?_
  refine z_get (q0 := 0) (k9 := 6) (v := .ref (a 25)) b (cw_0 cy tE a rw S) rfl in_X11 (by decide) wf_X11_52 rfl dX11_kin_89 ?_
  refine z_callv b (z_runV (q0 := 25) (As := []) (st := []) b (c_X8_forget S h_i_24) cf_X8_forget (cw_25 cy tE a rw S) rfl wm_X11_81 wi_X8_forget ws_X8_forget dX11_kin_92 rfl (Nat.le_of_ble_eq_true rfl) ⟨by decide, by decide, by decide, by decide⟩) (fun u2256 h2254 => ?_)
  obtain rfl := h2254
  refine z_iconst (v := 1) b dX11_kin_95 (by decide) ?_
  exact z_zret (u := S) b rfl (by decide) dX11_kin_96 ⟨rfl, rfl⟩ rfl (by decide) (by decide)

set_option maxHeartbeats 4000000 in
set_option maxRecDepth 100000 in
theorem c_X12_kin_35 {l : Launch} {D : va_G} {cy : Nat → ClassId} {T0 tB tE : Nat} {a : Nat → Nat} (S : GS)  (h_l_0 : fl S 0 = 1649317774848) (h_a_4_7 : ar S 4 7 = 0) (h_a_1_7 : ar S 1 7 = 0) (h_a_4_6 : ar S 4 6 = 0) (h_a_1_6 : ar S 1 6 = 0) (h_a_3_6 : ar S 3 6 = 0) (h_a_3_2 : ar S 3 2 = 0) (h_a_2_2 : ar S 2 2 = 3) (h_a_0_2 : ar S 0 2 = 0) (h_a_4_3 : ar S 4 3 = 0) (h_a_1_3 : ar S 1 3 = 0) (h_a_4_5 : ar S 4 5 = 0) (h_a_1_5 : ar S 1 5 = 0) (h_a_3_5 : ar S 3 5 = 0) (h_a_3_7 : ar S 3 7 = 0) (h_a_2_1 : ar S 2 1 = 3) (h_a_0_1 : ar S 0 1 = 0) (h_a_4_2 : ar S 4 2 = 0) (h_a_1_2 : ar S 1 2 = 0) (h_a_4_1 : ar S 4 1 = 0) (h_a_1_1 : ar S 1 1 = 0) (h_a_3_1 : ar S 3 1 = 0) (h_a_3_3 : ar S 3 3 = 0) (h_a_2_0 : ar S 2 0 = 3) (h_a_0_0 : ar S 0 0 = 0) (h_i_0 : fi S 0 = 0) : Ct l D cy T0 tB tE yX12_kin cX12_kin 5 (some .boolean) 3 65 0 0 (mw cy a S) [.ref (a 0), .int 0, .int 2, .int 1, .int 0] (QI D (U := GS) (fun r u => 1 = r ∧ S = u) (mw cy a)) := by
  refine Ct.ofZ RX12 "kin" [(0, .ref (a 0)), (1, .int 0), (2, .int 2), (3, .int 1), (4, .int 0)] rfl rfl rfl rfl (Nat.le_of_ble_eq_true rfl) ?_
  intro p e R s m args below meth c A b
  refine z_iload_n b dX12_kin_0 rfl rfl ?_
  refine z_calli b (z_runS (As := [.int 0]) (st := []) b (c_X12_isOne_3 S ) cf_X12_isOne wm_X12_170 ws_X12_isOne dX12_kin_1 rfl (Nat.le_of_ble_eq_true rfl) ⟨by decide, by decide, by decide, by decide⟩) (fun r2258 u2259 h2257 => ?_)
  obtain ⟨rfl, rfl⟩ := h2257
  refine z_if_eq_f (tgt := 28) b dX12_kin_4 (by decide) (by decide) ?_
  refine z_iload_n b dX12_kin_7 rfl rfl ?_
  refine z_calli b (z_runS (As := [.int 2]) (st := []) b (c_X12_isOne_5 S ) cf_X12_isOne wm_X12_170 ws_X12_isOne dX12_kin_8 rfl (Nat.le_of_ble_eq_true rfl) ⟨by decide, by decide, by decide, by decide⟩) (fun r2261 u2262 h2260 => ?_)
  obtain ⟨rfl, rfl⟩ := h2260
  refine z_if_eq_f (tgt := 28) b dX12_kin_11 (by decide) (by decide) ?_
  refine z_iload_n b dX12_kin_14 rfl rfl ?_
  refine z_iload_n b dX12_kin_15 rfl rfl ?_
  refine z_icmp_eq_f (tgt := 28) b dX12_kin_16 (by decide) (by decide) ?_
  refine z_iload_n b dX12_kin_19 rfl rfl ?_
  refine z_iconst (v := 0) b dX12_kin_20 (by decide) ?_
  refine z_iconst (v := 1) b dX12_kin_21 (by decide) ?_
  refine z_calli b (z_runS (As := [.int 1, .int 0, .int 1]) (st := []) b (c_X12_isIn_17 S ) cf_X12_isIn wm_X12_1 ws_X12_isIn dX12_kin_22 rfl (Nat.le_of_ble_eq_true rfl) ⟨by decide, by decide, by decide, by decide⟩) (fun r2264 u2265 h2263 => ?_)
  obtain ⟨rfl, rfl⟩ := h2263
  refine z_if_ne_t (tgt := 30) b dX12_kin_25 (by decide) (by decide) ?_
  refine z_aload_n b dX12_kin_30 rfl rfl ?_
  refine z_aload_n b dX12_kin_31 rfl rfl ?_
  refine z_get (q0 := 0) (k9 := 6) (v := .long (fl S 0)) b (mw_0 cy a S) rfl in_X12 (by decide) wf_X12_153 rfl dX12_kin_32 ?_
  refine z_eql h_l_0 ?_
  refine z_callv b (z_runV (q0 := 0) (As := [.long 1649317774848]) (st := []) b (c_X12_takes S h_a_4_7 h_a_1_7 h_a_4_6 h_a_1_6 h_a_3_6 h_a_3_2 h_a_2_2 h_a_0_2 h_a_4_3 h_a_1_3 h_a_4_5 h_a_1_5 h_a_3_5 h_a_3_7 h_a_2_1 h_a_0_1 h_a_4_2 h_a_1_2 h_a_4_1 h_a_1_1 h_a_3_1 h_a_3_3 h_a_2_0 h_a_0_0 h_i_0) cf_X12_takes (mw_0 cy a S) rfl wm_X12_174 wi_X12_takes ws_X12_takes dX12_kin_35 rfl (Nat.le_of_ble_eq_true rfl) ⟨by decide, by decide, by decide, by decide⟩) (fun u2268 h2266 => ?_)
  obtain rfl := h2266
  refine z_iload_n b dX12_kin_38 rfl rfl ?_
  refine z_iconst (v := 1) b dX12_kin_39 (by decide) ?_
  refine z_icmp_ne_f (tgt := 58) b dX12_kin_40 (by decide) (by decide) ?_
  refine z_aload_n b dX12_kin_43 rfl rfl ?_
  refine z_get (q0 := 0) (k9 := 4) (v := .ref (a 5)) b (mw_0 cy a S) rfl in_X12 (by decide) wf_X12_27 rfl dX12_kin_44 ?_
  refine z_iconst (v := 3) b dX12_kin_47 (by decide) ?_
  refine z_iload_n b dX12_kin_48 rfl rfl ?_
  refine z_imul (v := 0) b dX12_kin_49 (by decide) ?_
  refine z_iload_n b dX12_kin_50 rfl rfl ?_
  refine z_iadd (v := 2) b dX12_kin_51 (by decide) ?_
  refine z_iload b dX12_kin_52 rfl ?_
  refine y_zast (q0 := 5) (j := 2) b (mw_5 cy a S) (by decide) (by decide) dX12_kin_54 ((mwa_5 cy a S 2 0).trans (congrArg (mw cy a) (su_same h_a_4_2))) ?_
  refine z_goto (tgt := 82) b dX12_kin_55 (by decide) ?_
  refine z_aload_n b dX12_kin_82 rfl rfl ?_
  refine z_calli b (z_runV (q0 := 0) (As := []) (st := []) b (c_X12_told_14 S h_i_0 h_a_0_0 h_a_2_0 h_a_3_1 h_a_1_1 h_a_4_1 h_a_1_2 h_a_4_2 h_a_0_1 h_a_2_1 h_a_3_5 h_a_1_5 h_a_4_5 h_a_1_3 h_a_4_3 h_a_0_2 h_a_2_2 h_a_3_6 h_a_1_6 h_a_4_6 h_a_1_7 h_a_4_7 h_l_0) cf_X12_told (mw_0 cy a S) rfl wm_X12_178 wi_X12_told ws_X12_told dX12_kin_83 rfl (Nat.le_of_ble_eq_true rfl) ⟨by decide, by decide, by decide, by decide⟩) (fun r2270 u2271 h2269 => ?_)
  obtain ⟨rfl, rfl⟩ := h2269
  exact z_zret (u := S) b rfl (by decide) dX12_kin_86 ⟨rfl, rfl⟩ rfl (by decide) (by decide)

set_option maxHeartbeats 4000000 in
set_option maxRecDepth 100000 in
theorem c_X9_set_25 {l : Launch} {D : va_G} {cy : Nat → ClassId} {T0 tB tE : Nat} {a : Nat → Nat} {rw : Nat → Option Nat} (S : GS)   : Ct l D cy T0 tB tE yX9_set cX9_set 3 none 0 0 0 0 (cw cy tE a rw S) [.ref (a 14), .int 32, .int 1] (QV D (U := GS) (fun u => su S 4 32 1 = u) (cw cy tE a rw)) := by
  refine Ct.ofZ RX9 "set" [(0, .ref (a 14)), (1, .int 32), (2, .int 1)] rfl rfl rfl rfl (Nat.le_of_ble_eq_true rfl) ?_
  intro p e R s m args below meth c A b
  refine z_iload_n b dX9_set_0 rfl rfl ?_
  refine z_if_lt_f (tgt := 20) b dX9_set_1 (by decide) (by decide) ?_
  refine z_iload_n b dX9_set_4 rfl rfl ?_
  refine z_aload_n b dX9_set_5 rfl rfl ?_
  refine z_get (q0 := 14) (k9 := 0) (v := .ref (a 15)) b (cw_14 cy tE a rw S) rfl in_X9 (by decide) wf_X9_11 rfl dX9_set_6 ?_
  refine z_alen (q0 := 15) (t0 := 0) (v := 51) b (cw_15 cy tE a rw S) rfl rfl dX9_set_9 ?_
  refine z_icmp_ge_f (tgt := 20) b dX9_set_10 (by decide) (by decide) ?_
  refine z_aload_n b dX9_set_13 rfl rfl ?_
  refine z_get (q0 := 14) (k9 := 0) (v := .ref (a 15)) b (cw_14 cy tE a rw S) rfl in_X9 (by decide) wf_X9_11 rfl dX9_set_14 ?_
  refine z_iload_n b dX9_set_17 rfl rfl ?_
  refine z_iload_n b dX9_set_18 rfl rfl ?_
  refine y_iast (q0 := 15) (j := 32) b (cw_15 cy tE a rw S) (by decide) dX9_set_19 (cwa_15 cy tE a rw S 32 1) ?_
  exact z_vret (u := (su S 4 32 1)) b rfl dX9_set_20 rfl rfl (by decide) (by decide)

set_option maxHeartbeats 4000000 in
set_option maxRecDepth 100000 in
theorem c_X11_kin_36 {l : Launch} {D : va_G} {cy : Nat → ClassId} {T0 tB tE : Nat} {a : Nat → Nat} {rw : Nat → Option Nat} (S : GS)  (h_i_24 : fi S 24 = 0) : Ct l D cy T0 tB tE yX11_kin cX11_kin 6 (some .boolean) 2 41 0 0 (cw cy tE a rw S) [.ref (a 0), .int 0, .int 2, .int 1, .int 1] (QI D (U := GS) (fun r u => 1 = r ∧ (su S 4 32 1) = u) (cw cy tE a rw)) := by
  refine Ct.ofZ RX11 "kin" [(0, .ref (a 0)), (1, .int 0), (2, .int 2), (3, .int 1), (4, .int 1)] rfl rfl rfl rfl (Nat.le_of_ble_eq_true rfl) ?_
  intro p e R s m args below meth c A b
  refine z_iload_n b dX11_kin_0 rfl rfl ?_
  refine z_iload_n b dX11_kin_1 rfl rfl ?_
  refine z_calli b (z_runS (As := [.int 0, .int 2]) (st := []) b (c_X11_arePair_13 S ) cf_X11_arePair wm_X11_84 ws_X11_arePair dX11_kin_2 rfl (Nat.le_of_ble_eq_true rfl) ⟨by decide, by decide, by decide, by decide⟩) (fun r2273 u2274 h2272 => ?_)
  obtain ⟨rfl, rfl⟩ := h2272
  refine z_if_eq_f (tgt := 16) b dX11_kin_5 (by decide) (by decide) ?_
  refine z_iload_n b dX11_kin_8 rfl rfl ?_
  refine z_iconst (v := 1) b dX11_kin_9 (by decide) ?_
  refine z_calli b (z_runS (As := [.int 1, .int 1]) (st := []) b (c_X11_isWithin_12 S ) cf_X11_isWithin wm_X11_73 ws_X11_isWithin dX11_kin_10 rfl (Nat.le_of_ble_eq_true rfl) ⟨by decide, by decide, by decide, by decide⟩) (fun r2276 u2277 h2275 => ?_)
  obtain ⟨rfl, rfl⟩ := h2275
  refine z_if_ne_t (tgt := 18) b dX11_kin_13 (by decide) (by decide) ?_
  refine z_iload b dX11_kin_18 rfl ?_
  refine z_if_eq_f (tgt := 27) b dX11_kin_20 (by decide) (by decide) ?_
  refine z_iconst (v := 1) b dX11_kin_23 (by decide) ?_
  refine z_goto (tgt := 28) b dX11_kin_24 (by decide) ?_
  refine z_istore (lv' := [(5, .int 1), (0, .ref (a 0)), (1, .int 0), (2, .int 2), (3, .int 1), (4, .int 1)]) b dX11_kin_28 (by decide) rfl ?_
  refine z_iload_n b dX11_kin_30 rfl rfl ?_
  refine z_if_ne_t (tgt := 71) b dX11_kin_31 (by decide) (by decide) ?_
  refine z_aload_n b dX11_kin_71 rfl rfl ?_
  refine z_get (q0 := 0) (k9 := 4) (v := .ref (a 14)) b (cw_0 cy tE a rw S) rfl in_X11 (by decide) wf_X11_34 rfl dX11_kin_72 ?_
  refine z_bipush (v := 30) b dX11_kin_75 (by decide) ?_
  refine z_iconst (v := 3) b dX11_kin_77 (by decide) ?_
  refine z_iload_n b dX11_kin_78 rfl rfl ?_
  refine z_imul (v := 0) b dX11_kin_79 (by decide) ?_
  refine z_iadd (v := 30) b dX11_kin_80 (by decide) ?_
  refine z_iload_n b dX11_kin_81 rfl rfl ?_
  refine z_iadd (v := 32) b dX11_kin_82 (by decide) ?_
  refine z_iload b dX11_kin_83 rfl ?_
  refine z_callv b (z_runV (q0 := 14) (As := [.int 32, .int 1]) (st := []) b (c_X9_set_25 S ) cf_X9_set (cw_14 cy tE a rw S) rfl wm_X11_77 wi_X9_set ws_X9_set dX11_kin_85 rfl (Nat.le_of_ble_eq_true rfl) ⟨by decide, by decide, by decide, by decide⟩) (fun u2280 h2278 => ?_)
  obtain rfl := h2278
  refine z_aload_n b dX11_kin_88 rfl rfl ?_
  refine z_get (q0 := 0) (k9 := 6) (v := .ref (a 25)) b (cw_0 cy tE a rw (su S 4 32 1)) rfl in_X11 (by decide) wf_X11_52 rfl dX11_kin_89 ?_
  refine z_callv b (z_runV (q0 := 25) (As := []) (st := []) b (c_X8_forget (su S 4 32 1) h_i_24) cf_X8_forget (cw_25 cy tE a rw (su S 4 32 1)) rfl wm_X11_81 wi_X8_forget ws_X8_forget dX11_kin_92 rfl (Nat.le_of_ble_eq_true rfl) ⟨by decide, by decide, by decide, by decide⟩) (fun u2283 h2281 => ?_)
  obtain rfl := h2281
  refine z_iconst (v := 1) b dX11_kin_95 (by decide) ?_
  exact z_zret (u := (su S 4 32 1)) b rfl (by decide) dX11_kin_96 ⟨rfl, rfl⟩ rfl (by decide) (by decide)

set_option maxHeartbeats 4000000 in
set_option maxRecDepth 100000 in
theorem ch_X12_packs_38 {p : Program} {l : Launch} {e : Env} {R : Room} {s : State} {m : MethodId} {args : Array Value} {below : List Frame} {meth : Method} {c : Code} {D : va_G} {cy : Nat → ClassId} {T0 tB tE : Nat} {A : Nat → Prop} {Q : State → Prop} {a : Nat → Nat} (S : GS)  (h_a_0_0 : ar S 0 0 = 0) (h_a_1_1 : ar S 1 1 = 0) (h_a_1_2 : ar S 1 2 = 0) (h_a_2_0 : ar S 2 0 = 3) (h_a_3_1 : ar S 3 1 = 0) (h_a_4_1 : ar S 4 1 = 0) (h_a_4_2 : ar S 4 2 = 1) (h_i_0 : fi S 0 = 0) (b : Bz p R s m args meth c D cy T0 tB tE A 5 cX12_packs RX12 (some .long) "packs" 1 21 0 0) (k : Z p l e R s m args below meth c D A 5 Q 0 0 (mw cy a S) [(3, .int 1), (4, .int 2), (1, .long 1537), (0, .ref (a 0))] 20 [.ref (a 1), .long 24592]) : Z p l e R s m args below meth c D A 5 Q 0 0 (mw cy a S) [(0, .ref (a 0))] 0 [] := by
  refine z_aload_n b dX12_packs_0 rfl rfl ?_
  refine z_get (q0 := 0) (k9 := 5) (v := .int (fi S 0)) b (mw_0 cy a S) rfl in_X12 (by decide) wf_X12_157 rfl dX12_packs_1 ?_
  refine z_eqi h_i_0 ?_
  refine z_i2l (v := 0) b dX12_packs_4 (by decide) ?_
  refine z_lstore_n (lv' := [(1, .long 0), (0, .ref (a 0))]) b dX12_packs_5 rfl (by decide) rfl ?_
  refine z_iconst (v := 0) b dX12_packs_6 (by decide) ?_
  refine z_istore_n (lv' := [(3, .int 0), (1, .long 0), (0, .ref (a 0))]) b dX12_packs_7 rfl (by decide) rfl ?_
  refine z_iload_n b dX12_packs_8 rfl rfl ?_
  refine z_iconst (v := 3) b dX12_packs_9 (by decide) ?_
  refine z_icmp_ge_f (tgt := 134) b dX12_packs_10 (by decide) (by decide) ?_
  refine z_lload_n b dX12_packs_13 rfl rfl ?_
  refine z_iconst (v := 4) b dX12_packs_14 (by decide) ?_
  refine z_lshl (v := 0) b dX12_packs_15 (by decide) ?_
  refine z_aload_n b dX12_packs_16 rfl rfl ?_
  refine z_get (q0 := 0) (k9 := 0) (v := .ref (a 1)) b (mw_0 cy a S) rfl in_X12 (by decide) wf_X12_13 rfl dX12_packs_17 ?_
  refine z_iload_n b dX12_packs_20 rfl rfl ?_
  refine y_iald (q0 := 1) (j := 0) (v := (ar S 0 0)) b (mw_1 cy a S) (by decide) rfl dX12_packs_21 ?_
  refine z_eqi h_a_0_0 ?_
  refine z_i2l (v := 0) b dX12_packs_22 (by decide) ?_
  refine z_lor (v := 0) b dX12_packs_23 (by decide) ?_
  refine z_lstore_n (lv' := [(1, .long 0), (3, .int 0), (0, .ref (a 0))]) b dX12_packs_24 rfl (by decide) rfl ?_
  refine z_lload_n b dX12_packs_25 rfl rfl ?_
  refine z_iconst (v := 2) b dX12_packs_26 (by decide) ?_
  refine z_lshl (v := 0) b dX12_packs_27 (by decide) ?_
  refine z_aload_n b dX12_packs_28 rfl rfl ?_
  refine z_get (q0 := 0) (k9 := 2) (v := .ref (a 3)) b (mw_0 cy a S) rfl in_X12 (by decide) wf_X12_20 rfl dX12_packs_29 ?_
  refine z_iload_n b dX12_packs_32 rfl rfl ?_
  refine y_iald (q0 := 3) (j := 0) (v := (ar S 2 0)) b (mw_3 cy a S) (by decide) rfl dX12_packs_33 ?_
  refine z_eqi h_a_2_0 ?_
  refine z_i2l (v := 3) b dX12_packs_34 (by decide) ?_
  refine z_lor (v := 3) b dX12_packs_35 (by decide) ?_
  refine z_lstore_n (lv' := [(1, .long 3), (3, .int 0), (0, .ref (a 0))]) b dX12_packs_36 rfl (by decide) rfl ?_
  refine z_lload_n b dX12_packs_37 rfl rfl ?_
  refine z_iconst (v := 1) b dX12_packs_38 (by decide) ?_
  refine z_lshl (v := 6) b dX12_packs_39 (by decide) ?_
  refine z_aload_n b dX12_packs_40 rfl rfl ?_
  refine z_get (q0 := 0) (k9 := 3) (v := .ref (a 4)) b (mw_0 cy a S) rfl in_X12 (by decide) wf_X12_23 rfl dX12_packs_41 ?_
  refine z_iconst (v := 3) b dX12_packs_44 (by decide) ?_
  refine z_iload_n b dX12_packs_45 rfl rfl ?_
  refine z_imul (v := 0) b dX12_packs_46 (by decide) ?_
  refine z_iload_n b dX12_packs_47 rfl rfl ?_
  refine z_iconst (v := 0) b dX12_packs_48 (by decide) ?_
  refine z_calli b (z_runS (As := [.int 0, .int 0]) (st := [.int 0, .ref (a 4), .long 6]) b (c_X12_other_6 S ) cf_X12_other wm_X12_160 ws_X12_other dX12_packs_49 rfl (Nat.le_of_ble_eq_true rfl) ⟨by decide, by decide, by decide, by decide⟩) (fun r2297 u2298 h2296 => ?_)
  obtain ⟨rfl, rfl⟩ := h2296
  refine z_iadd (v := 1) b dX12_packs_52 (by decide) ?_
  refine y_zald (q0 := 4) (j := 1) (v := (ar S 3 1)) b (mw_4 cy a S) (by decide) rfl dX12_packs_53 ?_
  refine z_eqi h_a_3_1 ?_
  refine z_if_eq_t (tgt := 61) b dX12_packs_54 (by decide) (by decide) ?_
  refine z_lconst (v := 0) b dX12_packs_61 (by decide) ?_
  refine z_lor (v := 6) b dX12_packs_62 (by decide) ?_
  refine z_lstore_n (lv' := [(1, .long 6), (3, .int 0), (0, .ref (a 0))]) b dX12_packs_63 rfl (by decide) rfl ?_
  refine z_iconst (v := 0) b dX12_packs_64 (by decide) ?_
  refine z_istore (lv' := [(4, .int 0), (1, .long 6), (3, .int 0), (0, .ref (a 0))]) b dX12_packs_65 (by decide) rfl ?_
  refine z_iload b dX12_packs_67 rfl ?_
  refine z_iconst (v := 2) b dX12_packs_69 (by decide) ?_
  refine z_icmp_ge_f (tgt := 128) b dX12_packs_70 (by decide) (by decide) ?_
  refine z_lload_n b dX12_packs_73 rfl rfl ?_
  refine z_iconst (v := 3) b dX12_packs_74 (by decide) ?_
  refine z_lshl (v := 48) b dX12_packs_75 (by decide) ?_
  refine z_aload_n b dX12_packs_76 rfl rfl ?_
  refine z_get (q0 := 0) (k9 := 1) (v := .ref (a 2)) b (mw_0 cy a S) rfl in_X12 (by decide) wf_X12_17 rfl dX12_packs_77 ?_
  refine z_iconst (v := 3) b dX12_packs_80 (by decide) ?_
  refine z_iload_n b dX12_packs_81 rfl rfl ?_
  refine z_imul (v := 0) b dX12_packs_82 (by decide) ?_
  refine z_iload_n b dX12_packs_83 rfl rfl ?_
  refine z_iload b dX12_packs_84 rfl ?_
  refine z_calli b (z_runS (As := [.int 0, .int 0]) (st := [.int 0, .ref (a 2), .long 48]) b (c_X12_other_6 S ) cf_X12_other wm_X12_160 ws_X12_other dX12_packs_86 rfl (Nat.le_of_ble_eq_true rfl) ⟨by decide, by decide, by decide, by decide⟩) (fun r2300 u2301 h2299 => ?_)
  obtain ⟨rfl, rfl⟩ := h2299
  refine z_iadd (v := 1) b dX12_packs_89 (by decide) ?_
  refine y_iald (q0 := 2) (j := 1) (v := (ar S 1 1)) b (mw_2 cy a S) (by decide) rfl dX12_packs_90 ?_
  refine z_eqi h_a_1_1 ?_
  refine z_i2l (v := 0) b dX12_packs_91 (by decide) ?_
  refine z_lor (v := 48) b dX12_packs_92 (by decide) ?_
  refine z_lstore_n (lv' := [(1, .long 48), (4, .int 0), (3, .int 0), (0, .ref (a 0))]) b dX12_packs_93 rfl (by decide) rfl ?_
  refine z_lload_n b dX12_packs_94 rfl rfl ?_
  refine z_iconst (v := 1) b dX12_packs_95 (by decide) ?_
  refine z_lshl (v := 96) b dX12_packs_96 (by decide) ?_
  refine z_aload_n b dX12_packs_97 rfl rfl ?_
  refine z_get (q0 := 0) (k9 := 4) (v := .ref (a 5)) b (mw_0 cy a S) rfl in_X12 (by decide) wf_X12_27 rfl dX12_packs_98 ?_
  refine z_iconst (v := 3) b dX12_packs_101 (by decide) ?_
  refine z_iload_n b dX12_packs_102 rfl rfl ?_
  refine z_imul (v := 0) b dX12_packs_103 (by decide) ?_
  refine z_iload_n b dX12_packs_104 rfl rfl ?_
  refine z_iload b dX12_packs_105 rfl ?_
  refine z_calli b (z_runS (As := [.int 0, .int 0]) (st := [.int 0, .ref (a 5), .long 96]) b (c_X12_other_6 S ) cf_X12_other wm_X12_160 ws_X12_other dX12_packs_107 rfl (Nat.le_of_ble_eq_true rfl) ⟨by decide, by decide, by decide, by decide⟩) (fun r2303 u2304 h2302 => ?_)
  obtain ⟨rfl, rfl⟩ := h2302
  refine z_iadd (v := 1) b dX12_packs_110 (by decide) ?_
  refine y_zald (q0 := 5) (j := 1) (v := (ar S 4 1)) b (mw_5 cy a S) (by decide) rfl dX12_packs_111 ?_
  refine z_eqi h_a_4_1 ?_
  refine z_if_eq_t (tgt := 119) b dX12_packs_112 (by decide) (by decide) ?_
  refine z_lconst (v := 0) b dX12_packs_119 (by decide) ?_
  refine z_lor (v := 96) b dX12_packs_120 (by decide) ?_
  refine z_lstore_n (lv' := [(1, .long 96), (4, .int 0), (3, .int 0), (0, .ref (a 0))]) b dX12_packs_121 rfl (by decide) rfl ?_
  refine z_iinc (k9 := 1) (v := 1) (lv' := [(4, .int 1), (1, .long 96), (3, .int 0), (0, .ref (a 0))]) b dX12_packs_122 rfl (by decide) (by decide) rfl ?_
  refine z_goto (tgt := 67) b dX12_packs_125 (by decide) ?_
  refine z_iload b dX12_packs_67 rfl ?_
  refine z_iconst (v := 2) b dX12_packs_69 (by decide) ?_
  refine z_icmp_ge_f (tgt := 128) b dX12_packs_70 (by decide) (by decide) ?_
  refine z_lload_n b dX12_packs_73 rfl rfl ?_
  refine z_iconst (v := 3) b dX12_packs_74 (by decide) ?_
  refine z_lshl (v := 768) b dX12_packs_75 (by decide) ?_
  refine z_aload_n b dX12_packs_76 rfl rfl ?_
  refine z_get (q0 := 0) (k9 := 1) (v := .ref (a 2)) b (mw_0 cy a S) rfl in_X12 (by decide) wf_X12_17 rfl dX12_packs_77 ?_
  refine z_iconst (v := 3) b dX12_packs_80 (by decide) ?_
  refine z_iload_n b dX12_packs_81 rfl rfl ?_
  refine z_imul (v := 0) b dX12_packs_82 (by decide) ?_
  refine z_iload_n b dX12_packs_83 rfl rfl ?_
  refine z_iload b dX12_packs_84 rfl ?_
  refine z_calli b (z_runS (As := [.int 0, .int 1]) (st := [.int 0, .ref (a 2), .long 768]) b (c_X12_other_5 S ) cf_X12_other wm_X12_160 ws_X12_other dX12_packs_86 rfl (Nat.le_of_ble_eq_true rfl) ⟨by decide, by decide, by decide, by decide⟩) (fun r2306 u2307 h2305 => ?_)
  obtain ⟨rfl, rfl⟩ := h2305
  refine z_iadd (v := 2) b dX12_packs_89 (by decide) ?_
  refine y_iald (q0 := 2) (j := 2) (v := (ar S 1 2)) b (mw_2 cy a S) (by decide) rfl dX12_packs_90 ?_
  refine z_eqi h_a_1_2 ?_
  refine z_i2l (v := 0) b dX12_packs_91 (by decide) ?_
  refine z_lor (v := 768) b dX12_packs_92 (by decide) ?_
  refine z_lstore_n (lv' := [(1, .long 768), (4, .int 1), (3, .int 0), (0, .ref (a 0))]) b dX12_packs_93 rfl (by decide) rfl ?_
  refine z_lload_n b dX12_packs_94 rfl rfl ?_
  refine z_iconst (v := 1) b dX12_packs_95 (by decide) ?_
  refine z_lshl (v := 1536) b dX12_packs_96 (by decide) ?_
  refine z_aload_n b dX12_packs_97 rfl rfl ?_
  refine z_get (q0 := 0) (k9 := 4) (v := .ref (a 5)) b (mw_0 cy a S) rfl in_X12 (by decide) wf_X12_27 rfl dX12_packs_98 ?_
  refine z_iconst (v := 3) b dX12_packs_101 (by decide) ?_
  refine z_iload_n b dX12_packs_102 rfl rfl ?_
  refine z_imul (v := 0) b dX12_packs_103 (by decide) ?_
  refine z_iload_n b dX12_packs_104 rfl rfl ?_
  refine z_iload b dX12_packs_105 rfl ?_
  refine z_calli b (z_runS (As := [.int 0, .int 1]) (st := [.int 0, .ref (a 5), .long 1536]) b (c_X12_other_5 S ) cf_X12_other wm_X12_160 ws_X12_other dX12_packs_107 rfl (Nat.le_of_ble_eq_true rfl) ⟨by decide, by decide, by decide, by decide⟩) (fun r2309 u2310 h2308 => ?_)
  obtain ⟨rfl, rfl⟩ := h2308
  refine z_iadd (v := 2) b dX12_packs_110 (by decide) ?_
  refine y_zald (q0 := 5) (j := 2) (v := (ar S 4 2)) b (mw_5 cy a S) (by decide) rfl dX12_packs_111 ?_
  refine z_eqi h_a_4_2 ?_
  refine z_if_eq_f (tgt := 119) b dX12_packs_112 (by decide) (by decide) ?_
  refine z_lconst (v := 1) b dX12_packs_115 (by decide) ?_
  refine z_goto (tgt := 120) b dX12_packs_116 (by decide) ?_
  refine z_lor (v := 1537) b dX12_packs_120 (by decide) ?_
  refine z_lstore_n (lv' := [(1, .long 1537), (4, .int 1), (3, .int 0), (0, .ref (a 0))]) b dX12_packs_121 rfl (by decide) rfl ?_
  refine z_iinc (k9 := 1) (v := 2) (lv' := [(4, .int 2), (1, .long 1537), (3, .int 0), (0, .ref (a 0))]) b dX12_packs_122 rfl (by decide) (by decide) rfl ?_
  refine z_goto (tgt := 67) b dX12_packs_125 (by decide) ?_
  refine z_iload b dX12_packs_67 rfl ?_
  refine z_iconst (v := 2) b dX12_packs_69 (by decide) ?_
  refine z_icmp_ge_t (tgt := 128) b dX12_packs_70 (by decide) (by decide) ?_
  refine z_iinc (k9 := 2) (v := 1) (lv' := [(3, .int 1), (4, .int 2), (1, .long 1537), (0, .ref (a 0))]) b dX12_packs_128 rfl (by decide) (by decide) rfl ?_
  refine z_goto (tgt := 8) b dX12_packs_131 (by decide) ?_
  refine z_iload_n b dX12_packs_8 rfl rfl ?_
  refine z_iconst (v := 3) b dX12_packs_9 (by decide) ?_
  refine z_icmp_ge_f (tgt := 134) b dX12_packs_10 (by decide) (by decide) ?_
  refine z_lload_n b dX12_packs_13 rfl rfl ?_
  refine z_iconst (v := 4) b dX12_packs_14 (by decide) ?_
  refine z_lshl (v := 24592) b dX12_packs_15 (by decide) ?_
  refine z_aload_n b dX12_packs_16 rfl rfl ?_
  refine z_get (q0 := 0) (k9 := 0) (v := .ref (a 1)) b (mw_0 cy a S) rfl in_X12 (by decide) wf_X12_13 rfl dX12_packs_17 ?_
  exact k

set_option maxHeartbeats 4000000 in
set_option maxRecDepth 100000 in
theorem ch_X12_packs_39 {p : Program} {l : Launch} {e : Env} {R : Room} {s : State} {m : MethodId} {args : Array Value} {below : List Frame} {meth : Method} {c : Code} {D : va_G} {cy : Nat → ClassId} {T0 tB tE : Nat} {A : Nat → Prop} {Q : State → Prop} {a : Nat → Nat} (S : GS)  (h_a_0_1 : ar S 0 1 = 0) (h_a_0_2 : ar S 0 2 = 0) (h_a_1_3 : ar S 1 3 = 0) (h_a_1_5 : ar S 1 5 = 0) (h_a_2_1 : ar S 2 1 = 3) (h_a_2_2 : ar S 2 2 = 3) (h_a_3_5 : ar S 3 5 = 0) (h_a_4_3 : ar S 4 3 = 0) (h_a_4_5 : ar S 4 5 = 0) (b : Bz p R s m args meth c D cy T0 tB tE A 5 cX12_packs RX12 (some .long) "packs" 1 21 0 0) (k : Z p l e R s m args below meth c D A 5 Q 0 0 (mw cy a S) [(1, .long 805855232), (3, .int 2), (4, .int 2), (0, .ref (a 0))] 36 [.long 3223420931]) : Z p l e R s m args below meth c D A 5 Q 0 0 (mw cy a S) [(3, .int 1), (4, .int 2), (1, .long 1537), (0, .ref (a 0))] 20 [.ref (a 1), .long 24592] := by
  refine z_iload_n b dX12_packs_20 rfl rfl ?_
  refine y_iald (q0 := 1) (j := 1) (v := (ar S 0 1)) b (mw_1 cy a S) (by decide) rfl dX12_packs_21 ?_
  refine z_eqi h_a_0_1 ?_
  refine z_i2l (v := 0) b dX12_packs_22 (by decide) ?_
  refine z_lor (v := 24592) b dX12_packs_23 (by decide) ?_
  refine z_lstore_n (lv' := [(1, .long 24592), (3, .int 1), (4, .int 2), (0, .ref (a 0))]) b dX12_packs_24 rfl (by decide) rfl ?_
  refine z_lload_n b dX12_packs_25 rfl rfl ?_
  refine z_iconst (v := 2) b dX12_packs_26 (by decide) ?_
  refine z_lshl (v := 98368) b dX12_packs_27 (by decide) ?_
  refine z_aload_n b dX12_packs_28 rfl rfl ?_
  refine z_get (q0 := 0) (k9 := 2) (v := .ref (a 3)) b (mw_0 cy a S) rfl in_X12 (by decide) wf_X12_20 rfl dX12_packs_29 ?_
  refine z_iload_n b dX12_packs_32 rfl rfl ?_
  refine y_iald (q0 := 3) (j := 1) (v := (ar S 2 1)) b (mw_3 cy a S) (by decide) rfl dX12_packs_33 ?_
  refine z_eqi h_a_2_1 ?_
  refine z_i2l (v := 3) b dX12_packs_34 (by decide) ?_
  refine z_lor (v := 98371) b dX12_packs_35 (by decide) ?_
  refine z_lstore_n (lv' := [(1, .long 98371), (3, .int 1), (4, .int 2), (0, .ref (a 0))]) b dX12_packs_36 rfl (by decide) rfl ?_
  refine z_lload_n b dX12_packs_37 rfl rfl ?_
  refine z_iconst (v := 1) b dX12_packs_38 (by decide) ?_
  refine z_lshl (v := 196742) b dX12_packs_39 (by decide) ?_
  refine z_aload_n b dX12_packs_40 rfl rfl ?_
  refine z_get (q0 := 0) (k9 := 3) (v := .ref (a 4)) b (mw_0 cy a S) rfl in_X12 (by decide) wf_X12_23 rfl dX12_packs_41 ?_
  refine z_iconst (v := 3) b dX12_packs_44 (by decide) ?_
  refine z_iload_n b dX12_packs_45 rfl rfl ?_
  refine z_imul (v := 3) b dX12_packs_46 (by decide) ?_
  refine z_iload_n b dX12_packs_47 rfl rfl ?_
  refine z_iconst (v := 0) b dX12_packs_48 (by decide) ?_
  refine z_calli b (z_runS (As := [.int 1, .int 0]) (st := [.int 3, .ref (a 4), .long 196742]) b (c_X12_other_4 S ) cf_X12_other wm_X12_160 ws_X12_other dX12_packs_49 rfl (Nat.le_of_ble_eq_true rfl) ⟨by decide, by decide, by decide, by decide⟩) (fun r2312 u2313 h2311 => ?_)
  obtain ⟨rfl, rfl⟩ := h2311
  refine z_iadd (v := 5) b dX12_packs_52 (by decide) ?_
  refine y_zald (q0 := 4) (j := 5) (v := (ar S 3 5)) b (mw_4 cy a S) (by decide) rfl dX12_packs_53 ?_
  refine z_eqi h_a_3_5 ?_
  refine z_if_eq_t (tgt := 61) b dX12_packs_54 (by decide) (by decide) ?_
  refine z_lconst (v := 0) b dX12_packs_61 (by decide) ?_
  refine z_lor (v := 196742) b dX12_packs_62 (by decide) ?_
  refine z_lstore_n (lv' := [(1, .long 196742), (3, .int 1), (4, .int 2), (0, .ref (a 0))]) b dX12_packs_63 rfl (by decide) rfl ?_
  refine z_iconst (v := 0) b dX12_packs_64 (by decide) ?_
  refine z_istore (lv' := [(4, .int 0), (1, .long 196742), (3, .int 1), (0, .ref (a 0))]) b dX12_packs_65 (by decide) rfl ?_
  refine z_iload b dX12_packs_67 rfl ?_
  refine z_iconst (v := 2) b dX12_packs_69 (by decide) ?_
  refine z_icmp_ge_f (tgt := 128) b dX12_packs_70 (by decide) (by decide) ?_
  refine z_lload_n b dX12_packs_73 rfl rfl ?_
  refine z_iconst (v := 3) b dX12_packs_74 (by decide) ?_
  refine z_lshl (v := 1573936) b dX12_packs_75 (by decide) ?_
  refine z_aload_n b dX12_packs_76 rfl rfl ?_
  refine z_get (q0 := 0) (k9 := 1) (v := .ref (a 2)) b (mw_0 cy a S) rfl in_X12 (by decide) wf_X12_17 rfl dX12_packs_77 ?_
  refine z_iconst (v := 3) b dX12_packs_80 (by decide) ?_
  refine z_iload_n b dX12_packs_81 rfl rfl ?_
  refine z_imul (v := 3) b dX12_packs_82 (by decide) ?_
  refine z_iload_n b dX12_packs_83 rfl rfl ?_
  refine z_iload b dX12_packs_84 rfl ?_
  refine z_calli b (z_runS (As := [.int 1, .int 0]) (st := [.int 3, .ref (a 2), .long 1573936]) b (c_X12_other_4 S ) cf_X12_other wm_X12_160 ws_X12_other dX12_packs_86 rfl (Nat.le_of_ble_eq_true rfl) ⟨by decide, by decide, by decide, by decide⟩) (fun r2315 u2316 h2314 => ?_)
  obtain ⟨rfl, rfl⟩ := h2314
  refine z_iadd (v := 5) b dX12_packs_89 (by decide) ?_
  refine y_iald (q0 := 2) (j := 5) (v := (ar S 1 5)) b (mw_2 cy a S) (by decide) rfl dX12_packs_90 ?_
  refine z_eqi h_a_1_5 ?_
  refine z_i2l (v := 0) b dX12_packs_91 (by decide) ?_
  refine z_lor (v := 1573936) b dX12_packs_92 (by decide) ?_
  refine z_lstore_n (lv' := [(1, .long 1573936), (4, .int 0), (3, .int 1), (0, .ref (a 0))]) b dX12_packs_93 rfl (by decide) rfl ?_
  refine z_lload_n b dX12_packs_94 rfl rfl ?_
  refine z_iconst (v := 1) b dX12_packs_95 (by decide) ?_
  refine z_lshl (v := 3147872) b dX12_packs_96 (by decide) ?_
  refine z_aload_n b dX12_packs_97 rfl rfl ?_
  refine z_get (q0 := 0) (k9 := 4) (v := .ref (a 5)) b (mw_0 cy a S) rfl in_X12 (by decide) wf_X12_27 rfl dX12_packs_98 ?_
  refine z_iconst (v := 3) b dX12_packs_101 (by decide) ?_
  refine z_iload_n b dX12_packs_102 rfl rfl ?_
  refine z_imul (v := 3) b dX12_packs_103 (by decide) ?_
  refine z_iload_n b dX12_packs_104 rfl rfl ?_
  refine z_iload b dX12_packs_105 rfl ?_
  refine z_calli b (z_runS (As := [.int 1, .int 0]) (st := [.int 3, .ref (a 5), .long 3147872]) b (c_X12_other_4 S ) cf_X12_other wm_X12_160 ws_X12_other dX12_packs_107 rfl (Nat.le_of_ble_eq_true rfl) ⟨by decide, by decide, by decide, by decide⟩) (fun r2318 u2319 h2317 => ?_)
  obtain ⟨rfl, rfl⟩ := h2317
  refine z_iadd (v := 5) b dX12_packs_110 (by decide) ?_
  refine y_zald (q0 := 5) (j := 5) (v := (ar S 4 5)) b (mw_5 cy a S) (by decide) rfl dX12_packs_111 ?_
  refine z_eqi h_a_4_5 ?_
  refine z_if_eq_t (tgt := 119) b dX12_packs_112 (by decide) (by decide) ?_
  refine z_lconst (v := 0) b dX12_packs_119 (by decide) ?_
  refine z_lor (v := 3147872) b dX12_packs_120 (by decide) ?_
  refine z_lstore_n (lv' := [(1, .long 3147872), (4, .int 0), (3, .int 1), (0, .ref (a 0))]) b dX12_packs_121 rfl (by decide) rfl ?_
  refine z_iinc (k9 := 1) (v := 1) (lv' := [(4, .int 1), (1, .long 3147872), (3, .int 1), (0, .ref (a 0))]) b dX12_packs_122 rfl (by decide) (by decide) rfl ?_
  refine z_goto (tgt := 67) b dX12_packs_125 (by decide) ?_
  refine z_iload b dX12_packs_67 rfl ?_
  refine z_iconst (v := 2) b dX12_packs_69 (by decide) ?_
  refine z_icmp_ge_f (tgt := 128) b dX12_packs_70 (by decide) (by decide) ?_
  refine z_lload_n b dX12_packs_73 rfl rfl ?_
  refine z_iconst (v := 3) b dX12_packs_74 (by decide) ?_
  refine z_lshl (v := 25182976) b dX12_packs_75 (by decide) ?_
  refine z_aload_n b dX12_packs_76 rfl rfl ?_
  refine z_get (q0 := 0) (k9 := 1) (v := .ref (a 2)) b (mw_0 cy a S) rfl in_X12 (by decide) wf_X12_17 rfl dX12_packs_77 ?_
  refine z_iconst (v := 3) b dX12_packs_80 (by decide) ?_
  refine z_iload_n b dX12_packs_81 rfl rfl ?_
  refine z_imul (v := 3) b dX12_packs_82 (by decide) ?_
  refine z_iload_n b dX12_packs_83 rfl rfl ?_
  refine z_iload b dX12_packs_84 rfl ?_
  refine z_calli b (z_runS (As := [.int 1, .int 1]) (st := [.int 3, .ref (a 2), .long 25182976]) b (c_X12_other_3 S ) cf_X12_other wm_X12_160 ws_X12_other dX12_packs_86 rfl (Nat.le_of_ble_eq_true rfl) ⟨by decide, by decide, by decide, by decide⟩) (fun r2321 u2322 h2320 => ?_)
  obtain ⟨rfl, rfl⟩ := h2320
  refine z_iadd (v := 3) b dX12_packs_89 (by decide) ?_
  refine y_iald (q0 := 2) (j := 3) (v := (ar S 1 3)) b (mw_2 cy a S) (by decide) rfl dX12_packs_90 ?_
  refine z_eqi h_a_1_3 ?_
  refine z_i2l (v := 0) b dX12_packs_91 (by decide) ?_
  refine z_lor (v := 25182976) b dX12_packs_92 (by decide) ?_
  refine z_lstore_n (lv' := [(1, .long 25182976), (4, .int 1), (3, .int 1), (0, .ref (a 0))]) b dX12_packs_93 rfl (by decide) rfl ?_
  refine z_lload_n b dX12_packs_94 rfl rfl ?_
  refine z_iconst (v := 1) b dX12_packs_95 (by decide) ?_
  refine z_lshl (v := 50365952) b dX12_packs_96 (by decide) ?_
  refine z_aload_n b dX12_packs_97 rfl rfl ?_
  refine z_get (q0 := 0) (k9 := 4) (v := .ref (a 5)) b (mw_0 cy a S) rfl in_X12 (by decide) wf_X12_27 rfl dX12_packs_98 ?_
  refine z_iconst (v := 3) b dX12_packs_101 (by decide) ?_
  refine z_iload_n b dX12_packs_102 rfl rfl ?_
  refine z_imul (v := 3) b dX12_packs_103 (by decide) ?_
  refine z_iload_n b dX12_packs_104 rfl rfl ?_
  refine z_iload b dX12_packs_105 rfl ?_
  refine z_calli b (z_runS (As := [.int 1, .int 1]) (st := [.int 3, .ref (a 5), .long 50365952]) b (c_X12_other_3 S ) cf_X12_other wm_X12_160 ws_X12_other dX12_packs_107 rfl (Nat.le_of_ble_eq_true rfl) ⟨by decide, by decide, by decide, by decide⟩) (fun r2324 u2325 h2323 => ?_)
  obtain ⟨rfl, rfl⟩ := h2323
  refine z_iadd (v := 3) b dX12_packs_110 (by decide) ?_
  refine y_zald (q0 := 5) (j := 3) (v := (ar S 4 3)) b (mw_5 cy a S) (by decide) rfl dX12_packs_111 ?_
  refine z_eqi h_a_4_3 ?_
  refine z_if_eq_t (tgt := 119) b dX12_packs_112 (by decide) (by decide) ?_
  refine z_lconst (v := 0) b dX12_packs_119 (by decide) ?_
  refine z_lor (v := 50365952) b dX12_packs_120 (by decide) ?_
  refine z_lstore_n (lv' := [(1, .long 50365952), (4, .int 1), (3, .int 1), (0, .ref (a 0))]) b dX12_packs_121 rfl (by decide) rfl ?_
  refine z_iinc (k9 := 1) (v := 2) (lv' := [(4, .int 2), (1, .long 50365952), (3, .int 1), (0, .ref (a 0))]) b dX12_packs_122 rfl (by decide) (by decide) rfl ?_
  refine z_goto (tgt := 67) b dX12_packs_125 (by decide) ?_
  refine z_iload b dX12_packs_67 rfl ?_
  refine z_iconst (v := 2) b dX12_packs_69 (by decide) ?_
  refine z_icmp_ge_t (tgt := 128) b dX12_packs_70 (by decide) (by decide) ?_
  refine z_iinc (k9 := 2) (v := 2) (lv' := [(3, .int 2), (4, .int 2), (1, .long 50365952), (0, .ref (a 0))]) b dX12_packs_128 rfl (by decide) (by decide) rfl ?_
  refine z_goto (tgt := 8) b dX12_packs_131 (by decide) ?_
  refine z_iload_n b dX12_packs_8 rfl rfl ?_
  refine z_iconst (v := 3) b dX12_packs_9 (by decide) ?_
  refine z_icmp_ge_f (tgt := 134) b dX12_packs_10 (by decide) (by decide) ?_
  refine z_lload_n b dX12_packs_13 rfl rfl ?_
  refine z_iconst (v := 4) b dX12_packs_14 (by decide) ?_
  refine z_lshl (v := 805855232) b dX12_packs_15 (by decide) ?_
  refine z_aload_n b dX12_packs_16 rfl rfl ?_
  refine z_get (q0 := 0) (k9 := 0) (v := .ref (a 1)) b (mw_0 cy a S) rfl in_X12 (by decide) wf_X12_13 rfl dX12_packs_17 ?_
  refine z_iload_n b dX12_packs_20 rfl rfl ?_
  refine y_iald (q0 := 1) (j := 2) (v := (ar S 0 2)) b (mw_1 cy a S) (by decide) rfl dX12_packs_21 ?_
  refine z_eqi h_a_0_2 ?_
  refine z_i2l (v := 0) b dX12_packs_22 (by decide) ?_
  refine z_lor (v := 805855232) b dX12_packs_23 (by decide) ?_
  refine z_lstore_n (lv' := [(1, .long 805855232), (3, .int 2), (4, .int 2), (0, .ref (a 0))]) b dX12_packs_24 rfl (by decide) rfl ?_
  refine z_lload_n b dX12_packs_25 rfl rfl ?_
  refine z_iconst (v := 2) b dX12_packs_26 (by decide) ?_
  refine z_lshl (v := 3223420928) b dX12_packs_27 (by decide) ?_
  refine z_aload_n b dX12_packs_28 rfl rfl ?_
  refine z_get (q0 := 0) (k9 := 2) (v := .ref (a 3)) b (mw_0 cy a S) rfl in_X12 (by decide) wf_X12_20 rfl dX12_packs_29 ?_
  refine z_iload_n b dX12_packs_32 rfl rfl ?_
  refine y_iald (q0 := 3) (j := 2) (v := (ar S 2 2)) b (mw_3 cy a S) (by decide) rfl dX12_packs_33 ?_
  refine z_eqi h_a_2_2 ?_
  refine z_i2l (v := 3) b dX12_packs_34 (by decide) ?_
  refine z_lor (v := 3223420931) b dX12_packs_35 (by decide) ?_
  exact k

set_option maxHeartbeats 4000000 in
set_option maxRecDepth 100000 in
theorem c_X12_packs_18 {l : Launch} {D : va_G} {cy : Nat → ClassId} {T0 tB tE : Nat} {a : Nat → Nat} (S : GS)  (h_i_0 : fi S 0 = 0) (h_a_0_0 : ar S 0 0 = 0) (h_a_2_0 : ar S 2 0 = 3) (h_a_3_1 : ar S 3 1 = 0) (h_a_1_1 : ar S 1 1 = 0) (h_a_4_1 : ar S 4 1 = 0) (h_a_1_2 : ar S 1 2 = 0) (h_a_4_2 : ar S 4 2 = 1) (h_a_0_1 : ar S 0 1 = 0) (h_a_2_1 : ar S 2 1 = 3) (h_a_3_5 : ar S 3 5 = 0) (h_a_1_5 : ar S 1 5 = 0) (h_a_4_5 : ar S 4 5 = 0) (h_a_1_3 : ar S 1 3 = 0) (h_a_4_3 : ar S 4 3 = 0) (h_a_0_2 : ar S 0 2 = 0) (h_a_2_2 : ar S 2 2 = 3) (h_a_3_6 : ar S 3 6 = 0) (h_a_1_6 : ar S 1 6 = 0) (h_a_4_6 : ar S 4 6 = 0) (h_a_1_7 : ar S 1 7 = 0) (h_a_4_7 : ar S 4 7 = 0) : Ct l D cy T0 tB tE yX12_packs cX12_packs 5 (some .long) 1 21 0 0 (mw cy a S) [.ref (a 0)] (QL D (U := GS) (fun r u => 1650391516672 = r ∧ S = u) (mw cy a)) := by
  refine Ct.ofZ RX12 "packs" [(0, .ref (a 0))] rfl rfl rfl rfl (Nat.le_of_ble_eq_true rfl) ?_
  intro p e R s m args below meth c A b
  refine ch_X12_packs_38 S  h_a_0_0 h_a_1_1 h_a_1_2 h_a_2_0 h_a_3_1 h_a_4_1 h_a_4_2 h_i_0  b ?_
  refine ch_X12_packs_39 S  h_a_0_1 h_a_0_2 h_a_1_3 h_a_1_5 h_a_2_1 h_a_2_2 h_a_3_5 h_a_4_3 h_a_4_5  b ?_
  refine z_lstore_n (lv' := [(1, .long 3223420931), (3, .int 2), (4, .int 2), (0, .ref (a 0))]) b dX12_packs_36 rfl (by decide) rfl ?_
  refine z_lload_n b dX12_packs_37 rfl rfl ?_
  refine z_iconst (v := 1) b dX12_packs_38 (by decide) ?_
  refine z_lshl (v := 6446841862) b dX12_packs_39 (by decide) ?_
  refine z_aload_n b dX12_packs_40 rfl rfl ?_
  refine z_get (q0 := 0) (k9 := 3) (v := .ref (a 4)) b (mw_0 cy a S) rfl in_X12 (by decide) wf_X12_23 rfl dX12_packs_41 ?_
  refine z_iconst (v := 3) b dX12_packs_44 (by decide) ?_
  refine z_iload_n b dX12_packs_45 rfl rfl ?_
  refine z_imul (v := 6) b dX12_packs_46 (by decide) ?_
  refine z_iload_n b dX12_packs_47 rfl rfl ?_
  refine z_iconst (v := 0) b dX12_packs_48 (by decide) ?_
  refine z_calli b (z_runS (As := [.int 2, .int 0]) (st := [.int 6, .ref (a 4), .long 6446841862]) b (c_X12_other_2 S ) cf_X12_other wm_X12_160 ws_X12_other dX12_packs_49 rfl (Nat.le_of_ble_eq_true rfl) ⟨by decide, by decide, by decide, by decide⟩) (fun r2327 u2328 h2326 => ?_)
  obtain ⟨rfl, rfl⟩ := h2326
  refine z_iadd (v := 6) b dX12_packs_52 (by decide) ?_
  refine y_zald (q0 := 4) (j := 6) (v := (ar S 3 6)) b (mw_4 cy a S) (by decide) rfl dX12_packs_53 ?_
  refine z_eqi h_a_3_6 ?_
  refine z_if_eq_t (tgt := 61) b dX12_packs_54 (by decide) (by decide) ?_
  refine z_lconst (v := 0) b dX12_packs_61 (by decide) ?_
  refine z_lor (v := 6446841862) b dX12_packs_62 (by decide) ?_
  refine z_lstore_n (lv' := [(1, .long 6446841862), (3, .int 2), (4, .int 2), (0, .ref (a 0))]) b dX12_packs_63 rfl (by decide) rfl ?_
  refine z_iconst (v := 0) b dX12_packs_64 (by decide) ?_
  refine z_istore (lv' := [(4, .int 0), (1, .long 6446841862), (3, .int 2), (0, .ref (a 0))]) b dX12_packs_65 (by decide) rfl ?_
  refine z_iload b dX12_packs_67 rfl ?_
  refine z_iconst (v := 2) b dX12_packs_69 (by decide) ?_
  refine z_icmp_ge_f (tgt := 128) b dX12_packs_70 (by decide) (by decide) ?_
  refine z_lload_n b dX12_packs_73 rfl rfl ?_
  refine z_iconst (v := 3) b dX12_packs_74 (by decide) ?_
  refine z_lshl (v := 51574734896) b dX12_packs_75 (by decide) ?_
  refine z_aload_n b dX12_packs_76 rfl rfl ?_
  refine z_get (q0 := 0) (k9 := 1) (v := .ref (a 2)) b (mw_0 cy a S) rfl in_X12 (by decide) wf_X12_17 rfl dX12_packs_77 ?_
  refine z_iconst (v := 3) b dX12_packs_80 (by decide) ?_
  refine z_iload_n b dX12_packs_81 rfl rfl ?_
  refine z_imul (v := 6) b dX12_packs_82 (by decide) ?_
  refine z_iload_n b dX12_packs_83 rfl rfl ?_
  refine z_iload b dX12_packs_84 rfl ?_
  refine z_calli b (z_runS (As := [.int 2, .int 0]) (st := [.int 6, .ref (a 2), .long 51574734896]) b (c_X12_other_2 S ) cf_X12_other wm_X12_160 ws_X12_other dX12_packs_86 rfl (Nat.le_of_ble_eq_true rfl) ⟨by decide, by decide, by decide, by decide⟩) (fun r2330 u2331 h2329 => ?_)
  obtain ⟨rfl, rfl⟩ := h2329
  refine z_iadd (v := 6) b dX12_packs_89 (by decide) ?_
  refine y_iald (q0 := 2) (j := 6) (v := (ar S 1 6)) b (mw_2 cy a S) (by decide) rfl dX12_packs_90 ?_
  refine z_eqi h_a_1_6 ?_
  refine z_i2l (v := 0) b dX12_packs_91 (by decide) ?_
  refine z_lor (v := 51574734896) b dX12_packs_92 (by decide) ?_
  refine z_lstore_n (lv' := [(1, .long 51574734896), (4, .int 0), (3, .int 2), (0, .ref (a 0))]) b dX12_packs_93 rfl (by decide) rfl ?_
  refine z_lload_n b dX12_packs_94 rfl rfl ?_
  refine z_iconst (v := 1) b dX12_packs_95 (by decide) ?_
  refine z_lshl (v := 103149469792) b dX12_packs_96 (by decide) ?_
  refine z_aload_n b dX12_packs_97 rfl rfl ?_
  refine z_get (q0 := 0) (k9 := 4) (v := .ref (a 5)) b (mw_0 cy a S) rfl in_X12 (by decide) wf_X12_27 rfl dX12_packs_98 ?_
  refine z_iconst (v := 3) b dX12_packs_101 (by decide) ?_
  refine z_iload_n b dX12_packs_102 rfl rfl ?_
  refine z_imul (v := 6) b dX12_packs_103 (by decide) ?_
  refine z_iload_n b dX12_packs_104 rfl rfl ?_
  refine z_iload b dX12_packs_105 rfl ?_
  refine z_calli b (z_runS (As := [.int 2, .int 0]) (st := [.int 6, .ref (a 5), .long 103149469792]) b (c_X12_other_2 S ) cf_X12_other wm_X12_160 ws_X12_other dX12_packs_107 rfl (Nat.le_of_ble_eq_true rfl) ⟨by decide, by decide, by decide, by decide⟩) (fun r2333 u2334 h2332 => ?_)
  obtain ⟨rfl, rfl⟩ := h2332
  refine z_iadd (v := 6) b dX12_packs_110 (by decide) ?_
  refine y_zald (q0 := 5) (j := 6) (v := (ar S 4 6)) b (mw_5 cy a S) (by decide) rfl dX12_packs_111 ?_
  refine z_eqi h_a_4_6 ?_
  refine z_if_eq_t (tgt := 119) b dX12_packs_112 (by decide) (by decide) ?_
  refine z_lconst (v := 0) b dX12_packs_119 (by decide) ?_
  refine z_lor (v := 103149469792) b dX12_packs_120 (by decide) ?_
  refine z_lstore_n (lv' := [(1, .long 103149469792), (4, .int 0), (3, .int 2), (0, .ref (a 0))]) b dX12_packs_121 rfl (by decide) rfl ?_
  refine z_iinc (k9 := 1) (v := 1) (lv' := [(4, .int 1), (1, .long 103149469792), (3, .int 2), (0, .ref (a 0))]) b dX12_packs_122 rfl (by decide) (by decide) rfl ?_
  refine z_goto (tgt := 67) b dX12_packs_125 (by decide) ?_
  refine z_iload b dX12_packs_67 rfl ?_
  refine z_iconst (v := 2) b dX12_packs_69 (by decide) ?_
  refine z_icmp_ge_f (tgt := 128) b dX12_packs_70 (by decide) (by decide) ?_
  refine z_lload_n b dX12_packs_73 rfl rfl ?_
  refine z_iconst (v := 3) b dX12_packs_74 (by decide) ?_
  refine z_lshl (v := 825195758336) b dX12_packs_75 (by decide) ?_
  refine z_aload_n b dX12_packs_76 rfl rfl ?_
  refine z_get (q0 := 0) (k9 := 1) (v := .ref (a 2)) b (mw_0 cy a S) rfl in_X12 (by decide) wf_X12_17 rfl dX12_packs_77 ?_
  refine z_iconst (v := 3) b dX12_packs_80 (by decide) ?_
  refine z_iload_n b dX12_packs_81 rfl rfl ?_
  refine z_imul (v := 6) b dX12_packs_82 (by decide) ?_
  refine z_iload_n b dX12_packs_83 rfl rfl ?_
  refine z_iload b dX12_packs_84 rfl ?_
  refine z_calli b (z_runS (As := [.int 2, .int 1]) (st := [.int 6, .ref (a 2), .long 825195758336]) b (c_X12_other S ) cf_X12_other wm_X12_160 ws_X12_other dX12_packs_86 rfl (Nat.le_of_ble_eq_true rfl) ⟨by decide, by decide, by decide, by decide⟩) (fun r2336 u2337 h2335 => ?_)
  obtain ⟨rfl, rfl⟩ := h2335
  refine z_iadd (v := 7) b dX12_packs_89 (by decide) ?_
  refine y_iald (q0 := 2) (j := 7) (v := (ar S 1 7)) b (mw_2 cy a S) (by decide) rfl dX12_packs_90 ?_
  refine z_eqi h_a_1_7 ?_
  refine z_i2l (v := 0) b dX12_packs_91 (by decide) ?_
  refine z_lor (v := 825195758336) b dX12_packs_92 (by decide) ?_
  refine z_lstore_n (lv' := [(1, .long 825195758336), (4, .int 1), (3, .int 2), (0, .ref (a 0))]) b dX12_packs_93 rfl (by decide) rfl ?_
  refine z_lload_n b dX12_packs_94 rfl rfl ?_
  refine z_iconst (v := 1) b dX12_packs_95 (by decide) ?_
  refine z_lshl (v := 1650391516672) b dX12_packs_96 (by decide) ?_
  refine z_aload_n b dX12_packs_97 rfl rfl ?_
  refine z_get (q0 := 0) (k9 := 4) (v := .ref (a 5)) b (mw_0 cy a S) rfl in_X12 (by decide) wf_X12_27 rfl dX12_packs_98 ?_
  refine z_iconst (v := 3) b dX12_packs_101 (by decide) ?_
  refine z_iload_n b dX12_packs_102 rfl rfl ?_
  refine z_imul (v := 6) b dX12_packs_103 (by decide) ?_
  refine z_iload_n b dX12_packs_104 rfl rfl ?_
  refine z_iload b dX12_packs_105 rfl ?_
  refine z_calli b (z_runS (As := [.int 2, .int 1]) (st := [.int 6, .ref (a 5), .long 1650391516672]) b (c_X12_other S ) cf_X12_other wm_X12_160 ws_X12_other dX12_packs_107 rfl (Nat.le_of_ble_eq_true rfl) ⟨by decide, by decide, by decide, by decide⟩) (fun r2339 u2340 h2338 => ?_)
  obtain ⟨rfl, rfl⟩ := h2338
  refine z_iadd (v := 7) b dX12_packs_110 (by decide) ?_
  refine y_zald (q0 := 5) (j := 7) (v := (ar S 4 7)) b (mw_5 cy a S) (by decide) rfl dX12_packs_111 ?_
  refine z_eqi h_a_4_7 ?_
  refine z_if_eq_t (tgt := 119) b dX12_packs_112 (by decide) (by decide) ?_
  refine z_lconst (v := 0) b dX12_packs_119 (by decide) ?_
  refine z_lor (v := 1650391516672) b dX12_packs_120 (by decide) ?_
  refine z_lstore_n (lv' := [(1, .long 1650391516672), (4, .int 1), (3, .int 2), (0, .ref (a 0))]) b dX12_packs_121 rfl (by decide) rfl ?_
  refine z_iinc (k9 := 1) (v := 2) (lv' := [(4, .int 2), (1, .long 1650391516672), (3, .int 2), (0, .ref (a 0))]) b dX12_packs_122 rfl (by decide) (by decide) rfl ?_
  refine z_goto (tgt := 67) b dX12_packs_125 (by decide) ?_
  refine z_iload b dX12_packs_67 rfl ?_
  refine z_iconst (v := 2) b dX12_packs_69 (by decide) ?_
  refine z_icmp_ge_t (tgt := 128) b dX12_packs_70 (by decide) (by decide) ?_
  refine z_iinc (k9 := 2) (v := 3) (lv' := [(3, .int 3), (4, .int 2), (1, .long 1650391516672), (0, .ref (a 0))]) b dX12_packs_128 rfl (by decide) (by decide) rfl ?_
  refine z_goto (tgt := 8) b dX12_packs_131 (by decide) ?_
  refine z_iload_n b dX12_packs_8 rfl rfl ?_
  refine z_iconst (v := 3) b dX12_packs_9 (by decide) ?_
  refine z_icmp_ge_t (tgt := 134) b dX12_packs_10 (by decide) (by decide) ?_
  refine z_lload_n b dX12_packs_134 rfl rfl ?_
  exact z_lret (u := S) b rfl dX12_packs_135 ⟨rfl, rfl⟩ rfl (by decide) (by decide)

set_option maxHeartbeats 4000000 in
set_option maxRecDepth 100000 in
theorem c_X12_told_18 {l : Launch} {D : va_G} {cy : Nat → ClassId} {T0 tB tE : Nat} {a : Nat → Nat} (S : GS)  (h_i_0 : fi S 0 = 0) (h_a_0_0 : ar S 0 0 = 0) (h_a_2_0 : ar S 2 0 = 3) (h_a_3_1 : ar S 3 1 = 0) (h_a_1_1 : ar S 1 1 = 0) (h_a_4_1 : ar S 4 1 = 0) (h_a_1_2 : ar S 1 2 = 0) (h_a_4_2 : ar S 4 2 = 1) (h_a_0_1 : ar S 0 1 = 0) (h_a_2_1 : ar S 2 1 = 3) (h_a_3_5 : ar S 3 5 = 0) (h_a_1_5 : ar S 1 5 = 0) (h_a_4_5 : ar S 4 5 = 0) (h_a_1_3 : ar S 1 3 = 0) (h_a_4_3 : ar S 4 3 = 0) (h_a_0_2 : ar S 0 2 = 0) (h_a_2_2 : ar S 2 2 = 3) (h_a_3_6 : ar S 3 6 = 0) (h_a_1_6 : ar S 1 6 = 0) (h_a_4_6 : ar S 4 6 = 0) (h_a_1_7 : ar S 1 7 = 0) (h_a_4_7 : ar S 4 7 = 0) : Ct l D cy T0 tB tE yX12_told cX12_told 1 (some .boolean) 2 45 0 0 (mw cy a S) [.ref (a 0)] (QI D (U := GS) (fun r u => 1 = r ∧ sl S 0 1650391516672 = u) (mw cy a)) := by
  refine Ct.ofZ RX12 "told" [(0, .ref (a 0))] rfl rfl rfl rfl (Nat.le_of_ble_eq_true rfl) ?_
  intro p e R s m args below meth c A b
  refine z_aload_n b dX12_told_0 rfl rfl ?_
  refine z_aload_n b dX12_told_1 rfl rfl ?_
  refine z_calll b (z_runV (q0 := 0) (As := []) (st := [.ref (a 0)]) b (c_X12_packs_18 S h_i_0 h_a_0_0 h_a_2_0 h_a_3_1 h_a_1_1 h_a_4_1 h_a_1_2 h_a_4_2 h_a_0_1 h_a_2_1 h_a_3_5 h_a_1_5 h_a_4_5 h_a_1_3 h_a_4_3 h_a_0_2 h_a_2_2 h_a_3_6 h_a_1_6 h_a_4_6 h_a_1_7 h_a_4_7) cf_X12_packs (mw_0 cy a S) rfl wm_X12_149 wi_X12_packs ws_X12_packs dX12_told_2 rfl (Nat.le_of_ble_eq_true rfl) ⟨by decide, by decide, by decide, by decide⟩) (fun r2342 u2343 h2341 => ?_)
  obtain ⟨rfl, rfl⟩ := h2341
  refine z_put (q0 := 0) (k9 := 6) tyX12 b (mw_0 cy a S) rfl in_X12 tyX12_ok nmX12 (by decide) wf_X12_153 rfl rfl rfl rfl (Nat.le_of_ble_eq_true rfl) dX12_told_5 (mwp_0_6 cy a S 1650391516672) ?_
  refine z_iconst (v := 1) b dX12_told_8 (by decide) ?_
  exact z_zret (u := (sl S 0 1650391516672)) b rfl (by decide) dX12_told_9 ⟨rfl, rfl⟩ rfl (by decide) (by decide)

set_option maxHeartbeats 4000000 in
set_option maxRecDepth 100000 in
theorem c_X12_kin_36 {l : Launch} {D : va_G} {cy : Nat → ClassId} {T0 tB tE : Nat} {a : Nat → Nat} (S : GS)  (h_l_0 : fl S 0 = 1649317774848) (h_a_4_7 : ar S 4 7 = 0) (h_a_1_7 : ar S 1 7 = 0) (h_a_4_6 : ar S 4 6 = 0) (h_a_1_6 : ar S 1 6 = 0) (h_a_3_6 : ar S 3 6 = 0) (h_a_3_2 : ar S 3 2 = 0) (h_a_2_2 : ar S 2 2 = 3) (h_a_0_2 : ar S 0 2 = 0) (h_a_4_3 : ar S 4 3 = 0) (h_a_1_3 : ar S 1 3 = 0) (h_a_4_5 : ar S 4 5 = 0) (h_a_1_5 : ar S 1 5 = 0) (h_a_3_5 : ar S 3 5 = 0) (h_a_3_7 : ar S 3 7 = 0) (h_a_2_1 : ar S 2 1 = 3) (h_a_0_1 : ar S 0 1 = 0) (h_a_4_2 : ar S 4 2 = 0) (h_a_1_2 : ar S 1 2 = 0) (h_a_4_1 : ar S 4 1 = 0) (h_a_1_1 : ar S 1 1 = 0) (h_a_3_1 : ar S 3 1 = 0) (h_a_3_3 : ar S 3 3 = 0) (h_a_2_0 : ar S 2 0 = 3) (h_a_0_0 : ar S 0 0 = 0) (h_i_0 : fi S 0 = 0) : Ct l D cy T0 tB tE yX12_kin cX12_kin 5 (some .boolean) 3 65 0 0 (mw cy a S) [.ref (a 0), .int 0, .int 2, .int 1, .int 1] (QI D (U := GS) (fun r u => 1 = r ∧ sl (su S 4 2 1) 0 1650391516672 = u) (mw cy a)) := by
  refine Ct.ofZ RX12 "kin" [(0, .ref (a 0)), (1, .int 0), (2, .int 2), (3, .int 1), (4, .int 1)] rfl rfl rfl rfl (Nat.le_of_ble_eq_true rfl) ?_
  intro p e R s m args below meth c A b
  refine z_iload_n b dX12_kin_0 rfl rfl ?_
  refine z_calli b (z_runS (As := [.int 0]) (st := []) b (c_X12_isOne_3 S ) cf_X12_isOne wm_X12_170 ws_X12_isOne dX12_kin_1 rfl (Nat.le_of_ble_eq_true rfl) ⟨by decide, by decide, by decide, by decide⟩) (fun r2285 u2286 h2284 => ?_)
  obtain ⟨rfl, rfl⟩ := h2284
  refine z_if_eq_f (tgt := 28) b dX12_kin_4 (by decide) (by decide) ?_
  refine z_iload_n b dX12_kin_7 rfl rfl ?_
  refine z_calli b (z_runS (As := [.int 2]) (st := []) b (c_X12_isOne_5 S ) cf_X12_isOne wm_X12_170 ws_X12_isOne dX12_kin_8 rfl (Nat.le_of_ble_eq_true rfl) ⟨by decide, by decide, by decide, by decide⟩) (fun r2288 u2289 h2287 => ?_)
  obtain ⟨rfl, rfl⟩ := h2287
  refine z_if_eq_f (tgt := 28) b dX12_kin_11 (by decide) (by decide) ?_
  refine z_iload_n b dX12_kin_14 rfl rfl ?_
  refine z_iload_n b dX12_kin_15 rfl rfl ?_
  refine z_icmp_eq_f (tgt := 28) b dX12_kin_16 (by decide) (by decide) ?_
  refine z_iload_n b dX12_kin_19 rfl rfl ?_
  refine z_iconst (v := 0) b dX12_kin_20 (by decide) ?_
  refine z_iconst (v := 1) b dX12_kin_21 (by decide) ?_
  refine z_calli b (z_runS (As := [.int 1, .int 0, .int 1]) (st := []) b (c_X12_isIn_17 S ) cf_X12_isIn wm_X12_1 ws_X12_isIn dX12_kin_22 rfl (Nat.le_of_ble_eq_true rfl) ⟨by decide, by decide, by decide, by decide⟩) (fun r2291 u2292 h2290 => ?_)
  obtain ⟨rfl, rfl⟩ := h2290
  refine z_if_ne_t (tgt := 30) b dX12_kin_25 (by decide) (by decide) ?_
  refine z_aload_n b dX12_kin_30 rfl rfl ?_
  refine z_aload_n b dX12_kin_31 rfl rfl ?_
  refine z_get (q0 := 0) (k9 := 6) (v := .long (fl S 0)) b (mw_0 cy a S) rfl in_X12 (by decide) wf_X12_153 rfl dX12_kin_32 ?_
  refine z_eql h_l_0 ?_
  refine z_callv b (z_runV (q0 := 0) (As := [.long 1649317774848]) (st := []) b (c_X12_takes S h_a_4_7 h_a_1_7 h_a_4_6 h_a_1_6 h_a_3_6 h_a_3_2 h_a_2_2 h_a_0_2 h_a_4_3 h_a_1_3 h_a_4_5 h_a_1_5 h_a_3_5 h_a_3_7 h_a_2_1 h_a_0_1 h_a_4_2 h_a_1_2 h_a_4_1 h_a_1_1 h_a_3_1 h_a_3_3 h_a_2_0 h_a_0_0 h_i_0) cf_X12_takes (mw_0 cy a S) rfl wm_X12_174 wi_X12_takes ws_X12_takes dX12_kin_35 rfl (Nat.le_of_ble_eq_true rfl) ⟨by decide, by decide, by decide, by decide⟩) (fun u2295 h2293 => ?_)
  obtain rfl := h2293
  refine z_iload_n b dX12_kin_38 rfl rfl ?_
  refine z_iconst (v := 1) b dX12_kin_39 (by decide) ?_
  refine z_icmp_ne_f (tgt := 58) b dX12_kin_40 (by decide) (by decide) ?_
  refine z_aload_n b dX12_kin_43 rfl rfl ?_
  refine z_get (q0 := 0) (k9 := 4) (v := .ref (a 5)) b (mw_0 cy a S) rfl in_X12 (by decide) wf_X12_27 rfl dX12_kin_44 ?_
  refine z_iconst (v := 3) b dX12_kin_47 (by decide) ?_
  refine z_iload_n b dX12_kin_48 rfl rfl ?_
  refine z_imul (v := 0) b dX12_kin_49 (by decide) ?_
  refine z_iload_n b dX12_kin_50 rfl rfl ?_
  refine z_iadd (v := 2) b dX12_kin_51 (by decide) ?_
  refine z_iload b dX12_kin_52 rfl ?_
  refine y_zast (q0 := 5) (j := 2) b (mw_5 cy a S) (by decide) (by decide) dX12_kin_54 (mwa_5 cy a S 2 1) ?_
  refine z_goto (tgt := 82) b dX12_kin_55 (by decide) ?_
  refine z_aload_n b dX12_kin_82 rfl rfl ?_
  refine z_calli b (z_runV (q0 := 0) (As := []) (st := []) b (c_X12_told_18 (su S 4 2 1) h_i_0 h_a_0_0 h_a_2_0 h_a_3_1 h_a_1_1 h_a_4_1 h_a_1_2 rfl h_a_0_1 h_a_2_1 h_a_3_5 h_a_1_5 h_a_4_5 h_a_1_3 h_a_4_3 h_a_0_2 h_a_2_2 h_a_3_6 h_a_1_6 h_a_4_6 h_a_1_7 h_a_4_7) cf_X12_told (mw_0 cy a (su S 4 2 1)) rfl wm_X12_178 wi_X12_told ws_X12_told dX12_kin_83 rfl (Nat.le_of_ble_eq_true rfl) ⟨by decide, by decide, by decide, by decide⟩) (fun r2345 u2346 h2344 => ?_)
  obtain ⟨rfl, rfl⟩ := h2344
  exact z_zret (u := (sl (su S 4 2 1) 0 1650391516672)) b rfl (by decide) dX12_kin_86 ⟨rfl, rfl⟩ rfl (by decide) (by decide)

set_option maxHeartbeats 4000000 in
set_option maxRecDepth 100000 in
theorem c_X11_kin_37 {l : Launch} {D : va_G} {cy : Nat → ClassId} {T0 tB tE : Nat} {a : Nat → Nat} {rw : Nat → Option Nat} (S : GS) (p0 : Int32)  (hr_p0 : 2 ≤ p0.toInt ∧ p0.toInt ≤ 2147483647) : Ct l D cy T0 tB tE yX11_kin cX11_kin 6 (some .boolean) 2 41 0 0 (cw cy tE a rw S) [.ref (a 0), .int 0, .int 2, .int p0, .int 0] (QI D (U := GS) (fun r u => 0 = r ∧ S = u) (cw cy tE a rw)) := by
  refine Ct.ofZ RX11 "kin" [(0, .ref (a 0)), (1, .int 0), (2, .int 2), (3, .int p0), (4, .int 0)] rfl rfl rfl rfl (Nat.le_of_ble_eq_true rfl) ?_
  intro p e R s m args below meth c A b
  refine z_iload_n b dX11_kin_0 rfl rfl ?_
  refine z_iload_n b dX11_kin_1 rfl rfl ?_
  refine z_calli b (z_runS (As := [.int 0, .int 2]) (st := []) b (c_X11_arePair_13 S ) cf_X11_arePair wm_X11_84 ws_X11_arePair dX11_kin_2 rfl (Nat.le_of_ble_eq_true rfl) ⟨by decide, by decide, by decide, by decide⟩) (fun r2348 u2349 h2347 => ?_)
  obtain ⟨rfl, rfl⟩ := h2347
  refine z_if_eq_f (tgt := 16) b dX11_kin_5 (by decide) (by decide) ?_
  refine z_iload_n b dX11_kin_8 rfl rfl ?_
  refine z_iconst (v := 1) b dX11_kin_9 (by decide) ?_
  refine z_calli b (z_runS (As := [.int p0, .int 1]) (st := []) b (c_X11_isWithin_13 S p0 ⟨by omega, by omega⟩) cf_X11_isWithin wm_X11_73 ws_X11_isWithin dX11_kin_10 rfl (Nat.le_of_ble_eq_true rfl) ⟨by decide, by decide, by decide, by decide⟩) (fun r2351 u2352 h2350 => ?_)
  obtain ⟨rfl, rfl⟩ := h2350
  refine z_if_ne_f (tgt := 18) b dX11_kin_13 (by decide) (by decide) ?_
  refine z_iconst (v := 0) b dX11_kin_16 (by decide) ?_
  exact z_zret (u := S) b rfl (by decide) dX11_kin_17 ⟨rfl, rfl⟩ rfl (by decide) (by decide)

set_option maxHeartbeats 4000000 in
set_option maxRecDepth 100000 in
theorem c_X12_kin_37 {l : Launch} {D : va_G} {cy : Nat → ClassId} {T0 tB tE : Nat} {a : Nat → Nat} (S : GS) (p0 : Int32)  (hr_p0 : 2 ≤ p0.toInt ∧ p0.toInt ≤ 2147483647) : Ct l D cy T0 tB tE yX12_kin cX12_kin 5 (some .boolean) 2 42 0 0 (mw cy a S) [.ref (a 0), .int 0, .int 2, .int p0, .int 0] (QI D (U := GS) (fun r u => 0 = r ∧ S = u) (mw cy a)) := by
  refine Ct.ofZ RX12 "kin" [(0, .ref (a 0)), (1, .int 0), (2, .int 2), (3, .int p0), (4, .int 0)] rfl rfl rfl rfl (Nat.le_of_ble_eq_true rfl) ?_
  intro p e R s m args below meth c A b
  refine z_iload_n b dX12_kin_0 rfl rfl ?_
  refine z_calli b (z_runS (As := [.int 0]) (st := []) b (c_X12_isOne_3 S ) cf_X12_isOne wm_X12_170 ws_X12_isOne dX12_kin_1 rfl (Nat.le_of_ble_eq_true rfl) ⟨by decide, by decide, by decide, by decide⟩) (fun r2354 u2355 h2353 => ?_)
  obtain ⟨rfl, rfl⟩ := h2353
  refine z_if_eq_f (tgt := 28) b dX12_kin_4 (by decide) (by decide) ?_
  refine z_iload_n b dX12_kin_7 rfl rfl ?_
  refine z_calli b (z_runS (As := [.int 2]) (st := []) b (c_X12_isOne_5 S ) cf_X12_isOne wm_X12_170 ws_X12_isOne dX12_kin_8 rfl (Nat.le_of_ble_eq_true rfl) ⟨by decide, by decide, by decide, by decide⟩) (fun r2357 u2358 h2356 => ?_)
  obtain ⟨rfl, rfl⟩ := h2356
  refine z_if_eq_f (tgt := 28) b dX12_kin_11 (by decide) (by decide) ?_
  refine z_iload_n b dX12_kin_14 rfl rfl ?_
  refine z_iload_n b dX12_kin_15 rfl rfl ?_
  refine z_icmp_eq_f (tgt := 28) b dX12_kin_16 (by decide) (by decide) ?_
  refine z_iload_n b dX12_kin_19 rfl rfl ?_
  refine z_iconst (v := 0) b dX12_kin_20 (by decide) ?_
  refine z_iconst (v := 1) b dX12_kin_21 (by decide) ?_
  refine z_calli b (z_runS (As := [.int p0, .int 0, .int 1]) (st := []) b (c_X12_isIn_18 S p0 ⟨by omega, by omega⟩) cf_X12_isIn wm_X12_1 ws_X12_isIn dX12_kin_22 rfl (Nat.le_of_ble_eq_true rfl) ⟨by decide, by decide, by decide, by decide⟩) (fun r2360 u2361 h2359 => ?_)
  obtain ⟨rfl, rfl⟩ := h2359
  refine z_if_ne_f (tgt := 30) b dX12_kin_25 (by decide) (by decide) ?_
  refine z_iconst (v := 0) b dX12_kin_28 (by decide) ?_
  exact z_zret (u := S) b rfl (by decide) dX12_kin_29 ⟨rfl, rfl⟩ rfl (by decide) (by decide)

set_option maxHeartbeats 4000000 in
set_option maxRecDepth 100000 in
theorem c_X11_kin_38 {l : Launch} {D : va_G} {cy : Nat → ClassId} {T0 tB tE : Nat} {a : Nat → Nat} {rw : Nat → Option Nat} (S : GS) (p0 : Int32)  (hr_p0 : 2 ≤ p0.toInt ∧ p0.toInt ≤ 2147483647) : Ct l D cy T0 tB tE yX11_kin cX11_kin 6 (some .boolean) 2 41 0 0 (cw cy tE a rw S) [.ref (a 0), .int 0, .int 2, .int p0, .int 1] (QI D (U := GS) (fun r u => 0 = r ∧ S = u) (cw cy tE a rw)) := by
  refine Ct.ofZ RX11 "kin" [(0, .ref (a 0)), (1, .int 0), (2, .int 2), (3, .int p0), (4, .int 1)] rfl rfl rfl rfl (Nat.le_of_ble_eq_true rfl) ?_
  intro p e R s m args below meth c A b
  refine z_iload_n b dX11_kin_0 rfl rfl ?_
  refine z_iload_n b dX11_kin_1 rfl rfl ?_
  refine z_calli b (z_runS (As := [.int 0, .int 2]) (st := []) b (c_X11_arePair_13 S ) cf_X11_arePair wm_X11_84 ws_X11_arePair dX11_kin_2 rfl (Nat.le_of_ble_eq_true rfl) ⟨by decide, by decide, by decide, by decide⟩) (fun r2363 u2364 h2362 => ?_)
  obtain ⟨rfl, rfl⟩ := h2362
  refine z_if_eq_f (tgt := 16) b dX11_kin_5 (by decide) (by decide) ?_
  refine z_iload_n b dX11_kin_8 rfl rfl ?_
  refine z_iconst (v := 1) b dX11_kin_9 (by decide) ?_
  refine z_calli b (z_runS (As := [.int p0, .int 1]) (st := []) b (c_X11_isWithin_13 S p0 ⟨by omega, by omega⟩) cf_X11_isWithin wm_X11_73 ws_X11_isWithin dX11_kin_10 rfl (Nat.le_of_ble_eq_true rfl) ⟨by decide, by decide, by decide, by decide⟩) (fun r2366 u2367 h2365 => ?_)
  obtain ⟨rfl, rfl⟩ := h2365
  refine z_if_ne_f (tgt := 18) b dX11_kin_13 (by decide) (by decide) ?_
  refine z_iconst (v := 0) b dX11_kin_16 (by decide) ?_
  exact z_zret (u := S) b rfl (by decide) dX11_kin_17 ⟨rfl, rfl⟩ rfl (by decide) (by decide)

set_option maxHeartbeats 4000000 in
set_option maxRecDepth 100000 in
theorem c_X12_kin_38 {l : Launch} {D : va_G} {cy : Nat → ClassId} {T0 tB tE : Nat} {a : Nat → Nat} (S : GS) (p0 : Int32)  (hr_p0 : 2 ≤ p0.toInt ∧ p0.toInt ≤ 2147483647) : Ct l D cy T0 tB tE yX12_kin cX12_kin 5 (some .boolean) 2 42 0 0 (mw cy a S) [.ref (a 0), .int 0, .int 2, .int p0, .int 1] (QI D (U := GS) (fun r u => 0 = r ∧ S = u) (mw cy a)) := by
  refine Ct.ofZ RX12 "kin" [(0, .ref (a 0)), (1, .int 0), (2, .int 2), (3, .int p0), (4, .int 1)] rfl rfl rfl rfl (Nat.le_of_ble_eq_true rfl) ?_
  intro p e R s m args below meth c A b
  refine z_iload_n b dX12_kin_0 rfl rfl ?_
  refine z_calli b (z_runS (As := [.int 0]) (st := []) b (c_X12_isOne_3 S ) cf_X12_isOne wm_X12_170 ws_X12_isOne dX12_kin_1 rfl (Nat.le_of_ble_eq_true rfl) ⟨by decide, by decide, by decide, by decide⟩) (fun r2369 u2370 h2368 => ?_)
  obtain ⟨rfl, rfl⟩ := h2368
  refine z_if_eq_f (tgt := 28) b dX12_kin_4 (by decide) (by decide) ?_
  refine z_iload_n b dX12_kin_7 rfl rfl ?_
  refine z_calli b (z_runS (As := [.int 2]) (st := []) b (c_X12_isOne_5 S ) cf_X12_isOne wm_X12_170 ws_X12_isOne dX12_kin_8 rfl (Nat.le_of_ble_eq_true rfl) ⟨by decide, by decide, by decide, by decide⟩) (fun r2372 u2373 h2371 => ?_)
  obtain ⟨rfl, rfl⟩ := h2371
  refine z_if_eq_f (tgt := 28) b dX12_kin_11 (by decide) (by decide) ?_
  refine z_iload_n b dX12_kin_14 rfl rfl ?_
  refine z_iload_n b dX12_kin_15 rfl rfl ?_
  refine z_icmp_eq_f (tgt := 28) b dX12_kin_16 (by decide) (by decide) ?_
  refine z_iload_n b dX12_kin_19 rfl rfl ?_
  refine z_iconst (v := 0) b dX12_kin_20 (by decide) ?_
  refine z_iconst (v := 1) b dX12_kin_21 (by decide) ?_
  refine z_calli b (z_runS (As := [.int p0, .int 0, .int 1]) (st := []) b (c_X12_isIn_18 S p0 ⟨by omega, by omega⟩) cf_X12_isIn wm_X12_1 ws_X12_isIn dX12_kin_22 rfl (Nat.le_of_ble_eq_true rfl) ⟨by decide, by decide, by decide, by decide⟩) (fun r2375 u2376 h2374 => ?_)
  obtain ⟨rfl, rfl⟩ := h2374
  refine z_if_ne_f (tgt := 30) b dX12_kin_25 (by decide) (by decide) ?_
  refine z_iconst (v := 0) b dX12_kin_28 (by decide) ?_
  exact z_zret (u := S) b rfl (by decide) dX12_kin_29 ⟨rfl, rfl⟩ rfl (by decide) (by decide)

set_option maxHeartbeats 4000000 in
set_option maxRecDepth 100000 in
theorem c_X11_kin_39 {l : Launch} {D : va_G} {cy : Nat → ClassId} {T0 tB tE : Nat} {a : Nat → Nat} {rw : Nat → Option Nat} (S : GS) (p0 : Int32)  (hr_p0 : (-2147483648) ≤ p0.toInt ∧ p0.toInt ≤ (-1)) : Ct l D cy T0 tB tE yX11_kin cX11_kin 6 (some .boolean) 2 41 0 0 (cw cy tE a rw S) [.ref (a 0), .int 1, .int 0, .int p0, .int 0] (QI D (U := GS) (fun r u => 0 = r ∧ S = u) (cw cy tE a rw)) := by
  refine Ct.ofZ RX11 "kin" [(0, .ref (a 0)), (1, .int 1), (2, .int 0), (3, .int p0), (4, .int 0)] rfl rfl rfl rfl (Nat.le_of_ble_eq_true rfl) ?_
  intro p e R s m args below meth c A b
  refine z_iload_n b dX11_kin_0 rfl rfl ?_
  refine z_iload_n b dX11_kin_1 rfl rfl ?_
  refine z_calli b (z_runS (As := [.int 1, .int 0]) (st := []) b (c_X11_arePair_14 S ) cf_X11_arePair wm_X11_84 ws_X11_arePair dX11_kin_2 rfl (Nat.le_of_ble_eq_true rfl) ⟨by decide, by decide, by decide, by decide⟩) (fun r2378 u2379 h2377 => ?_)
  obtain ⟨rfl, rfl⟩ := h2377
  refine z_if_eq_f (tgt := 16) b dX11_kin_5 (by decide) (by decide) ?_
  refine z_iload_n b dX11_kin_8 rfl rfl ?_
  refine z_iconst (v := 1) b dX11_kin_9 (by decide) ?_
  refine z_calli b (z_runS (As := [.int p0, .int 1]) (st := []) b (c_X11_isWithin_10 S p0 ⟨by omega, by omega⟩) cf_X11_isWithin wm_X11_73 ws_X11_isWithin dX11_kin_10 rfl (Nat.le_of_ble_eq_true rfl) ⟨by decide, by decide, by decide, by decide⟩) (fun r2381 u2382 h2380 => ?_)
  obtain ⟨rfl, rfl⟩ := h2380
  refine z_if_ne_f (tgt := 18) b dX11_kin_13 (by decide) (by decide) ?_
  refine z_iconst (v := 0) b dX11_kin_16 (by decide) ?_
  exact z_zret (u := S) b rfl (by decide) dX11_kin_17 ⟨rfl, rfl⟩ rfl (by decide) (by decide)

set_option maxHeartbeats 4000000 in
set_option maxRecDepth 100000 in
theorem c_X12_kin_39 {l : Launch} {D : va_G} {cy : Nat → ClassId} {T0 tB tE : Nat} {a : Nat → Nat} (S : GS) (p0 : Int32)  (hr_p0 : (-2147483648) ≤ p0.toInt ∧ p0.toInt ≤ (-1)) : Ct l D cy T0 tB tE yX12_kin cX12_kin 5 (some .boolean) 2 42 0 0 (mw cy a S) [.ref (a 0), .int 1, .int 0, .int p0, .int 0] (QI D (U := GS) (fun r u => 0 = r ∧ S = u) (mw cy a)) := by
  refine Ct.ofZ RX12 "kin" [(0, .ref (a 0)), (1, .int 1), (2, .int 0), (3, .int p0), (4, .int 0)] rfl rfl rfl rfl (Nat.le_of_ble_eq_true rfl) ?_
  intro p e R s m args below meth c A b
  refine z_iload_n b dX12_kin_0 rfl rfl ?_
  refine z_calli b (z_runS (As := [.int 1]) (st := []) b (c_X12_isOne_4 S ) cf_X12_isOne wm_X12_170 ws_X12_isOne dX12_kin_1 rfl (Nat.le_of_ble_eq_true rfl) ⟨by decide, by decide, by decide, by decide⟩) (fun r2384 u2385 h2383 => ?_)
  obtain ⟨rfl, rfl⟩ := h2383
  refine z_if_eq_f (tgt := 28) b dX12_kin_4 (by decide) (by decide) ?_
  refine z_iload_n b dX12_kin_7 rfl rfl ?_
  refine z_calli b (z_runS (As := [.int 0]) (st := []) b (c_X12_isOne_3 S ) cf_X12_isOne wm_X12_170 ws_X12_isOne dX12_kin_8 rfl (Nat.le_of_ble_eq_true rfl) ⟨by decide, by decide, by decide, by decide⟩) (fun r2387 u2388 h2386 => ?_)
  obtain ⟨rfl, rfl⟩ := h2386
  refine z_if_eq_f (tgt := 28) b dX12_kin_11 (by decide) (by decide) ?_
  refine z_iload_n b dX12_kin_14 rfl rfl ?_
  refine z_iload_n b dX12_kin_15 rfl rfl ?_
  refine z_icmp_eq_f (tgt := 28) b dX12_kin_16 (by decide) (by decide) ?_
  refine z_iload_n b dX12_kin_19 rfl rfl ?_
  refine z_iconst (v := 0) b dX12_kin_20 (by decide) ?_
  refine z_iconst (v := 1) b dX12_kin_21 (by decide) ?_
  refine z_calli b (z_runS (As := [.int p0, .int 0, .int 1]) (st := []) b (c_X12_isIn_15 S p0 ⟨by omega, by omega⟩) cf_X12_isIn wm_X12_1 ws_X12_isIn dX12_kin_22 rfl (Nat.le_of_ble_eq_true rfl) ⟨by decide, by decide, by decide, by decide⟩) (fun r2390 u2391 h2389 => ?_)
  obtain ⟨rfl, rfl⟩ := h2389
  refine z_if_ne_f (tgt := 30) b dX12_kin_25 (by decide) (by decide) ?_
  refine z_iconst (v := 0) b dX12_kin_28 (by decide) ?_
  exact z_zret (u := S) b rfl (by decide) dX12_kin_29 ⟨rfl, rfl⟩ rfl (by decide) (by decide)

set_option maxHeartbeats 4000000 in
set_option maxRecDepth 100000 in
theorem c_X11_kin_40 {l : Launch} {D : va_G} {cy : Nat → ClassId} {T0 tB tE : Nat} {a : Nat → Nat} {rw : Nat → Option Nat} (S : GS) (p0 : Int32)  (hr_p0 : (-2147483648) ≤ p0.toInt ∧ p0.toInt ≤ (-1)) : Ct l D cy T0 tB tE yX11_kin cX11_kin 6 (some .boolean) 2 41 0 0 (cw cy tE a rw S) [.ref (a 0), .int 1, .int 0, .int p0, .int 1] (QI D (U := GS) (fun r u => 0 = r ∧ S = u) (cw cy tE a rw)) := by
  refine Ct.ofZ RX11 "kin" [(0, .ref (a 0)), (1, .int 1), (2, .int 0), (3, .int p0), (4, .int 1)] rfl rfl rfl rfl (Nat.le_of_ble_eq_true rfl) ?_
  intro p e R s m args below meth c A b
  refine z_iload_n b dX11_kin_0 rfl rfl ?_
  refine z_iload_n b dX11_kin_1 rfl rfl ?_
  refine z_calli b (z_runS (As := [.int 1, .int 0]) (st := []) b (c_X11_arePair_14 S ) cf_X11_arePair wm_X11_84 ws_X11_arePair dX11_kin_2 rfl (Nat.le_of_ble_eq_true rfl) ⟨by decide, by decide, by decide, by decide⟩) (fun r2393 u2394 h2392 => ?_)
  obtain ⟨rfl, rfl⟩ := h2392
  refine z_if_eq_f (tgt := 16) b dX11_kin_5 (by decide) (by decide) ?_
  refine z_iload_n b dX11_kin_8 rfl rfl ?_
  refine z_iconst (v := 1) b dX11_kin_9 (by decide) ?_
  refine z_calli b (z_runS (As := [.int p0, .int 1]) (st := []) b (c_X11_isWithin_10 S p0 ⟨by omega, by omega⟩) cf_X11_isWithin wm_X11_73 ws_X11_isWithin dX11_kin_10 rfl (Nat.le_of_ble_eq_true rfl) ⟨by decide, by decide, by decide, by decide⟩) (fun r2396 u2397 h2395 => ?_)
  obtain ⟨rfl, rfl⟩ := h2395
  refine z_if_ne_f (tgt := 18) b dX11_kin_13 (by decide) (by decide) ?_
  refine z_iconst (v := 0) b dX11_kin_16 (by decide) ?_
  exact z_zret (u := S) b rfl (by decide) dX11_kin_17 ⟨rfl, rfl⟩ rfl (by decide) (by decide)

set_option maxHeartbeats 4000000 in
set_option maxRecDepth 100000 in
theorem c_X12_kin_40 {l : Launch} {D : va_G} {cy : Nat → ClassId} {T0 tB tE : Nat} {a : Nat → Nat} (S : GS) (p0 : Int32)  (hr_p0 : (-2147483648) ≤ p0.toInt ∧ p0.toInt ≤ (-1)) : Ct l D cy T0 tB tE yX12_kin cX12_kin 5 (some .boolean) 2 42 0 0 (mw cy a S) [.ref (a 0), .int 1, .int 0, .int p0, .int 1] (QI D (U := GS) (fun r u => 0 = r ∧ S = u) (mw cy a)) := by
  refine Ct.ofZ RX12 "kin" [(0, .ref (a 0)), (1, .int 1), (2, .int 0), (3, .int p0), (4, .int 1)] rfl rfl rfl rfl (Nat.le_of_ble_eq_true rfl) ?_
  intro p e R s m args below meth c A b
  refine z_iload_n b dX12_kin_0 rfl rfl ?_
  refine z_calli b (z_runS (As := [.int 1]) (st := []) b (c_X12_isOne_4 S ) cf_X12_isOne wm_X12_170 ws_X12_isOne dX12_kin_1 rfl (Nat.le_of_ble_eq_true rfl) ⟨by decide, by decide, by decide, by decide⟩) (fun r2399 u2400 h2398 => ?_)
  obtain ⟨rfl, rfl⟩ := h2398
  refine z_if_eq_f (tgt := 28) b dX12_kin_4 (by decide) (by decide) ?_
  refine z_iload_n b dX12_kin_7 rfl rfl ?_
  refine z_calli b (z_runS (As := [.int 0]) (st := []) b (c_X12_isOne_3 S ) cf_X12_isOne wm_X12_170 ws_X12_isOne dX12_kin_8 rfl (Nat.le_of_ble_eq_true rfl) ⟨by decide, by decide, by decide, by decide⟩) (fun r2402 u2403 h2401 => ?_)
  obtain ⟨rfl, rfl⟩ := h2401
  refine z_if_eq_f (tgt := 28) b dX12_kin_11 (by decide) (by decide) ?_
  refine z_iload_n b dX12_kin_14 rfl rfl ?_
  refine z_iload_n b dX12_kin_15 rfl rfl ?_
  refine z_icmp_eq_f (tgt := 28) b dX12_kin_16 (by decide) (by decide) ?_
  refine z_iload_n b dX12_kin_19 rfl rfl ?_
  refine z_iconst (v := 0) b dX12_kin_20 (by decide) ?_
  refine z_iconst (v := 1) b dX12_kin_21 (by decide) ?_
  refine z_calli b (z_runS (As := [.int p0, .int 0, .int 1]) (st := []) b (c_X12_isIn_15 S p0 ⟨by omega, by omega⟩) cf_X12_isIn wm_X12_1 ws_X12_isIn dX12_kin_22 rfl (Nat.le_of_ble_eq_true rfl) ⟨by decide, by decide, by decide, by decide⟩) (fun r2405 u2406 h2404 => ?_)
  obtain ⟨rfl, rfl⟩ := h2404
  refine z_if_ne_f (tgt := 30) b dX12_kin_25 (by decide) (by decide) ?_
  refine z_iconst (v := 0) b dX12_kin_28 (by decide) ?_
  exact z_zret (u := S) b rfl (by decide) dX12_kin_29 ⟨rfl, rfl⟩ rfl (by decide) (by decide)

set_option maxHeartbeats 4000000 in
set_option maxRecDepth 100000 in
theorem c_X11_kin_41 {l : Launch} {D : va_G} {cy : Nat → ClassId} {T0 tB tE : Nat} {a : Nat → Nat} {rw : Nat → Option Nat} (S : GS)  (h_a_4_23 : ar S 4 23 = 0) (h_a_4_21 : ar S 4 21 = 0) (h_i_24 : fi S 24 = 0) : Ct l D cy T0 tB tE yX11_kin cX11_kin 6 (some .boolean) 2 41 0 0 (cw cy tE a rw S) [.ref (a 0), .int 1, .int 0, .int 0, .int 0] (QI D (U := GS) (fun r u => 1 = r ∧ S = u) (cw cy tE a rw)) := by
  refine Ct.ofZ RX11 "kin" [(0, .ref (a 0)), (1, .int 1), (2, .int 0), (3, .int 0), (4, .int 0)] rfl rfl rfl rfl (Nat.le_of_ble_eq_true rfl) ?_
  intro p e R s m args below meth c A b
  refine z_iload_n b dX11_kin_0 rfl rfl ?_
  refine z_iload_n b dX11_kin_1 rfl rfl ?_
  refine z_calli b (z_runS (As := [.int 1, .int 0]) (st := []) b (c_X11_arePair_14 S ) cf_X11_arePair wm_X11_84 ws_X11_arePair dX11_kin_2 rfl (Nat.le_of_ble_eq_true rfl) ⟨by decide, by decide, by decide, by decide⟩) (fun r2408 u2409 h2407 => ?_)
  obtain ⟨rfl, rfl⟩ := h2407
  refine z_if_eq_f (tgt := 16) b dX11_kin_5 (by decide) (by decide) ?_
  refine z_iload_n b dX11_kin_8 rfl rfl ?_
  refine z_iconst (v := 1) b dX11_kin_9 (by decide) ?_
  refine z_calli b (z_runS (As := [.int 0, .int 1]) (st := []) b (c_X11_isWithin_11 S ) cf_X11_isWithin wm_X11_73 ws_X11_isWithin dX11_kin_10 rfl (Nat.le_of_ble_eq_true rfl) ⟨by decide, by decide, by decide, by decide⟩) (fun r2411 u2412 h2410 => ?_)
  obtain ⟨rfl, rfl⟩ := h2410
  refine z_if_ne_t (tgt := 18) b dX11_kin_13 (by decide) (by decide) ?_
  refine z_iload b dX11_kin_18 rfl ?_
  refine z_if_eq_t (tgt := 27) b dX11_kin_20 (by decide) (by decide) ?_
  refine z_iconst (v := 0) b dX11_kin_27 (by decide) ?_
  refine z_istore (lv' := [(5, .int 0), (0, .ref (a 0)), (1, .int 1), (2, .int 0), (3, .int 0), (4, .int 0)]) b dX11_kin_28 (by decide) rfl ?_
  refine z_iload_n b dX11_kin_30 rfl rfl ?_
  refine z_if_ne_f (tgt := 71) b dX11_kin_31 (by decide) (by decide) ?_
  refine z_aload_n b dX11_kin_34 rfl rfl ?_
  refine z_get (q0 := 0) (k9 := 4) (v := .ref (a 14)) b (cw_0 cy tE a rw S) rfl in_X11 (by decide) wf_X11_34 rfl dX11_kin_35 ?_
  refine z_bipush (v := 20) b dX11_kin_38 (by decide) ?_
  refine z_iconst (v := 3) b dX11_kin_40 (by decide) ?_
  refine z_iload_n b dX11_kin_41 rfl rfl ?_
  refine z_imul (v := 3) b dX11_kin_42 (by decide) ?_
  refine z_iadd (v := 23) b dX11_kin_43 (by decide) ?_
  refine z_iload_n b dX11_kin_44 rfl rfl ?_
  refine z_iadd (v := 23) b dX11_kin_45 (by decide) ?_
  refine z_iload b dX11_kin_46 rfl ?_
  refine z_callv b (z_runV (q0 := 14) (As := [.int 23, .int 0]) (st := []) b (c_X9_set_15 S h_a_4_23) cf_X9_set (cw_14 cy tE a rw S) rfl wm_X11_77 wi_X9_set ws_X9_set dX11_kin_48 rfl (Nat.le_of_ble_eq_true rfl) ⟨by decide, by decide, by decide, by decide⟩) (fun u2415 h2413 => ?_)
  obtain rfl := h2413
  refine z_aload_n b dX11_kin_51 rfl rfl ?_
  refine z_get (q0 := 0) (k9 := 4) (v := .ref (a 14)) b (cw_0 cy tE a rw S) rfl in_X11 (by decide) wf_X11_34 rfl dX11_kin_52 ?_
  refine z_bipush (v := 20) b dX11_kin_55 (by decide) ?_
  refine z_iconst (v := 3) b dX11_kin_57 (by decide) ?_
  refine z_iload_n b dX11_kin_58 rfl rfl ?_
  refine z_imul (v := 0) b dX11_kin_59 (by decide) ?_
  refine z_iadd (v := 20) b dX11_kin_60 (by decide) ?_
  refine z_iload_n b dX11_kin_61 rfl rfl ?_
  refine z_iadd (v := 21) b dX11_kin_62 (by decide) ?_
  refine z_iload b dX11_kin_63 rfl ?_
  refine z_callv b (z_runV (q0 := 14) (As := [.int 21, .int 0]) (st := []) b (c_X9_set_14 S h_a_4_21) cf_X9_set (cw_14 cy tE a rw S) rfl wm_X11_77 wi_X9_set ws_X9_set dX11_kin_65 rfl (Nat.le_of_ble_eq_true rfl) ⟨by decide, by decide, by decide, by decide⟩) (fun u2418 h2416 => ?_)
  obtain rfl := h2416
  refine z_goto (tgt := 88) b dX11_kin_68 (by decide) ?_
  refine z_aload_n b dX11_kin_88 rfl rfl ?_
  refine z_get (q0 := 0) (k9 := 6) (v := .ref (a 25)) b (cw_0 cy tE a rw S) rfl in_X11 (by decide) wf_X11_52 rfl dX11_kin_89 ?_
  refine z_callv b (z_runV (q0 := 25) (As := []) (st := []) b (c_X8_forget S h_i_24) cf_X8_forget (cw_25 cy tE a rw S) rfl wm_X11_81 wi_X8_forget ws_X8_forget dX11_kin_92 rfl (Nat.le_of_ble_eq_true rfl) ⟨by decide, by decide, by decide, by decide⟩) (fun u2421 h2419 => ?_)
  obtain rfl := h2419
  refine z_iconst (v := 1) b dX11_kin_95 (by decide) ?_
  exact z_zret (u := S) b rfl (by decide) dX11_kin_96 ⟨rfl, rfl⟩ rfl (by decide) (by decide)

set_option maxHeartbeats 4000000 in
set_option maxRecDepth 100000 in
theorem c_X12_kin_41 {l : Launch} {D : va_G} {cy : Nat → ClassId} {T0 tB tE : Nat} {a : Nat → Nat} (S : GS)  (h_l_0 : fl S 0 = 1649317774848) (h_a_4_7 : ar S 4 7 = 0) (h_a_1_7 : ar S 1 7 = 0) (h_a_4_6 : ar S 4 6 = 0) (h_a_1_6 : ar S 1 6 = 0) (h_a_3_6 : ar S 3 6 = 0) (h_a_3_2 : ar S 3 2 = 0) (h_a_2_2 : ar S 2 2 = 3) (h_a_0_2 : ar S 0 2 = 0) (h_a_4_3 : ar S 4 3 = 0) (h_a_1_3 : ar S 1 3 = 0) (h_a_4_5 : ar S 4 5 = 0) (h_a_1_5 : ar S 1 5 = 0) (h_a_3_5 : ar S 3 5 = 0) (h_a_3_7 : ar S 3 7 = 0) (h_a_2_1 : ar S 2 1 = 3) (h_a_0_1 : ar S 0 1 = 0) (h_a_4_2 : ar S 4 2 = 0) (h_a_1_2 : ar S 1 2 = 0) (h_a_4_1 : ar S 4 1 = 0) (h_a_1_1 : ar S 1 1 = 0) (h_a_3_1 : ar S 3 1 = 0) (h_a_3_3 : ar S 3 3 = 0) (h_a_2_0 : ar S 2 0 = 3) (h_a_0_0 : ar S 0 0 = 0) (h_i_0 : fi S 0 = 0) : Ct l D cy T0 tB tE yX12_kin cX12_kin 5 (some .boolean) 3 65 0 0 (mw cy a S) [.ref (a 0), .int 1, .int 0, .int 0, .int 0] (QI D (U := GS) (fun r u => 1 = r ∧ S = u) (mw cy a)) := by
  refine Ct.ofZ RX12 "kin" [(0, .ref (a 0)), (1, .int 1), (2, .int 0), (3, .int 0), (4, .int 0)] rfl rfl rfl rfl (Nat.le_of_ble_eq_true rfl) ?_
  intro p e R s m args below meth c A b
  refine z_iload_n b dX12_kin_0 rfl rfl ?_
  refine z_calli b (z_runS (As := [.int 1]) (st := []) b (c_X12_isOne_4 S ) cf_X12_isOne wm_X12_170 ws_X12_isOne dX12_kin_1 rfl (Nat.le_of_ble_eq_true rfl) ⟨by decide, by decide, by decide, by decide⟩) (fun r2423 u2424 h2422 => ?_)
  obtain ⟨rfl, rfl⟩ := h2422
  refine z_if_eq_f (tgt := 28) b dX12_kin_4 (by decide) (by decide) ?_
  refine z_iload_n b dX12_kin_7 rfl rfl ?_
  refine z_calli b (z_runS (As := [.int 0]) (st := []) b (c_X12_isOne_3 S ) cf_X12_isOne wm_X12_170 ws_X12_isOne dX12_kin_8 rfl (Nat.le_of_ble_eq_true rfl) ⟨by decide, by decide, by decide, by decide⟩) (fun r2426 u2427 h2425 => ?_)
  obtain ⟨rfl, rfl⟩ := h2425
  refine z_if_eq_f (tgt := 28) b dX12_kin_11 (by decide) (by decide) ?_
  refine z_iload_n b dX12_kin_14 rfl rfl ?_
  refine z_iload_n b dX12_kin_15 rfl rfl ?_
  refine z_icmp_eq_f (tgt := 28) b dX12_kin_16 (by decide) (by decide) ?_
  refine z_iload_n b dX12_kin_19 rfl rfl ?_
  refine z_iconst (v := 0) b dX12_kin_20 (by decide) ?_
  refine z_iconst (v := 1) b dX12_kin_21 (by decide) ?_
  refine z_calli b (z_runS (As := [.int 0, .int 0, .int 1]) (st := []) b (c_X12_isIn_16 S ) cf_X12_isIn wm_X12_1 ws_X12_isIn dX12_kin_22 rfl (Nat.le_of_ble_eq_true rfl) ⟨by decide, by decide, by decide, by decide⟩) (fun r2429 u2430 h2428 => ?_)
  obtain ⟨rfl, rfl⟩ := h2428
  refine z_if_ne_t (tgt := 30) b dX12_kin_25 (by decide) (by decide) ?_
  refine z_aload_n b dX12_kin_30 rfl rfl ?_
  refine z_aload_n b dX12_kin_31 rfl rfl ?_
  refine z_get (q0 := 0) (k9 := 6) (v := .long (fl S 0)) b (mw_0 cy a S) rfl in_X12 (by decide) wf_X12_153 rfl dX12_kin_32 ?_
  refine z_eql h_l_0 ?_
  refine z_callv b (z_runV (q0 := 0) (As := [.long 1649317774848]) (st := []) b (c_X12_takes S h_a_4_7 h_a_1_7 h_a_4_6 h_a_1_6 h_a_3_6 h_a_3_2 h_a_2_2 h_a_0_2 h_a_4_3 h_a_1_3 h_a_4_5 h_a_1_5 h_a_3_5 h_a_3_7 h_a_2_1 h_a_0_1 h_a_4_2 h_a_1_2 h_a_4_1 h_a_1_1 h_a_3_1 h_a_3_3 h_a_2_0 h_a_0_0 h_i_0) cf_X12_takes (mw_0 cy a S) rfl wm_X12_174 wi_X12_takes ws_X12_takes dX12_kin_35 rfl (Nat.le_of_ble_eq_true rfl) ⟨by decide, by decide, by decide, by decide⟩) (fun u2433 h2431 => ?_)
  obtain rfl := h2431
  refine z_iload_n b dX12_kin_38 rfl rfl ?_
  refine z_iconst (v := 1) b dX12_kin_39 (by decide) ?_
  refine z_icmp_ne_t (tgt := 58) b dX12_kin_40 (by decide) (by decide) ?_
  refine z_aload_n b dX12_kin_58 rfl rfl ?_
  refine z_get (q0 := 0) (k9 := 3) (v := .ref (a 4)) b (mw_0 cy a S) rfl in_X12 (by decide) wf_X12_23 rfl dX12_kin_59 ?_
  refine z_iconst (v := 3) b dX12_kin_62 (by decide) ?_
  refine z_iload_n b dX12_kin_63 rfl rfl ?_
  refine z_imul (v := 3) b dX12_kin_64 (by decide) ?_
  refine z_iload_n b dX12_kin_65 rfl rfl ?_
  refine z_iadd (v := 3) b dX12_kin_66 (by decide) ?_
  refine z_iload b dX12_kin_67 rfl ?_
  refine y_zast (q0 := 4) (j := 3) b (mw_4 cy a S) (by decide) (by decide) dX12_kin_69 ((mwa_4 cy a S 3 0).trans (congrArg (mw cy a) (su_same h_a_3_3))) ?_
  refine z_aload_n b dX12_kin_70 rfl rfl ?_
  refine z_get (q0 := 0) (k9 := 3) (v := .ref (a 4)) b (mw_0 cy a S) rfl in_X12 (by decide) wf_X12_23 rfl dX12_kin_71 ?_
  refine z_iconst (v := 3) b dX12_kin_74 (by decide) ?_
  refine z_iload_n b dX12_kin_75 rfl rfl ?_
  refine z_imul (v := 0) b dX12_kin_76 (by decide) ?_
  refine z_iload_n b dX12_kin_77 rfl rfl ?_
  refine z_iadd (v := 1) b dX12_kin_78 (by decide) ?_
  refine z_iload b dX12_kin_79 rfl ?_
  refine y_zast (q0 := 4) (j := 1) b (mw_4 cy a S) (by decide) (by decide) dX12_kin_81 ((mwa_4 cy a S 1 0).trans (congrArg (mw cy a) (su_same h_a_3_1))) ?_
  refine z_aload_n b dX12_kin_82 rfl rfl ?_
  refine z_calli b (z_runV (q0 := 0) (As := []) (st := []) b (c_X12_told_14 S h_i_0 h_a_0_0 h_a_2_0 h_a_3_1 h_a_1_1 h_a_4_1 h_a_1_2 h_a_4_2 h_a_0_1 h_a_2_1 h_a_3_5 h_a_1_5 h_a_4_5 h_a_1_3 h_a_4_3 h_a_0_2 h_a_2_2 h_a_3_6 h_a_1_6 h_a_4_6 h_a_1_7 h_a_4_7 h_l_0) cf_X12_told (mw_0 cy a S) rfl wm_X12_178 wi_X12_told ws_X12_told dX12_kin_83 rfl (Nat.le_of_ble_eq_true rfl) ⟨by decide, by decide, by decide, by decide⟩) (fun r2435 u2436 h2434 => ?_)
  obtain ⟨rfl, rfl⟩ := h2434
  exact z_zret (u := S) b rfl (by decide) dX12_kin_86 ⟨rfl, rfl⟩ rfl (by decide) (by decide)

set_option maxHeartbeats 4000000 in
set_option maxRecDepth 100000 in
theorem c_X11_kin_42 {l : Launch} {D : va_G} {cy : Nat → ClassId} {T0 tB tE : Nat} {a : Nat → Nat} {rw : Nat → Option Nat} (S : GS)  (h_i_24 : fi S 24 = 0) : Ct l D cy T0 tB tE yX11_kin cX11_kin 6 (some .boolean) 2 41 0 0 (cw cy tE a rw S) [.ref (a 0), .int 1, .int 0, .int 0, .int 1] (QI D (U := GS) (fun r u => 1 = r ∧ (su (su S 4 23 1) 4 21 1) = u) (cw cy tE a rw)) := by
  refine Ct.ofZ RX11 "kin" [(0, .ref (a 0)), (1, .int 1), (2, .int 0), (3, .int 0), (4, .int 1)] rfl rfl rfl rfl (Nat.le_of_ble_eq_true rfl) ?_
  intro p e R s m args below meth c A b
  refine z_iload_n b dX11_kin_0 rfl rfl ?_
  refine z_iload_n b dX11_kin_1 rfl rfl ?_
  refine z_calli b (z_runS (As := [.int 1, .int 0]) (st := []) b (c_X11_arePair_14 S ) cf_X11_arePair wm_X11_84 ws_X11_arePair dX11_kin_2 rfl (Nat.le_of_ble_eq_true rfl) ⟨by decide, by decide, by decide, by decide⟩) (fun r2438 u2439 h2437 => ?_)
  obtain ⟨rfl, rfl⟩ := h2437
  refine z_if_eq_f (tgt := 16) b dX11_kin_5 (by decide) (by decide) ?_
  refine z_iload_n b dX11_kin_8 rfl rfl ?_
  refine z_iconst (v := 1) b dX11_kin_9 (by decide) ?_
  refine z_calli b (z_runS (As := [.int 0, .int 1]) (st := []) b (c_X11_isWithin_11 S ) cf_X11_isWithin wm_X11_73 ws_X11_isWithin dX11_kin_10 rfl (Nat.le_of_ble_eq_true rfl) ⟨by decide, by decide, by decide, by decide⟩) (fun r2441 u2442 h2440 => ?_)
  obtain ⟨rfl, rfl⟩ := h2440
  refine z_if_ne_t (tgt := 18) b dX11_kin_13 (by decide) (by decide) ?_
  refine z_iload b dX11_kin_18 rfl ?_
  refine z_if_eq_f (tgt := 27) b dX11_kin_20 (by decide) (by decide) ?_
  refine z_iconst (v := 1) b dX11_kin_23 (by decide) ?_
  refine z_goto (tgt := 28) b dX11_kin_24 (by decide) ?_
  refine z_istore (lv' := [(5, .int 1), (0, .ref (a 0)), (1, .int 1), (2, .int 0), (3, .int 0), (4, .int 1)]) b dX11_kin_28 (by decide) rfl ?_
  refine z_iload_n b dX11_kin_30 rfl rfl ?_
  refine z_if_ne_f (tgt := 71) b dX11_kin_31 (by decide) (by decide) ?_
  refine z_aload_n b dX11_kin_34 rfl rfl ?_
  refine z_get (q0 := 0) (k9 := 4) (v := .ref (a 14)) b (cw_0 cy tE a rw S) rfl in_X11 (by decide) wf_X11_34 rfl dX11_kin_35 ?_
  refine z_bipush (v := 20) b dX11_kin_38 (by decide) ?_
  refine z_iconst (v := 3) b dX11_kin_40 (by decide) ?_
  refine z_iload_n b dX11_kin_41 rfl rfl ?_
  refine z_imul (v := 3) b dX11_kin_42 (by decide) ?_
  refine z_iadd (v := 23) b dX11_kin_43 (by decide) ?_
  refine z_iload_n b dX11_kin_44 rfl rfl ?_
  refine z_iadd (v := 23) b dX11_kin_45 (by decide) ?_
  refine z_iload b dX11_kin_46 rfl ?_
  refine z_callv b (z_runV (q0 := 14) (As := [.int 23, .int 1]) (st := []) b (c_X9_set_17 S ) cf_X9_set (cw_14 cy tE a rw S) rfl wm_X11_77 wi_X9_set ws_X9_set dX11_kin_48 rfl (Nat.le_of_ble_eq_true rfl) ⟨by decide, by decide, by decide, by decide⟩) (fun u2445 h2443 => ?_)
  obtain rfl := h2443
  refine z_aload_n b dX11_kin_51 rfl rfl ?_
  refine z_get (q0 := 0) (k9 := 4) (v := .ref (a 14)) b (cw_0 cy tE a rw (su S 4 23 1)) rfl in_X11 (by decide) wf_X11_34 rfl dX11_kin_52 ?_
  refine z_bipush (v := 20) b dX11_kin_55 (by decide) ?_
  refine z_iconst (v := 3) b dX11_kin_57 (by decide) ?_
  refine z_iload_n b dX11_kin_58 rfl rfl ?_
  refine z_imul (v := 0) b dX11_kin_59 (by decide) ?_
  refine z_iadd (v := 20) b dX11_kin_60 (by decide) ?_
  refine z_iload_n b dX11_kin_61 rfl rfl ?_
  refine z_iadd (v := 21) b dX11_kin_62 (by decide) ?_
  refine z_iload b dX11_kin_63 rfl ?_
  refine z_callv b (z_runV (q0 := 14) (As := [.int 21, .int 1]) (st := []) b (c_X9_set_16 (su S 4 23 1) ) cf_X9_set (cw_14 cy tE a rw (su S 4 23 1)) rfl wm_X11_77 wi_X9_set ws_X9_set dX11_kin_65 rfl (Nat.le_of_ble_eq_true rfl) ⟨by decide, by decide, by decide, by decide⟩) (fun u2448 h2446 => ?_)
  obtain rfl := h2446
  refine z_goto (tgt := 88) b dX11_kin_68 (by decide) ?_
  refine z_aload_n b dX11_kin_88 rfl rfl ?_
  refine z_get (q0 := 0) (k9 := 6) (v := .ref (a 25)) b (cw_0 cy tE a rw (su (su S 4 23 1) 4 21 1)) rfl in_X11 (by decide) wf_X11_52 rfl dX11_kin_89 ?_
  refine z_callv b (z_runV (q0 := 25) (As := []) (st := []) b (c_X8_forget (su (su S 4 23 1) 4 21 1) h_i_24) cf_X8_forget (cw_25 cy tE a rw (su (su S 4 23 1) 4 21 1)) rfl wm_X11_81 wi_X8_forget ws_X8_forget dX11_kin_92 rfl (Nat.le_of_ble_eq_true rfl) ⟨by decide, by decide, by decide, by decide⟩) (fun u2451 h2449 => ?_)
  obtain rfl := h2449
  refine z_iconst (v := 1) b dX11_kin_95 (by decide) ?_
  exact z_zret (u := (su (su S 4 23 1) 4 21 1)) b rfl (by decide) dX11_kin_96 ⟨rfl, rfl⟩ rfl (by decide) (by decide)

set_option maxHeartbeats 4000000 in
set_option maxRecDepth 100000 in
theorem c_X12_kin_42 {l : Launch} {D : va_G} {cy : Nat → ClassId} {T0 tB tE : Nat} {a : Nat → Nat} (S : GS)  (h_l_0 : fl S 0 = 1649317774848) (h_a_4_7 : ar S 4 7 = 0) (h_a_1_7 : ar S 1 7 = 0) (h_a_4_6 : ar S 4 6 = 0) (h_a_1_6 : ar S 1 6 = 0) (h_a_3_6 : ar S 3 6 = 0) (h_a_3_2 : ar S 3 2 = 0) (h_a_2_2 : ar S 2 2 = 3) (h_a_0_2 : ar S 0 2 = 0) (h_a_4_3 : ar S 4 3 = 0) (h_a_1_3 : ar S 1 3 = 0) (h_a_4_5 : ar S 4 5 = 0) (h_a_1_5 : ar S 1 5 = 0) (h_a_3_5 : ar S 3 5 = 0) (h_a_3_7 : ar S 3 7 = 0) (h_a_2_1 : ar S 2 1 = 3) (h_a_0_1 : ar S 0 1 = 0) (h_a_4_2 : ar S 4 2 = 0) (h_a_1_2 : ar S 1 2 = 0) (h_a_4_1 : ar S 4 1 = 0) (h_a_1_1 : ar S 1 1 = 0) (h_a_3_1 : ar S 3 1 = 0) (h_a_3_3 : ar S 3 3 = 0) (h_a_2_0 : ar S 2 0 = 3) (h_a_0_0 : ar S 0 0 = 0) (h_i_0 : fi S 0 = 0) : Ct l D cy T0 tB tE yX12_kin cX12_kin 5 (some .boolean) 3 65 0 0 (mw cy a S) [.ref (a 0), .int 1, .int 0, .int 0, .int 1] (QI D (U := GS) (fun r u => 1 = r ∧ sl (su (su S 3 3 1) 3 1 1) 0 1924195681792 = u) (mw cy a)) := by
  refine Ct.ofZ RX12 "kin" [(0, .ref (a 0)), (1, .int 1), (2, .int 0), (3, .int 0), (4, .int 1)] rfl rfl rfl rfl (Nat.le_of_ble_eq_true rfl) ?_
  intro p e R s m args below meth c A b
  refine z_iload_n b dX12_kin_0 rfl rfl ?_
  refine z_calli b (z_runS (As := [.int 1]) (st := []) b (c_X12_isOne_4 S ) cf_X12_isOne wm_X12_170 ws_X12_isOne dX12_kin_1 rfl (Nat.le_of_ble_eq_true rfl) ⟨by decide, by decide, by decide, by decide⟩) (fun r2453 u2454 h2452 => ?_)
  obtain ⟨rfl, rfl⟩ := h2452
  refine z_if_eq_f (tgt := 28) b dX12_kin_4 (by decide) (by decide) ?_
  refine z_iload_n b dX12_kin_7 rfl rfl ?_
  refine z_calli b (z_runS (As := [.int 0]) (st := []) b (c_X12_isOne_3 S ) cf_X12_isOne wm_X12_170 ws_X12_isOne dX12_kin_8 rfl (Nat.le_of_ble_eq_true rfl) ⟨by decide, by decide, by decide, by decide⟩) (fun r2456 u2457 h2455 => ?_)
  obtain ⟨rfl, rfl⟩ := h2455
  refine z_if_eq_f (tgt := 28) b dX12_kin_11 (by decide) (by decide) ?_
  refine z_iload_n b dX12_kin_14 rfl rfl ?_
  refine z_iload_n b dX12_kin_15 rfl rfl ?_
  refine z_icmp_eq_f (tgt := 28) b dX12_kin_16 (by decide) (by decide) ?_
  refine z_iload_n b dX12_kin_19 rfl rfl ?_
  refine z_iconst (v := 0) b dX12_kin_20 (by decide) ?_
  refine z_iconst (v := 1) b dX12_kin_21 (by decide) ?_
  refine z_calli b (z_runS (As := [.int 0, .int 0, .int 1]) (st := []) b (c_X12_isIn_16 S ) cf_X12_isIn wm_X12_1 ws_X12_isIn dX12_kin_22 rfl (Nat.le_of_ble_eq_true rfl) ⟨by decide, by decide, by decide, by decide⟩) (fun r2459 u2460 h2458 => ?_)
  obtain ⟨rfl, rfl⟩ := h2458
  refine z_if_ne_t (tgt := 30) b dX12_kin_25 (by decide) (by decide) ?_
  refine z_aload_n b dX12_kin_30 rfl rfl ?_
  refine z_aload_n b dX12_kin_31 rfl rfl ?_
  refine z_get (q0 := 0) (k9 := 6) (v := .long (fl S 0)) b (mw_0 cy a S) rfl in_X12 (by decide) wf_X12_153 rfl dX12_kin_32 ?_
  refine z_eql h_l_0 ?_
  refine z_callv b (z_runV (q0 := 0) (As := [.long 1649317774848]) (st := []) b (c_X12_takes S h_a_4_7 h_a_1_7 h_a_4_6 h_a_1_6 h_a_3_6 h_a_3_2 h_a_2_2 h_a_0_2 h_a_4_3 h_a_1_3 h_a_4_5 h_a_1_5 h_a_3_5 h_a_3_7 h_a_2_1 h_a_0_1 h_a_4_2 h_a_1_2 h_a_4_1 h_a_1_1 h_a_3_1 h_a_3_3 h_a_2_0 h_a_0_0 h_i_0) cf_X12_takes (mw_0 cy a S) rfl wm_X12_174 wi_X12_takes ws_X12_takes dX12_kin_35 rfl (Nat.le_of_ble_eq_true rfl) ⟨by decide, by decide, by decide, by decide⟩) (fun u2463 h2461 => ?_)
  obtain rfl := h2461
  refine z_iload_n b dX12_kin_38 rfl rfl ?_
  refine z_iconst (v := 1) b dX12_kin_39 (by decide) ?_
  refine z_icmp_ne_t (tgt := 58) b dX12_kin_40 (by decide) (by decide) ?_
  refine z_aload_n b dX12_kin_58 rfl rfl ?_
  refine z_get (q0 := 0) (k9 := 3) (v := .ref (a 4)) b (mw_0 cy a S) rfl in_X12 (by decide) wf_X12_23 rfl dX12_kin_59 ?_
  refine z_iconst (v := 3) b dX12_kin_62 (by decide) ?_
  refine z_iload_n b dX12_kin_63 rfl rfl ?_
  refine z_imul (v := 3) b dX12_kin_64 (by decide) ?_
  refine z_iload_n b dX12_kin_65 rfl rfl ?_
  refine z_iadd (v := 3) b dX12_kin_66 (by decide) ?_
  refine z_iload b dX12_kin_67 rfl ?_
  refine y_zast (q0 := 4) (j := 3) b (mw_4 cy a S) (by decide) (by decide) dX12_kin_69 (mwa_4 cy a S 3 1) ?_
  refine z_aload_n b dX12_kin_70 rfl rfl ?_
  refine z_get (q0 := 0) (k9 := 3) (v := .ref (a 4)) b (mw_0 cy a (su S 3 3 1)) rfl in_X12 (by decide) wf_X12_23 rfl dX12_kin_71 ?_
  refine z_iconst (v := 3) b dX12_kin_74 (by decide) ?_
  refine z_iload_n b dX12_kin_75 rfl rfl ?_
  refine z_imul (v := 0) b dX12_kin_76 (by decide) ?_
  refine z_iload_n b dX12_kin_77 rfl rfl ?_
  refine z_iadd (v := 1) b dX12_kin_78 (by decide) ?_
  refine z_iload b dX12_kin_79 rfl ?_
  refine y_zast (q0 := 4) (j := 1) b (mw_4 cy a (su S 3 3 1)) (by decide) (by decide) dX12_kin_81 (mwa_4 cy a (su S 3 3 1) 1 1) ?_
  refine z_aload_n b dX12_kin_82 rfl rfl ?_
  refine z_calli b (z_runV (q0 := 0) (As := []) (st := []) b (c_X12_told_15 (su (su S 3 3 1) 3 1 1) h_i_0 h_a_0_0 h_a_2_0 rfl h_a_1_1 h_a_4_1 h_a_1_2 h_a_4_2 h_a_0_1 h_a_2_1 h_a_3_5 h_a_1_5 h_a_4_5 h_a_1_3 h_a_4_3 h_a_0_2 h_a_2_2 h_a_3_6 h_a_1_6 h_a_4_6 h_a_1_7 h_a_4_7) cf_X12_told (mw_0 cy a (su (su S 3 3 1) 3 1 1)) rfl wm_X12_178 wi_X12_told ws_X12_told dX12_kin_83 rfl (Nat.le_of_ble_eq_true rfl) ⟨by decide, by decide, by decide, by decide⟩) (fun r2465 u2466 h2464 => ?_)
  obtain ⟨rfl, rfl⟩ := h2464
  exact z_zret (u := (sl (su (su S 3 3 1) 3 1 1) 0 1924195681792)) b rfl (by decide) dX12_kin_86 ⟨rfl, rfl⟩ rfl (by decide) (by decide)

set_option maxHeartbeats 4000000 in
set_option maxRecDepth 100000 in
theorem c_X9_set_26 {l : Launch} {D : va_G} {cy : Nat → ClassId} {T0 tB tE : Nat} {a : Nat → Nat} {rw : Nat → Option Nat} (S : GS)  (h_a_4_33 : ar S 4 33 = 0) : Ct l D cy T0 tB tE yX9_set cX9_set 3 none 0 0 0 0 (cw cy tE a rw S) [.ref (a 14), .int 33, .int 0] (QV D (U := GS) (fun u => S = u) (cw cy tE a rw)) := by
  refine Ct.ofZ RX9 "set" [(0, .ref (a 14)), (1, .int 33), (2, .int 0)] rfl rfl rfl rfl (Nat.le_of_ble_eq_true rfl) ?_
  intro p e R s m args below meth c A b
  refine z_iload_n b dX9_set_0 rfl rfl ?_
  refine z_if_lt_f (tgt := 20) b dX9_set_1 (by decide) (by decide) ?_
  refine z_iload_n b dX9_set_4 rfl rfl ?_
  refine z_aload_n b dX9_set_5 rfl rfl ?_
  refine z_get (q0 := 14) (k9 := 0) (v := .ref (a 15)) b (cw_14 cy tE a rw S) rfl in_X9 (by decide) wf_X9_11 rfl dX9_set_6 ?_
  refine z_alen (q0 := 15) (t0 := 0) (v := 51) b (cw_15 cy tE a rw S) rfl rfl dX9_set_9 ?_
  refine z_icmp_ge_f (tgt := 20) b dX9_set_10 (by decide) (by decide) ?_
  refine z_aload_n b dX9_set_13 rfl rfl ?_
  refine z_get (q0 := 14) (k9 := 0) (v := .ref (a 15)) b (cw_14 cy tE a rw S) rfl in_X9 (by decide) wf_X9_11 rfl dX9_set_14 ?_
  refine z_iload_n b dX9_set_17 rfl rfl ?_
  refine z_iload_n b dX9_set_18 rfl rfl ?_
  refine y_iast (q0 := 15) (j := 33) b (cw_15 cy tE a rw S) (by decide) dX9_set_19 ((cwa_15 cy tE a rw S 33 0).trans (congrArg (cw cy tE a rw) (su_same h_a_4_33))) ?_
  exact z_vret (u := S) b rfl dX9_set_20 rfl rfl (by decide) (by decide)

set_option maxHeartbeats 4000000 in
set_option maxRecDepth 100000 in
theorem c_X11_kin_43 {l : Launch} {D : va_G} {cy : Nat → ClassId} {T0 tB tE : Nat} {a : Nat → Nat} {rw : Nat → Option Nat} (S : GS)  (h_a_4_33 : ar S 4 33 = 0) (h_i_24 : fi S 24 = 0) : Ct l D cy T0 tB tE yX11_kin cX11_kin 6 (some .boolean) 2 41 0 0 (cw cy tE a rw S) [.ref (a 0), .int 1, .int 0, .int 1, .int 0] (QI D (U := GS) (fun r u => 1 = r ∧ S = u) (cw cy tE a rw)) := by
  refine Ct.ofZ RX11 "kin" [(0, .ref (a 0)), (1, .int 1), (2, .int 0), (3, .int 1), (4, .int 0)] rfl rfl rfl rfl (Nat.le_of_ble_eq_true rfl) ?_
  intro p e R s m args below meth c A b
  refine z_iload_n b dX11_kin_0 rfl rfl ?_
  refine z_iload_n b dX11_kin_1 rfl rfl ?_
  refine z_calli b (z_runS (As := [.int 1, .int 0]) (st := []) b (c_X11_arePair_14 S ) cf_X11_arePair wm_X11_84 ws_X11_arePair dX11_kin_2 rfl (Nat.le_of_ble_eq_true rfl) ⟨by decide, by decide, by decide, by decide⟩) (fun r2468 u2469 h2467 => ?_)
  obtain ⟨rfl, rfl⟩ := h2467
  refine z_if_eq_f (tgt := 16) b dX11_kin_5 (by decide) (by decide) ?_
  refine z_iload_n b dX11_kin_8 rfl rfl ?_
  refine z_iconst (v := 1) b dX11_kin_9 (by decide) ?_
  refine z_calli b (z_runS (As := [.int 1, .int 1]) (st := []) b (c_X11_isWithin_12 S ) cf_X11_isWithin wm_X11_73 ws_X11_isWithin dX11_kin_10 rfl (Nat.le_of_ble_eq_true rfl) ⟨by decide, by decide, by decide, by decide⟩) (fun r2471 u2472 h2470 => ?_)
  obtain ⟨rfl, rfl⟩ := h2470
  refine z_if_ne_t (tgt := 18) b dX11_kin_13 (by decide) (by decide) ?_
  refine z_iload b dX11_kin_18 rfl ?_
  refine z_if_eq_t (tgt := 27) b dX11_kin_20 (by decide) (by decide) ?_
  refine z_iconst (v := 0) b dX11_kin_27 (by decide) ?_
  refine z_istore (lv' := [(5, .int 0), (0, .ref (a 0)), (1, .int 1), (2, .int 0), (3, .int 1), (4, .int 0)]) b dX11_kin_28 (by decide) rfl ?_
  refine z_iload_n b dX11_kin_30 rfl rfl ?_
  refine z_if_ne_t (tgt := 71) b dX11_kin_31 (by decide) (by decide) ?_
  refine z_aload_n b dX11_kin_71 rfl rfl ?_
  refine z_get (q0 := 0) (k9 := 4) (v := .ref (a 14)) b (cw_0 cy tE a rw S) rfl in_X11 (by decide) wf_X11_34 rfl dX11_kin_72 ?_
  refine z_bipush (v := 30) b dX11_kin_75 (by decide) ?_
  refine z_iconst (v := 3) b dX11_kin_77 (by decide) ?_
  refine z_iload_n b dX11_kin_78 rfl rfl ?_
  refine z_imul (v := 3) b dX11_kin_79 (by decide) ?_
  refine z_iadd (v := 33) b dX11_kin_80 (by decide) ?_
  refine z_iload_n b dX11_kin_81 rfl rfl ?_
  refine z_iadd (v := 33) b dX11_kin_82 (by decide) ?_
  refine z_iload b dX11_kin_83 rfl ?_
  refine z_callv b (z_runV (q0 := 14) (As := [.int 33, .int 0]) (st := []) b (c_X9_set_26 S h_a_4_33) cf_X9_set (cw_14 cy tE a rw S) rfl wm_X11_77 wi_X9_set ws_X9_set dX11_kin_85 rfl (Nat.le_of_ble_eq_true rfl) ⟨by decide, by decide, by decide, by decide⟩) (fun u2475 h2473 => ?_)
  obtain rfl := h2473
  refine z_aload_n b dX11_kin_88 rfl rfl ?_
  refine z_get (q0 := 0) (k9 := 6) (v := .ref (a 25)) b (cw_0 cy tE a rw S) rfl in_X11 (by decide) wf_X11_52 rfl dX11_kin_89 ?_
  refine z_callv b (z_runV (q0 := 25) (As := []) (st := []) b (c_X8_forget S h_i_24) cf_X8_forget (cw_25 cy tE a rw S) rfl wm_X11_81 wi_X8_forget ws_X8_forget dX11_kin_92 rfl (Nat.le_of_ble_eq_true rfl) ⟨by decide, by decide, by decide, by decide⟩) (fun u2478 h2476 => ?_)
  obtain rfl := h2476
  refine z_iconst (v := 1) b dX11_kin_95 (by decide) ?_
  exact z_zret (u := S) b rfl (by decide) dX11_kin_96 ⟨rfl, rfl⟩ rfl (by decide) (by decide)

set_option maxHeartbeats 4000000 in
set_option maxRecDepth 100000 in
theorem c_X12_kin_43 {l : Launch} {D : va_G} {cy : Nat → ClassId} {T0 tB tE : Nat} {a : Nat → Nat} (S : GS)  (h_l_0 : fl S 0 = 1649317774848) (h_a_4_7 : ar S 4 7 = 0) (h_a_1_7 : ar S 1 7 = 0) (h_a_4_6 : ar S 4 6 = 0) (h_a_1_6 : ar S 1 6 = 0) (h_a_3_6 : ar S 3 6 = 0) (h_a_3_2 : ar S 3 2 = 0) (h_a_2_2 : ar S 2 2 = 3) (h_a_0_2 : ar S 0 2 = 0) (h_a_4_3 : ar S 4 3 = 0) (h_a_1_3 : ar S 1 3 = 0) (h_a_4_5 : ar S 4 5 = 0) (h_a_1_5 : ar S 1 5 = 0) (h_a_3_5 : ar S 3 5 = 0) (h_a_3_7 : ar S 3 7 = 0) (h_a_2_1 : ar S 2 1 = 3) (h_a_0_1 : ar S 0 1 = 0) (h_a_4_2 : ar S 4 2 = 0) (h_a_1_2 : ar S 1 2 = 0) (h_a_4_1 : ar S 4 1 = 0) (h_a_1_1 : ar S 1 1 = 0) (h_a_3_1 : ar S 3 1 = 0) (h_a_3_3 : ar S 3 3 = 0) (h_a_2_0 : ar S 2 0 = 3) (h_a_0_0 : ar S 0 0 = 0) (h_i_0 : fi S 0 = 0) : Ct l D cy T0 tB tE yX12_kin cX12_kin 5 (some .boolean) 3 65 0 0 (mw cy a S) [.ref (a 0), .int 1, .int 0, .int 1, .int 0] (QI D (U := GS) (fun r u => 1 = r ∧ S = u) (mw cy a)) := by
  refine Ct.ofZ RX12 "kin" [(0, .ref (a 0)), (1, .int 1), (2, .int 0), (3, .int 1), (4, .int 0)] rfl rfl rfl rfl (Nat.le_of_ble_eq_true rfl) ?_
  intro p e R s m args below meth c A b
  refine z_iload_n b dX12_kin_0 rfl rfl ?_
  refine z_calli b (z_runS (As := [.int 1]) (st := []) b (c_X12_isOne_4 S ) cf_X12_isOne wm_X12_170 ws_X12_isOne dX12_kin_1 rfl (Nat.le_of_ble_eq_true rfl) ⟨by decide, by decide, by decide, by decide⟩) (fun r2480 u2481 h2479 => ?_)
  obtain ⟨rfl, rfl⟩ := h2479
  refine z_if_eq_f (tgt := 28) b dX12_kin_4 (by decide) (by decide) ?_
  refine z_iload_n b dX12_kin_7 rfl rfl ?_
  refine z_calli b (z_runS (As := [.int 0]) (st := []) b (c_X12_isOne_3 S ) cf_X12_isOne wm_X12_170 ws_X12_isOne dX12_kin_8 rfl (Nat.le_of_ble_eq_true rfl) ⟨by decide, by decide, by decide, by decide⟩) (fun r2483 u2484 h2482 => ?_)
  obtain ⟨rfl, rfl⟩ := h2482
  refine z_if_eq_f (tgt := 28) b dX12_kin_11 (by decide) (by decide) ?_
  refine z_iload_n b dX12_kin_14 rfl rfl ?_
  refine z_iload_n b dX12_kin_15 rfl rfl ?_
  refine z_icmp_eq_f (tgt := 28) b dX12_kin_16 (by decide) (by decide) ?_
  refine z_iload_n b dX12_kin_19 rfl rfl ?_
  refine z_iconst (v := 0) b dX12_kin_20 (by decide) ?_
  refine z_iconst (v := 1) b dX12_kin_21 (by decide) ?_
  refine z_calli b (z_runS (As := [.int 1, .int 0, .int 1]) (st := []) b (c_X12_isIn_17 S ) cf_X12_isIn wm_X12_1 ws_X12_isIn dX12_kin_22 rfl (Nat.le_of_ble_eq_true rfl) ⟨by decide, by decide, by decide, by decide⟩) (fun r2486 u2487 h2485 => ?_)
  obtain ⟨rfl, rfl⟩ := h2485
  refine z_if_ne_t (tgt := 30) b dX12_kin_25 (by decide) (by decide) ?_
  refine z_aload_n b dX12_kin_30 rfl rfl ?_
  refine z_aload_n b dX12_kin_31 rfl rfl ?_
  refine z_get (q0 := 0) (k9 := 6) (v := .long (fl S 0)) b (mw_0 cy a S) rfl in_X12 (by decide) wf_X12_153 rfl dX12_kin_32 ?_
  refine z_eql h_l_0 ?_
  refine z_callv b (z_runV (q0 := 0) (As := [.long 1649317774848]) (st := []) b (c_X12_takes S h_a_4_7 h_a_1_7 h_a_4_6 h_a_1_6 h_a_3_6 h_a_3_2 h_a_2_2 h_a_0_2 h_a_4_3 h_a_1_3 h_a_4_5 h_a_1_5 h_a_3_5 h_a_3_7 h_a_2_1 h_a_0_1 h_a_4_2 h_a_1_2 h_a_4_1 h_a_1_1 h_a_3_1 h_a_3_3 h_a_2_0 h_a_0_0 h_i_0) cf_X12_takes (mw_0 cy a S) rfl wm_X12_174 wi_X12_takes ws_X12_takes dX12_kin_35 rfl (Nat.le_of_ble_eq_true rfl) ⟨by decide, by decide, by decide, by decide⟩) (fun u2490 h2488 => ?_)
  obtain rfl := h2488
  refine z_iload_n b dX12_kin_38 rfl rfl ?_
  refine z_iconst (v := 1) b dX12_kin_39 (by decide) ?_
  refine z_icmp_ne_f (tgt := 58) b dX12_kin_40 (by decide) (by decide) ?_
  refine z_aload_n b dX12_kin_43 rfl rfl ?_
  refine z_get (q0 := 0) (k9 := 4) (v := .ref (a 5)) b (mw_0 cy a S) rfl in_X12 (by decide) wf_X12_27 rfl dX12_kin_44 ?_
  refine z_iconst (v := 3) b dX12_kin_47 (by decide) ?_
  refine z_iload_n b dX12_kin_48 rfl rfl ?_
  refine z_imul (v := 3) b dX12_kin_49 (by decide) ?_
  refine z_iload_n b dX12_kin_50 rfl rfl ?_
  refine z_iadd (v := 3) b dX12_kin_51 (by decide) ?_
  refine z_iload b dX12_kin_52 rfl ?_
  refine y_zast (q0 := 5) (j := 3) b (mw_5 cy a S) (by decide) (by decide) dX12_kin_54 ((mwa_5 cy a S 3 0).trans (congrArg (mw cy a) (su_same h_a_4_3))) ?_
  refine z_goto (tgt := 82) b dX12_kin_55 (by decide) ?_
  refine z_aload_n b dX12_kin_82 rfl rfl ?_
  refine z_calli b (z_runV (q0 := 0) (As := []) (st := []) b (c_X12_told_14 S h_i_0 h_a_0_0 h_a_2_0 h_a_3_1 h_a_1_1 h_a_4_1 h_a_1_2 h_a_4_2 h_a_0_1 h_a_2_1 h_a_3_5 h_a_1_5 h_a_4_5 h_a_1_3 h_a_4_3 h_a_0_2 h_a_2_2 h_a_3_6 h_a_1_6 h_a_4_6 h_a_1_7 h_a_4_7 h_l_0) cf_X12_told (mw_0 cy a S) rfl wm_X12_178 wi_X12_told ws_X12_told dX12_kin_83 rfl (Nat.le_of_ble_eq_true rfl) ⟨by decide, by decide, by decide, by decide⟩) (fun r2492 u2493 h2491 => ?_)
  obtain ⟨rfl, rfl⟩ := h2491
  exact z_zret (u := S) b rfl (by decide) dX12_kin_86 ⟨rfl, rfl⟩ rfl (by decide) (by decide)

set_option maxHeartbeats 4000000 in
set_option maxRecDepth 100000 in
theorem c_X9_set_27 {l : Launch} {D : va_G} {cy : Nat → ClassId} {T0 tB tE : Nat} {a : Nat → Nat} {rw : Nat → Option Nat} (S : GS)   : Ct l D cy T0 tB tE yX9_set cX9_set 3 none 0 0 0 0 (cw cy tE a rw S) [.ref (a 14), .int 33, .int 1] (QV D (U := GS) (fun u => su S 4 33 1 = u) (cw cy tE a rw)) := by
  refine Ct.ofZ RX9 "set" [(0, .ref (a 14)), (1, .int 33), (2, .int 1)] rfl rfl rfl rfl (Nat.le_of_ble_eq_true rfl) ?_
  intro p e R s m args below meth c A b
  refine z_iload_n b dX9_set_0 rfl rfl ?_
  refine z_if_lt_f (tgt := 20) b dX9_set_1 (by decide) (by decide) ?_
  refine z_iload_n b dX9_set_4 rfl rfl ?_
  refine z_aload_n b dX9_set_5 rfl rfl ?_
  refine z_get (q0 := 14) (k9 := 0) (v := .ref (a 15)) b (cw_14 cy tE a rw S) rfl in_X9 (by decide) wf_X9_11 rfl dX9_set_6 ?_
  refine z_alen (q0 := 15) (t0 := 0) (v := 51) b (cw_15 cy tE a rw S) rfl rfl dX9_set_9 ?_
  refine z_icmp_ge_f (tgt := 20) b dX9_set_10 (by decide) (by decide) ?_
  refine z_aload_n b dX9_set_13 rfl rfl ?_
  refine z_get (q0 := 14) (k9 := 0) (v := .ref (a 15)) b (cw_14 cy tE a rw S) rfl in_X9 (by decide) wf_X9_11 rfl dX9_set_14 ?_
  refine z_iload_n b dX9_set_17 rfl rfl ?_
  refine z_iload_n b dX9_set_18 rfl rfl ?_
  refine y_iast (q0 := 15) (j := 33) b (cw_15 cy tE a rw S) (by decide) dX9_set_19 (cwa_15 cy tE a rw S 33 1) ?_
  exact z_vret (u := (su S 4 33 1)) b rfl dX9_set_20 rfl rfl (by decide) (by decide)

set_option maxHeartbeats 4000000 in
set_option maxRecDepth 100000 in
theorem c_X11_kin_44 {l : Launch} {D : va_G} {cy : Nat → ClassId} {T0 tB tE : Nat} {a : Nat → Nat} {rw : Nat → Option Nat} (S : GS)  (h_i_24 : fi S 24 = 0) : Ct l D cy T0 tB tE yX11_kin cX11_kin 6 (some .boolean) 2 41 0 0 (cw cy tE a rw S) [.ref (a 0), .int 1, .int 0, .int 1, .int 1] (QI D (U := GS) (fun r u => 1 = r ∧ (su S 4 33 1) = u) (cw cy tE a rw)) := by
  refine Ct.ofZ RX11 "kin" [(0, .ref (a 0)), (1, .int 1), (2, .int 0), (3, .int 1), (4, .int 1)] rfl rfl rfl rfl (Nat.le_of_ble_eq_true rfl) ?_
  intro p e R s m args below meth c A b
  refine z_iload_n b dX11_kin_0 rfl rfl ?_
  refine z_iload_n b dX11_kin_1 rfl rfl ?_
  refine z_calli b (z_runS (As := [.int 1, .int 0]) (st := []) b (c_X11_arePair_14 S ) cf_X11_arePair wm_X11_84 ws_X11_arePair dX11_kin_2 rfl (Nat.le_of_ble_eq_true rfl) ⟨by decide, by decide, by decide, by decide⟩) (fun r2495 u2496 h2494 => ?_)
  obtain ⟨rfl, rfl⟩ := h2494
  refine z_if_eq_f (tgt := 16) b dX11_kin_5 (by decide) (by decide) ?_
  refine z_iload_n b dX11_kin_8 rfl rfl ?_
  refine z_iconst (v := 1) b dX11_kin_9 (by decide) ?_
  refine z_calli b (z_runS (As := [.int 1, .int 1]) (st := []) b (c_X11_isWithin_12 S ) cf_X11_isWithin wm_X11_73 ws_X11_isWithin dX11_kin_10 rfl (Nat.le_of_ble_eq_true rfl) ⟨by decide, by decide, by decide, by decide⟩) (fun r2498 u2499 h2497 => ?_)
  obtain ⟨rfl, rfl⟩ := h2497
  refine z_if_ne_t (tgt := 18) b dX11_kin_13 (by decide) (by decide) ?_
  refine z_iload b dX11_kin_18 rfl ?_
  refine z_if_eq_f (tgt := 27) b dX11_kin_20 (by decide) (by decide) ?_
  refine z_iconst (v := 1) b dX11_kin_23 (by decide) ?_
  refine z_goto (tgt := 28) b dX11_kin_24 (by decide) ?_
  refine z_istore (lv' := [(5, .int 1), (0, .ref (a 0)), (1, .int 1), (2, .int 0), (3, .int 1), (4, .int 1)]) b dX11_kin_28 (by decide) rfl ?_
  refine z_iload_n b dX11_kin_30 rfl rfl ?_
  refine z_if_ne_t (tgt := 71) b dX11_kin_31 (by decide) (by decide) ?_
  refine z_aload_n b dX11_kin_71 rfl rfl ?_
  refine z_get (q0 := 0) (k9 := 4) (v := .ref (a 14)) b (cw_0 cy tE a rw S) rfl in_X11 (by decide) wf_X11_34 rfl dX11_kin_72 ?_
  refine z_bipush (v := 30) b dX11_kin_75 (by decide) ?_
  refine z_iconst (v := 3) b dX11_kin_77 (by decide) ?_
  refine z_iload_n b dX11_kin_78 rfl rfl ?_
  refine z_imul (v := 3) b dX11_kin_79 (by decide) ?_
  refine z_iadd (v := 33) b dX11_kin_80 (by decide) ?_
  refine z_iload_n b dX11_kin_81 rfl rfl ?_
  refine z_iadd (v := 33) b dX11_kin_82 (by decide) ?_
  refine z_iload b dX11_kin_83 rfl ?_
  refine z_callv b (z_runV (q0 := 14) (As := [.int 33, .int 1]) (st := []) b (c_X9_set_27 S ) cf_X9_set (cw_14 cy tE a rw S) rfl wm_X11_77 wi_X9_set ws_X9_set dX11_kin_85 rfl (Nat.le_of_ble_eq_true rfl) ⟨by decide, by decide, by decide, by decide⟩) (fun u2502 h2500 => ?_)
  obtain rfl := h2500
  refine z_aload_n b dX11_kin_88 rfl rfl ?_
  refine z_get (q0 := 0) (k9 := 6) (v := .ref (a 25)) b (cw_0 cy tE a rw (su S 4 33 1)) rfl in_X11 (by decide) wf_X11_52 rfl dX11_kin_89 ?_
  refine z_callv b (z_runV (q0 := 25) (As := []) (st := []) b (c_X8_forget (su S 4 33 1) h_i_24) cf_X8_forget (cw_25 cy tE a rw (su S 4 33 1)) rfl wm_X11_81 wi_X8_forget ws_X8_forget dX11_kin_92 rfl (Nat.le_of_ble_eq_true rfl) ⟨by decide, by decide, by decide, by decide⟩) (fun u2505 h2503 => ?_)
  obtain rfl := h2503
  refine z_iconst (v := 1) b dX11_kin_95 (by decide) ?_
  exact z_zret (u := (su S 4 33 1)) b rfl (by decide) dX11_kin_96 ⟨rfl, rfl⟩ rfl (by decide) (by decide)

set_option maxHeartbeats 4000000 in
set_option maxRecDepth 100000 in
theorem ch_X12_packs_40 {p : Program} {l : Launch} {e : Env} {R : Room} {s : State} {m : MethodId} {args : Array Value} {below : List Frame} {meth : Method} {c : Code} {D : va_G} {cy : Nat → ClassId} {T0 tB tE : Nat} {A : Nat → Prop} {Q : State → Prop} {a : Nat → Nat} (S : GS)  (h_a_0_0 : ar S 0 0 = 0) (h_a_1_1 : ar S 1 1 = 0) (h_a_1_2 : ar S 1 2 = 0) (h_a_2_0 : ar S 2 0 = 3) (h_a_3_1 : ar S 3 1 = 0) (h_a_4_1 : ar S 4 1 = 0) (h_a_4_2 : ar S 4 2 = 0) (h_i_0 : fi S 0 = 0) (b : Bz p R s m args meth c D cy T0 tB tE A 5 cX12_packs RX12 (some .long) "packs" 1 21 0 0) (k : Z p l e R s m args below meth c D A 5 Q 0 0 (mw cy a S) [(3, .int 1), (4, .int 2), (1, .long 1536), (0, .ref (a 0))] 21 [.int 1, .ref (a 1), .long 24576]) : Z p l e R s m args below meth c D A 5 Q 0 0 (mw cy a S) [(0, .ref (a 0))] 0 [] := by
  refine z_aload_n b dX12_packs_0 rfl rfl ?_
  refine z_get (q0 := 0) (k9 := 5) (v := .int (fi S 0)) b (mw_0 cy a S) rfl in_X12 (by decide) wf_X12_157 rfl dX12_packs_1 ?_
  refine z_eqi h_i_0 ?_
  refine z_i2l (v := 0) b dX12_packs_4 (by decide) ?_
  refine z_lstore_n (lv' := [(1, .long 0), (0, .ref (a 0))]) b dX12_packs_5 rfl (by decide) rfl ?_
  refine z_iconst (v := 0) b dX12_packs_6 (by decide) ?_
  refine z_istore_n (lv' := [(3, .int 0), (1, .long 0), (0, .ref (a 0))]) b dX12_packs_7 rfl (by decide) rfl ?_
  refine z_iload_n b dX12_packs_8 rfl rfl ?_
  refine z_iconst (v := 3) b dX12_packs_9 (by decide) ?_
  refine z_icmp_ge_f (tgt := 134) b dX12_packs_10 (by decide) (by decide) ?_
  refine z_lload_n b dX12_packs_13 rfl rfl ?_
  refine z_iconst (v := 4) b dX12_packs_14 (by decide) ?_
  refine z_lshl (v := 0) b dX12_packs_15 (by decide) ?_
  refine z_aload_n b dX12_packs_16 rfl rfl ?_
  refine z_get (q0 := 0) (k9 := 0) (v := .ref (a 1)) b (mw_0 cy a S) rfl in_X12 (by decide) wf_X12_13 rfl dX12_packs_17 ?_
  refine z_iload_n b dX12_packs_20 rfl rfl ?_
  refine y_iald (q0 := 1) (j := 0) (v := (ar S 0 0)) b (mw_1 cy a S) (by decide) rfl dX12_packs_21 ?_
  refine z_eqi h_a_0_0 ?_
  refine z_i2l (v := 0) b dX12_packs_22 (by decide) ?_
  refine z_lor (v := 0) b dX12_packs_23 (by decide) ?_
  refine z_lstore_n (lv' := [(1, .long 0), (3, .int 0), (0, .ref (a 0))]) b dX12_packs_24 rfl (by decide) rfl ?_
  refine z_lload_n b dX12_packs_25 rfl rfl ?_
  refine z_iconst (v := 2) b dX12_packs_26 (by decide) ?_
  refine z_lshl (v := 0) b dX12_packs_27 (by decide) ?_
  refine z_aload_n b dX12_packs_28 rfl rfl ?_
  refine z_get (q0 := 0) (k9 := 2) (v := .ref (a 3)) b (mw_0 cy a S) rfl in_X12 (by decide) wf_X12_20 rfl dX12_packs_29 ?_
  refine z_iload_n b dX12_packs_32 rfl rfl ?_
  refine y_iald (q0 := 3) (j := 0) (v := (ar S 2 0)) b (mw_3 cy a S) (by decide) rfl dX12_packs_33 ?_
  refine z_eqi h_a_2_0 ?_
  refine z_i2l (v := 3) b dX12_packs_34 (by decide) ?_
  refine z_lor (v := 3) b dX12_packs_35 (by decide) ?_
  refine z_lstore_n (lv' := [(1, .long 3), (3, .int 0), (0, .ref (a 0))]) b dX12_packs_36 rfl (by decide) rfl ?_
  refine z_lload_n b dX12_packs_37 rfl rfl ?_
  refine z_iconst (v := 1) b dX12_packs_38 (by decide) ?_
  refine z_lshl (v := 6) b dX12_packs_39 (by decide) ?_
  refine z_aload_n b dX12_packs_40 rfl rfl ?_
  refine z_get (q0 := 0) (k9 := 3) (v := .ref (a 4)) b (mw_0 cy a S) rfl in_X12 (by decide) wf_X12_23 rfl dX12_packs_41 ?_
  refine z_iconst (v := 3) b dX12_packs_44 (by decide) ?_
  refine z_iload_n b dX12_packs_45 rfl rfl ?_
  refine z_imul (v := 0) b dX12_packs_46 (by decide) ?_
  refine z_iload_n b dX12_packs_47 rfl rfl ?_
  refine z_iconst (v := 0) b dX12_packs_48 (by decide) ?_
  refine z_calli b (z_runS (As := [.int 0, .int 0]) (st := [.int 0, .ref (a 4), .long 6]) b (c_X12_other_6 S ) cf_X12_other wm_X12_160 ws_X12_other dX12_packs_49 rfl (Nat.le_of_ble_eq_true rfl) ⟨by decide, by decide, by decide, by decide⟩) (fun r2519 u2520 h2518 => ?_)
  obtain ⟨rfl, rfl⟩ := h2518
  refine z_iadd (v := 1) b dX12_packs_52 (by decide) ?_
  refine y_zald (q0 := 4) (j := 1) (v := (ar S 3 1)) b (mw_4 cy a S) (by decide) rfl dX12_packs_53 ?_
  refine z_eqi h_a_3_1 ?_
  refine z_if_eq_t (tgt := 61) b dX12_packs_54 (by decide) (by decide) ?_
  refine z_lconst (v := 0) b dX12_packs_61 (by decide) ?_
  refine z_lor (v := 6) b dX12_packs_62 (by decide) ?_
  refine z_lstore_n (lv' := [(1, .long 6), (3, .int 0), (0, .ref (a 0))]) b dX12_packs_63 rfl (by decide) rfl ?_
  refine z_iconst (v := 0) b dX12_packs_64 (by decide) ?_
  refine z_istore (lv' := [(4, .int 0), (1, .long 6), (3, .int 0), (0, .ref (a 0))]) b dX12_packs_65 (by decide) rfl ?_
  refine z_iload b dX12_packs_67 rfl ?_
  refine z_iconst (v := 2) b dX12_packs_69 (by decide) ?_
  refine z_icmp_ge_f (tgt := 128) b dX12_packs_70 (by decide) (by decide) ?_
  refine z_lload_n b dX12_packs_73 rfl rfl ?_
  refine z_iconst (v := 3) b dX12_packs_74 (by decide) ?_
  refine z_lshl (v := 48) b dX12_packs_75 (by decide) ?_
  refine z_aload_n b dX12_packs_76 rfl rfl ?_
  refine z_get (q0 := 0) (k9 := 1) (v := .ref (a 2)) b (mw_0 cy a S) rfl in_X12 (by decide) wf_X12_17 rfl dX12_packs_77 ?_
  refine z_iconst (v := 3) b dX12_packs_80 (by decide) ?_
  refine z_iload_n b dX12_packs_81 rfl rfl ?_
  refine z_imul (v := 0) b dX12_packs_82 (by decide) ?_
  refine z_iload_n b dX12_packs_83 rfl rfl ?_
  refine z_iload b dX12_packs_84 rfl ?_
  refine z_calli b (z_runS (As := [.int 0, .int 0]) (st := [.int 0, .ref (a 2), .long 48]) b (c_X12_other_6 S ) cf_X12_other wm_X12_160 ws_X12_other dX12_packs_86 rfl (Nat.le_of_ble_eq_true rfl) ⟨by decide, by decide, by decide, by decide⟩) (fun r2522 u2523 h2521 => ?_)
  obtain ⟨rfl, rfl⟩ := h2521
  refine z_iadd (v := 1) b dX12_packs_89 (by decide) ?_
  refine y_iald (q0 := 2) (j := 1) (v := (ar S 1 1)) b (mw_2 cy a S) (by decide) rfl dX12_packs_90 ?_
  refine z_eqi h_a_1_1 ?_
  refine z_i2l (v := 0) b dX12_packs_91 (by decide) ?_
  refine z_lor (v := 48) b dX12_packs_92 (by decide) ?_
  refine z_lstore_n (lv' := [(1, .long 48), (4, .int 0), (3, .int 0), (0, .ref (a 0))]) b dX12_packs_93 rfl (by decide) rfl ?_
  refine z_lload_n b dX12_packs_94 rfl rfl ?_
  refine z_iconst (v := 1) b dX12_packs_95 (by decide) ?_
  refine z_lshl (v := 96) b dX12_packs_96 (by decide) ?_
  refine z_aload_n b dX12_packs_97 rfl rfl ?_
  refine z_get (q0 := 0) (k9 := 4) (v := .ref (a 5)) b (mw_0 cy a S) rfl in_X12 (by decide) wf_X12_27 rfl dX12_packs_98 ?_
  refine z_iconst (v := 3) b dX12_packs_101 (by decide) ?_
  refine z_iload_n b dX12_packs_102 rfl rfl ?_
  refine z_imul (v := 0) b dX12_packs_103 (by decide) ?_
  refine z_iload_n b dX12_packs_104 rfl rfl ?_
  refine z_iload b dX12_packs_105 rfl ?_
  refine z_calli b (z_runS (As := [.int 0, .int 0]) (st := [.int 0, .ref (a 5), .long 96]) b (c_X12_other_6 S ) cf_X12_other wm_X12_160 ws_X12_other dX12_packs_107 rfl (Nat.le_of_ble_eq_true rfl) ⟨by decide, by decide, by decide, by decide⟩) (fun r2525 u2526 h2524 => ?_)
  obtain ⟨rfl, rfl⟩ := h2524
  refine z_iadd (v := 1) b dX12_packs_110 (by decide) ?_
  refine y_zald (q0 := 5) (j := 1) (v := (ar S 4 1)) b (mw_5 cy a S) (by decide) rfl dX12_packs_111 ?_
  refine z_eqi h_a_4_1 ?_
  refine z_if_eq_t (tgt := 119) b dX12_packs_112 (by decide) (by decide) ?_
  refine z_lconst (v := 0) b dX12_packs_119 (by decide) ?_
  refine z_lor (v := 96) b dX12_packs_120 (by decide) ?_
  refine z_lstore_n (lv' := [(1, .long 96), (4, .int 0), (3, .int 0), (0, .ref (a 0))]) b dX12_packs_121 rfl (by decide) rfl ?_
  refine z_iinc (k9 := 1) (v := 1) (lv' := [(4, .int 1), (1, .long 96), (3, .int 0), (0, .ref (a 0))]) b dX12_packs_122 rfl (by decide) (by decide) rfl ?_
  refine z_goto (tgt := 67) b dX12_packs_125 (by decide) ?_
  refine z_iload b dX12_packs_67 rfl ?_
  refine z_iconst (v := 2) b dX12_packs_69 (by decide) ?_
  refine z_icmp_ge_f (tgt := 128) b dX12_packs_70 (by decide) (by decide) ?_
  refine z_lload_n b dX12_packs_73 rfl rfl ?_
  refine z_iconst (v := 3) b dX12_packs_74 (by decide) ?_
  refine z_lshl (v := 768) b dX12_packs_75 (by decide) ?_
  refine z_aload_n b dX12_packs_76 rfl rfl ?_
  refine z_get (q0 := 0) (k9 := 1) (v := .ref (a 2)) b (mw_0 cy a S) rfl in_X12 (by decide) wf_X12_17 rfl dX12_packs_77 ?_
  refine z_iconst (v := 3) b dX12_packs_80 (by decide) ?_
  refine z_iload_n b dX12_packs_81 rfl rfl ?_
  refine z_imul (v := 0) b dX12_packs_82 (by decide) ?_
  refine z_iload_n b dX12_packs_83 rfl rfl ?_
  refine z_iload b dX12_packs_84 rfl ?_
  refine z_calli b (z_runS (As := [.int 0, .int 1]) (st := [.int 0, .ref (a 2), .long 768]) b (c_X12_other_5 S ) cf_X12_other wm_X12_160 ws_X12_other dX12_packs_86 rfl (Nat.le_of_ble_eq_true rfl) ⟨by decide, by decide, by decide, by decide⟩) (fun r2528 u2529 h2527 => ?_)
  obtain ⟨rfl, rfl⟩ := h2527
  refine z_iadd (v := 2) b dX12_packs_89 (by decide) ?_
  refine y_iald (q0 := 2) (j := 2) (v := (ar S 1 2)) b (mw_2 cy a S) (by decide) rfl dX12_packs_90 ?_
  refine z_eqi h_a_1_2 ?_
  refine z_i2l (v := 0) b dX12_packs_91 (by decide) ?_
  refine z_lor (v := 768) b dX12_packs_92 (by decide) ?_
  refine z_lstore_n (lv' := [(1, .long 768), (4, .int 1), (3, .int 0), (0, .ref (a 0))]) b dX12_packs_93 rfl (by decide) rfl ?_
  refine z_lload_n b dX12_packs_94 rfl rfl ?_
  refine z_iconst (v := 1) b dX12_packs_95 (by decide) ?_
  refine z_lshl (v := 1536) b dX12_packs_96 (by decide) ?_
  refine z_aload_n b dX12_packs_97 rfl rfl ?_
  refine z_get (q0 := 0) (k9 := 4) (v := .ref (a 5)) b (mw_0 cy a S) rfl in_X12 (by decide) wf_X12_27 rfl dX12_packs_98 ?_
  refine z_iconst (v := 3) b dX12_packs_101 (by decide) ?_
  refine z_iload_n b dX12_packs_102 rfl rfl ?_
  refine z_imul (v := 0) b dX12_packs_103 (by decide) ?_
  refine z_iload_n b dX12_packs_104 rfl rfl ?_
  refine z_iload b dX12_packs_105 rfl ?_
  refine z_calli b (z_runS (As := [.int 0, .int 1]) (st := [.int 0, .ref (a 5), .long 1536]) b (c_X12_other_5 S ) cf_X12_other wm_X12_160 ws_X12_other dX12_packs_107 rfl (Nat.le_of_ble_eq_true rfl) ⟨by decide, by decide, by decide, by decide⟩) (fun r2531 u2532 h2530 => ?_)
  obtain ⟨rfl, rfl⟩ := h2530
  refine z_iadd (v := 2) b dX12_packs_110 (by decide) ?_
  refine y_zald (q0 := 5) (j := 2) (v := (ar S 4 2)) b (mw_5 cy a S) (by decide) rfl dX12_packs_111 ?_
  refine z_eqi h_a_4_2 ?_
  refine z_if_eq_t (tgt := 119) b dX12_packs_112 (by decide) (by decide) ?_
  refine z_lconst (v := 0) b dX12_packs_119 (by decide) ?_
  refine z_lor (v := 1536) b dX12_packs_120 (by decide) ?_
  refine z_lstore_n (lv' := [(1, .long 1536), (4, .int 1), (3, .int 0), (0, .ref (a 0))]) b dX12_packs_121 rfl (by decide) rfl ?_
  refine z_iinc (k9 := 1) (v := 2) (lv' := [(4, .int 2), (1, .long 1536), (3, .int 0), (0, .ref (a 0))]) b dX12_packs_122 rfl (by decide) (by decide) rfl ?_
  refine z_goto (tgt := 67) b dX12_packs_125 (by decide) ?_
  refine z_iload b dX12_packs_67 rfl ?_
  refine z_iconst (v := 2) b dX12_packs_69 (by decide) ?_
  refine z_icmp_ge_t (tgt := 128) b dX12_packs_70 (by decide) (by decide) ?_
  refine z_iinc (k9 := 2) (v := 1) (lv' := [(3, .int 1), (4, .int 2), (1, .long 1536), (0, .ref (a 0))]) b dX12_packs_128 rfl (by decide) (by decide) rfl ?_
  refine z_goto (tgt := 8) b dX12_packs_131 (by decide) ?_
  refine z_iload_n b dX12_packs_8 rfl rfl ?_
  refine z_iconst (v := 3) b dX12_packs_9 (by decide) ?_
  refine z_icmp_ge_f (tgt := 134) b dX12_packs_10 (by decide) (by decide) ?_
  refine z_lload_n b dX12_packs_13 rfl rfl ?_
  refine z_iconst (v := 4) b dX12_packs_14 (by decide) ?_
  refine z_lshl (v := 24576) b dX12_packs_15 (by decide) ?_
  refine z_aload_n b dX12_packs_16 rfl rfl ?_
  refine z_get (q0 := 0) (k9 := 0) (v := .ref (a 1)) b (mw_0 cy a S) rfl in_X12 (by decide) wf_X12_13 rfl dX12_packs_17 ?_
  refine z_iload_n b dX12_packs_20 rfl rfl ?_
  exact k

set_option maxHeartbeats 4000000 in
set_option maxRecDepth 100000 in
theorem ch_X12_packs_41 {p : Program} {l : Launch} {e : Env} {R : Room} {s : State} {m : MethodId} {args : Array Value} {below : List Frame} {meth : Method} {c : Code} {D : va_G} {cy : Nat → ClassId} {T0 tB tE : Nat} {A : Nat → Prop} {Q : State → Prop} {a : Nat → Nat} (S : GS)  (h_a_0_1 : ar S 0 1 = 0) (h_a_0_2 : ar S 0 2 = 0) (h_a_1_3 : ar S 1 3 = 0) (h_a_1_5 : ar S 1 5 = 0) (h_a_2_1 : ar S 2 1 = 3) (h_a_2_2 : ar S 2 2 = 3) (h_a_3_5 : ar S 3 5 = 0) (h_a_4_3 : ar S 4 3 = 1) (h_a_4_5 : ar S 4 5 = 0) (b : Bz p R s m args meth c D cy T0 tB tE A 5 cX12_packs RX12 (some .long) "packs" 1 21 0 0) (k : Z p l e R s m args below meth c D A 5 Q 0 0 (mw cy a S) [(1, .long 805330960), (3, .int 2), (4, .int 2), (0, .ref (a 0))] 36 [.long 3221323843]) : Z p l e R s m args below meth c D A 5 Q 0 0 (mw cy a S) [(3, .int 1), (4, .int 2), (1, .long 1536), (0, .ref (a 0))] 21 [.int 1, .ref (a 1), .long 24576] := by
  refine y_iald (q0 := 1) (j := 1) (v := (ar S 0 1)) b (mw_1 cy a S) (by decide) rfl dX12_packs_21 ?_
  refine z_eqi h_a_0_1 ?_
  refine z_i2l (v := 0) b dX12_packs_22 (by decide) ?_
  refine z_lor (v := 24576) b dX12_packs_23 (by decide) ?_
  refine z_lstore_n (lv' := [(1, .long 24576), (3, .int 1), (4, .int 2), (0, .ref (a 0))]) b dX12_packs_24 rfl (by decide) rfl ?_
  refine z_lload_n b dX12_packs_25 rfl rfl ?_
  refine z_iconst (v := 2) b dX12_packs_26 (by decide) ?_
  refine z_lshl (v := 98304) b dX12_packs_27 (by decide) ?_
  refine z_aload_n b dX12_packs_28 rfl rfl ?_
  refine z_get (q0 := 0) (k9 := 2) (v := .ref (a 3)) b (mw_0 cy a S) rfl in_X12 (by decide) wf_X12_20 rfl dX12_packs_29 ?_
  refine z_iload_n b dX12_packs_32 rfl rfl ?_
  refine y_iald (q0 := 3) (j := 1) (v := (ar S 2 1)) b (mw_3 cy a S) (by decide) rfl dX12_packs_33 ?_
  refine z_eqi h_a_2_1 ?_
  refine z_i2l (v := 3) b dX12_packs_34 (by decide) ?_
  refine z_lor (v := 98307) b dX12_packs_35 (by decide) ?_
  refine z_lstore_n (lv' := [(1, .long 98307), (3, .int 1), (4, .int 2), (0, .ref (a 0))]) b dX12_packs_36 rfl (by decide) rfl ?_
  refine z_lload_n b dX12_packs_37 rfl rfl ?_
  refine z_iconst (v := 1) b dX12_packs_38 (by decide) ?_
  refine z_lshl (v := 196614) b dX12_packs_39 (by decide) ?_
  refine z_aload_n b dX12_packs_40 rfl rfl ?_
  refine z_get (q0 := 0) (k9 := 3) (v := .ref (a 4)) b (mw_0 cy a S) rfl in_X12 (by decide) wf_X12_23 rfl dX12_packs_41 ?_
  refine z_iconst (v := 3) b dX12_packs_44 (by decide) ?_
  refine z_iload_n b dX12_packs_45 rfl rfl ?_
  refine z_imul (v := 3) b dX12_packs_46 (by decide) ?_
  refine z_iload_n b dX12_packs_47 rfl rfl ?_
  refine z_iconst (v := 0) b dX12_packs_48 (by decide) ?_
  refine z_calli b (z_runS (As := [.int 1, .int 0]) (st := [.int 3, .ref (a 4), .long 196614]) b (c_X12_other_4 S ) cf_X12_other wm_X12_160 ws_X12_other dX12_packs_49 rfl (Nat.le_of_ble_eq_true rfl) ⟨by decide, by decide, by decide, by decide⟩) (fun r2534 u2535 h2533 => ?_)
  obtain ⟨rfl, rfl⟩ := h2533
  refine z_iadd (v := 5) b dX12_packs_52 (by decide) ?_
  refine y_zald (q0 := 4) (j := 5) (v := (ar S 3 5)) b (mw_4 cy a S) (by decide) rfl dX12_packs_53 ?_
  refine z_eqi h_a_3_5 ?_
  refine z_if_eq_t (tgt := 61) b dX12_packs_54 (by decide) (by decide) ?_
  refine z_lconst (v := 0) b dX12_packs_61 (by decide) ?_
  refine z_lor (v := 196614) b dX12_packs_62 (by decide) ?_
  refine z_lstore_n (lv' := [(1, .long 196614), (3, .int 1), (4, .int 2), (0, .ref (a 0))]) b dX12_packs_63 rfl (by decide) rfl ?_
  refine z_iconst (v := 0) b dX12_packs_64 (by decide) ?_
  refine z_istore (lv' := [(4, .int 0), (1, .long 196614), (3, .int 1), (0, .ref (a 0))]) b dX12_packs_65 (by decide) rfl ?_
  refine z_iload b dX12_packs_67 rfl ?_
  refine z_iconst (v := 2) b dX12_packs_69 (by decide) ?_
  refine z_icmp_ge_f (tgt := 128) b dX12_packs_70 (by decide) (by decide) ?_
  refine z_lload_n b dX12_packs_73 rfl rfl ?_
  refine z_iconst (v := 3) b dX12_packs_74 (by decide) ?_
  refine z_lshl (v := 1572912) b dX12_packs_75 (by decide) ?_
  refine z_aload_n b dX12_packs_76 rfl rfl ?_
  refine z_get (q0 := 0) (k9 := 1) (v := .ref (a 2)) b (mw_0 cy a S) rfl in_X12 (by decide) wf_X12_17 rfl dX12_packs_77 ?_
  refine z_iconst (v := 3) b dX12_packs_80 (by decide) ?_
  refine z_iload_n b dX12_packs_81 rfl rfl ?_
  refine z_imul (v := 3) b dX12_packs_82 (by decide) ?_
  refine z_iload_n b dX12_packs_83 rfl rfl ?_
  refine z_iload b dX12_packs_84 rfl ?_
  refine z_calli b (z_runS (As := [.int 1, .int 0]) (st := [.int 3, .ref (a 2), .long 1572912]) b (c_X12_other_4 S ) cf_X12_other wm_X12_160 ws_X12_other dX12_packs_86 rfl (Nat.le_of_ble_eq_true rfl) ⟨by decide, by decide, by decide, by decide⟩) (fun r2537 u2538 h2536 => ?_)
  obtain ⟨rfl, rfl⟩ := h2536
  refine z_iadd (v := 5) b dX12_packs_89 (by decide) ?_
  refine y_iald (q0 := 2) (j := 5) (v := (ar S 1 5)) b (mw_2 cy a S) (by decide) rfl dX12_packs_90 ?_
  refine z_eqi h_a_1_5 ?_
  refine z_i2l (v := 0) b dX12_packs_91 (by decide) ?_
  refine z_lor (v := 1572912) b dX12_packs_92 (by decide) ?_
  refine z_lstore_n (lv' := [(1, .long 1572912), (4, .int 0), (3, .int 1), (0, .ref (a 0))]) b dX12_packs_93 rfl (by decide) rfl ?_
  refine z_lload_n b dX12_packs_94 rfl rfl ?_
  refine z_iconst (v := 1) b dX12_packs_95 (by decide) ?_
  refine z_lshl (v := 3145824) b dX12_packs_96 (by decide) ?_
  refine z_aload_n b dX12_packs_97 rfl rfl ?_
  refine z_get (q0 := 0) (k9 := 4) (v := .ref (a 5)) b (mw_0 cy a S) rfl in_X12 (by decide) wf_X12_27 rfl dX12_packs_98 ?_
  refine z_iconst (v := 3) b dX12_packs_101 (by decide) ?_
  refine z_iload_n b dX12_packs_102 rfl rfl ?_
  refine z_imul (v := 3) b dX12_packs_103 (by decide) ?_
  refine z_iload_n b dX12_packs_104 rfl rfl ?_
  refine z_iload b dX12_packs_105 rfl ?_
  refine z_calli b (z_runS (As := [.int 1, .int 0]) (st := [.int 3, .ref (a 5), .long 3145824]) b (c_X12_other_4 S ) cf_X12_other wm_X12_160 ws_X12_other dX12_packs_107 rfl (Nat.le_of_ble_eq_true rfl) ⟨by decide, by decide, by decide, by decide⟩) (fun r2540 u2541 h2539 => ?_)
  obtain ⟨rfl, rfl⟩ := h2539
  refine z_iadd (v := 5) b dX12_packs_110 (by decide) ?_
  refine y_zald (q0 := 5) (j := 5) (v := (ar S 4 5)) b (mw_5 cy a S) (by decide) rfl dX12_packs_111 ?_
  refine z_eqi h_a_4_5 ?_
  refine z_if_eq_t (tgt := 119) b dX12_packs_112 (by decide) (by decide) ?_
  refine z_lconst (v := 0) b dX12_packs_119 (by decide) ?_
  refine z_lor (v := 3145824) b dX12_packs_120 (by decide) ?_
  refine z_lstore_n (lv' := [(1, .long 3145824), (4, .int 0), (3, .int 1), (0, .ref (a 0))]) b dX12_packs_121 rfl (by decide) rfl ?_
  refine z_iinc (k9 := 1) (v := 1) (lv' := [(4, .int 1), (1, .long 3145824), (3, .int 1), (0, .ref (a 0))]) b dX12_packs_122 rfl (by decide) (by decide) rfl ?_
  refine z_goto (tgt := 67) b dX12_packs_125 (by decide) ?_
  refine z_iload b dX12_packs_67 rfl ?_
  refine z_iconst (v := 2) b dX12_packs_69 (by decide) ?_
  refine z_icmp_ge_f (tgt := 128) b dX12_packs_70 (by decide) (by decide) ?_
  refine z_lload_n b dX12_packs_73 rfl rfl ?_
  refine z_iconst (v := 3) b dX12_packs_74 (by decide) ?_
  refine z_lshl (v := 25166592) b dX12_packs_75 (by decide) ?_
  refine z_aload_n b dX12_packs_76 rfl rfl ?_
  refine z_get (q0 := 0) (k9 := 1) (v := .ref (a 2)) b (mw_0 cy a S) rfl in_X12 (by decide) wf_X12_17 rfl dX12_packs_77 ?_
  refine z_iconst (v := 3) b dX12_packs_80 (by decide) ?_
  refine z_iload_n b dX12_packs_81 rfl rfl ?_
  refine z_imul (v := 3) b dX12_packs_82 (by decide) ?_
  refine z_iload_n b dX12_packs_83 rfl rfl ?_
  refine z_iload b dX12_packs_84 rfl ?_
  refine z_calli b (z_runS (As := [.int 1, .int 1]) (st := [.int 3, .ref (a 2), .long 25166592]) b (c_X12_other_3 S ) cf_X12_other wm_X12_160 ws_X12_other dX12_packs_86 rfl (Nat.le_of_ble_eq_true rfl) ⟨by decide, by decide, by decide, by decide⟩) (fun r2543 u2544 h2542 => ?_)
  obtain ⟨rfl, rfl⟩ := h2542
  refine z_iadd (v := 3) b dX12_packs_89 (by decide) ?_
  refine y_iald (q0 := 2) (j := 3) (v := (ar S 1 3)) b (mw_2 cy a S) (by decide) rfl dX12_packs_90 ?_
  refine z_eqi h_a_1_3 ?_
  refine z_i2l (v := 0) b dX12_packs_91 (by decide) ?_
  refine z_lor (v := 25166592) b dX12_packs_92 (by decide) ?_
  refine z_lstore_n (lv' := [(1, .long 25166592), (4, .int 1), (3, .int 1), (0, .ref (a 0))]) b dX12_packs_93 rfl (by decide) rfl ?_
  refine z_lload_n b dX12_packs_94 rfl rfl ?_
  refine z_iconst (v := 1) b dX12_packs_95 (by decide) ?_
  refine z_lshl (v := 50333184) b dX12_packs_96 (by decide) ?_
  refine z_aload_n b dX12_packs_97 rfl rfl ?_
  refine z_get (q0 := 0) (k9 := 4) (v := .ref (a 5)) b (mw_0 cy a S) rfl in_X12 (by decide) wf_X12_27 rfl dX12_packs_98 ?_
  refine z_iconst (v := 3) b dX12_packs_101 (by decide) ?_
  refine z_iload_n b dX12_packs_102 rfl rfl ?_
  refine z_imul (v := 3) b dX12_packs_103 (by decide) ?_
  refine z_iload_n b dX12_packs_104 rfl rfl ?_
  refine z_iload b dX12_packs_105 rfl ?_
  refine z_calli b (z_runS (As := [.int 1, .int 1]) (st := [.int 3, .ref (a 5), .long 50333184]) b (c_X12_other_3 S ) cf_X12_other wm_X12_160 ws_X12_other dX12_packs_107 rfl (Nat.le_of_ble_eq_true rfl) ⟨by decide, by decide, by decide, by decide⟩) (fun r2546 u2547 h2545 => ?_)
  obtain ⟨rfl, rfl⟩ := h2545
  refine z_iadd (v := 3) b dX12_packs_110 (by decide) ?_
  refine y_zald (q0 := 5) (j := 3) (v := (ar S 4 3)) b (mw_5 cy a S) (by decide) rfl dX12_packs_111 ?_
  refine z_eqi h_a_4_3 ?_
  refine z_if_eq_f (tgt := 119) b dX12_packs_112 (by decide) (by decide) ?_
  refine z_lconst (v := 1) b dX12_packs_115 (by decide) ?_
  refine z_goto (tgt := 120) b dX12_packs_116 (by decide) ?_
  refine z_lor (v := 50333185) b dX12_packs_120 (by decide) ?_
  refine z_lstore_n (lv' := [(1, .long 50333185), (4, .int 1), (3, .int 1), (0, .ref (a 0))]) b dX12_packs_121 rfl (by decide) rfl ?_
  refine z_iinc (k9 := 1) (v := 2) (lv' := [(4, .int 2), (1, .long 50333185), (3, .int 1), (0, .ref (a 0))]) b dX12_packs_122 rfl (by decide) (by decide) rfl ?_
  refine z_goto (tgt := 67) b dX12_packs_125 (by decide) ?_
  refine z_iload b dX12_packs_67 rfl ?_
  refine z_iconst (v := 2) b dX12_packs_69 (by decide) ?_
  refine z_icmp_ge_t (tgt := 128) b dX12_packs_70 (by decide) (by decide) ?_
  refine z_iinc (k9 := 2) (v := 2) (lv' := [(3, .int 2), (4, .int 2), (1, .long 50333185), (0, .ref (a 0))]) b dX12_packs_128 rfl (by decide) (by decide) rfl ?_
  refine z_goto (tgt := 8) b dX12_packs_131 (by decide) ?_
  refine z_iload_n b dX12_packs_8 rfl rfl ?_
  refine z_iconst (v := 3) b dX12_packs_9 (by decide) ?_
  refine z_icmp_ge_f (tgt := 134) b dX12_packs_10 (by decide) (by decide) ?_
  refine z_lload_n b dX12_packs_13 rfl rfl ?_
  refine z_iconst (v := 4) b dX12_packs_14 (by decide) ?_
  refine z_lshl (v := 805330960) b dX12_packs_15 (by decide) ?_
  refine z_aload_n b dX12_packs_16 rfl rfl ?_
  refine z_get (q0 := 0) (k9 := 0) (v := .ref (a 1)) b (mw_0 cy a S) rfl in_X12 (by decide) wf_X12_13 rfl dX12_packs_17 ?_
  refine z_iload_n b dX12_packs_20 rfl rfl ?_
  refine y_iald (q0 := 1) (j := 2) (v := (ar S 0 2)) b (mw_1 cy a S) (by decide) rfl dX12_packs_21 ?_
  refine z_eqi h_a_0_2 ?_
  refine z_i2l (v := 0) b dX12_packs_22 (by decide) ?_
  refine z_lor (v := 805330960) b dX12_packs_23 (by decide) ?_
  refine z_lstore_n (lv' := [(1, .long 805330960), (3, .int 2), (4, .int 2), (0, .ref (a 0))]) b dX12_packs_24 rfl (by decide) rfl ?_
  refine z_lload_n b dX12_packs_25 rfl rfl ?_
  refine z_iconst (v := 2) b dX12_packs_26 (by decide) ?_
  refine z_lshl (v := 3221323840) b dX12_packs_27 (by decide) ?_
  refine z_aload_n b dX12_packs_28 rfl rfl ?_
  refine z_get (q0 := 0) (k9 := 2) (v := .ref (a 3)) b (mw_0 cy a S) rfl in_X12 (by decide) wf_X12_20 rfl dX12_packs_29 ?_
  refine z_iload_n b dX12_packs_32 rfl rfl ?_
  refine y_iald (q0 := 3) (j := 2) (v := (ar S 2 2)) b (mw_3 cy a S) (by decide) rfl dX12_packs_33 ?_
  refine z_eqi h_a_2_2 ?_
  refine z_i2l (v := 3) b dX12_packs_34 (by decide) ?_
  refine z_lor (v := 3221323843) b dX12_packs_35 (by decide) ?_
  exact k

set_option maxHeartbeats 4000000 in
set_option maxRecDepth 100000 in
theorem c_X12_packs_19 {l : Launch} {D : va_G} {cy : Nat → ClassId} {T0 tB tE : Nat} {a : Nat → Nat} (S : GS)  (h_i_0 : fi S 0 = 0) (h_a_0_0 : ar S 0 0 = 0) (h_a_2_0 : ar S 2 0 = 3) (h_a_3_1 : ar S 3 1 = 0) (h_a_1_1 : ar S 1 1 = 0) (h_a_4_1 : ar S 4 1 = 0) (h_a_1_2 : ar S 1 2 = 0) (h_a_4_2 : ar S 4 2 = 0) (h_a_0_1 : ar S 0 1 = 0) (h_a_2_1 : ar S 2 1 = 3) (h_a_3_5 : ar S 3 5 = 0) (h_a_1_5 : ar S 1 5 = 0) (h_a_4_5 : ar S 4 5 = 0) (h_a_1_3 : ar S 1 3 = 0) (h_a_4_3 : ar S 4 3 = 1) (h_a_0_2 : ar S 0 2 = 0) (h_a_2_2 : ar S 2 2 = 3) (h_a_3_6 : ar S 3 6 = 0) (h_a_1_6 : ar S 1 6 = 0) (h_a_4_6 : ar S 4 6 = 0) (h_a_1_7 : ar S 1 7 = 0) (h_a_4_7 : ar S 4 7 = 0) : Ct l D cy T0 tB tE yX12_packs cX12_packs 5 (some .long) 1 21 0 0 (mw cy a S) [.ref (a 0)] (QL D (U := GS) (fun r u => 1649317807616 = r ∧ S = u) (mw cy a)) := by
  refine Ct.ofZ RX12 "packs" [(0, .ref (a 0))] rfl rfl rfl rfl (Nat.le_of_ble_eq_true rfl) ?_
  intro p e R s m args below meth c A b
  refine ch_X12_packs_40 S  h_a_0_0 h_a_1_1 h_a_1_2 h_a_2_0 h_a_3_1 h_a_4_1 h_a_4_2 h_i_0  b ?_
  refine ch_X12_packs_41 S  h_a_0_1 h_a_0_2 h_a_1_3 h_a_1_5 h_a_2_1 h_a_2_2 h_a_3_5 h_a_4_3 h_a_4_5  b ?_
  refine z_lstore_n (lv' := [(1, .long 3221323843), (3, .int 2), (4, .int 2), (0, .ref (a 0))]) b dX12_packs_36 rfl (by decide) rfl ?_
  refine z_lload_n b dX12_packs_37 rfl rfl ?_
  refine z_iconst (v := 1) b dX12_packs_38 (by decide) ?_
  refine z_lshl (v := 6442647686) b dX12_packs_39 (by decide) ?_
  refine z_aload_n b dX12_packs_40 rfl rfl ?_
  refine z_get (q0 := 0) (k9 := 3) (v := .ref (a 4)) b (mw_0 cy a S) rfl in_X12 (by decide) wf_X12_23 rfl dX12_packs_41 ?_
  refine z_iconst (v := 3) b dX12_packs_44 (by decide) ?_
  refine z_iload_n b dX12_packs_45 rfl rfl ?_
  refine z_imul (v := 6) b dX12_packs_46 (by decide) ?_
  refine z_iload_n b dX12_packs_47 rfl rfl ?_
  refine z_iconst (v := 0) b dX12_packs_48 (by decide) ?_
  refine z_calli b (z_runS (As := [.int 2, .int 0]) (st := [.int 6, .ref (a 4), .long 6442647686]) b (c_X12_other_2 S ) cf_X12_other wm_X12_160 ws_X12_other dX12_packs_49 rfl (Nat.le_of_ble_eq_true rfl) ⟨by decide, by decide, by decide, by decide⟩) (fun r2549 u2550 h2548 => ?_)
  obtain ⟨rfl, rfl⟩ := h2548
  refine z_iadd (v := 6) b dX12_packs_52 (by decide) ?_
  refine y_zald (q0 := 4) (j := 6) (v := (ar S 3 6)) b (mw_4 cy a S) (by decide) rfl dX12_packs_53 ?_
  refine z_eqi h_a_3_6 ?_
  refine z_if_eq_t (tgt := 61) b dX12_packs_54 (by decide) (by decide) ?_
  refine z_lconst (v := 0) b dX12_packs_61 (by decide) ?_
  refine z_lor (v := 6442647686) b dX12_packs_62 (by decide) ?_
  refine z_lstore_n (lv' := [(1, .long 6442647686), (3, .int 2), (4, .int 2), (0, .ref (a 0))]) b dX12_packs_63 rfl (by decide) rfl ?_
  refine z_iconst (v := 0) b dX12_packs_64 (by decide) ?_
  refine z_istore (lv' := [(4, .int 0), (1, .long 6442647686), (3, .int 2), (0, .ref (a 0))]) b dX12_packs_65 (by decide) rfl ?_
  refine z_iload b dX12_packs_67 rfl ?_
  refine z_iconst (v := 2) b dX12_packs_69 (by decide) ?_
  refine z_icmp_ge_f (tgt := 128) b dX12_packs_70 (by decide) (by decide) ?_
  refine z_lload_n b dX12_packs_73 rfl rfl ?_
  refine z_iconst (v := 3) b dX12_packs_74 (by decide) ?_
  refine z_lshl (v := 51541181488) b dX12_packs_75 (by decide) ?_
  refine z_aload_n b dX12_packs_76 rfl rfl ?_
  refine z_get (q0 := 0) (k9 := 1) (v := .ref (a 2)) b (mw_0 cy a S) rfl in_X12 (by decide) wf_X12_17 rfl dX12_packs_77 ?_
  refine z_iconst (v := 3) b dX12_packs_80 (by decide) ?_
  refine z_iload_n b dX12_packs_81 rfl rfl ?_
  refine z_imul (v := 6) b dX12_packs_82 (by decide) ?_
  refine z_iload_n b dX12_packs_83 rfl rfl ?_
  refine z_iload b dX12_packs_84 rfl ?_
  refine z_calli b (z_runS (As := [.int 2, .int 0]) (st := [.int 6, .ref (a 2), .long 51541181488]) b (c_X12_other_2 S ) cf_X12_other wm_X12_160 ws_X12_other dX12_packs_86 rfl (Nat.le_of_ble_eq_true rfl) ⟨by decide, by decide, by decide, by decide⟩) (fun r2552 u2553 h2551 => ?_)
  obtain ⟨rfl, rfl⟩ := h2551
  refine z_iadd (v := 6) b dX12_packs_89 (by decide) ?_
  refine y_iald (q0 := 2) (j := 6) (v := (ar S 1 6)) b (mw_2 cy a S) (by decide) rfl dX12_packs_90 ?_
  refine z_eqi h_a_1_6 ?_
  refine z_i2l (v := 0) b dX12_packs_91 (by decide) ?_
  refine z_lor (v := 51541181488) b dX12_packs_92 (by decide) ?_
  refine z_lstore_n (lv' := [(1, .long 51541181488), (4, .int 0), (3, .int 2), (0, .ref (a 0))]) b dX12_packs_93 rfl (by decide) rfl ?_
  refine z_lload_n b dX12_packs_94 rfl rfl ?_
  refine z_iconst (v := 1) b dX12_packs_95 (by decide) ?_
  refine z_lshl (v := 103082362976) b dX12_packs_96 (by decide) ?_
  refine z_aload_n b dX12_packs_97 rfl rfl ?_
  refine z_get (q0 := 0) (k9 := 4) (v := .ref (a 5)) b (mw_0 cy a S) rfl in_X12 (by decide) wf_X12_27 rfl dX12_packs_98 ?_
  refine z_iconst (v := 3) b dX12_packs_101 (by decide) ?_
  refine z_iload_n b dX12_packs_102 rfl rfl ?_
  refine z_imul (v := 6) b dX12_packs_103 (by decide) ?_
  refine z_iload_n b dX12_packs_104 rfl rfl ?_
  refine z_iload b dX12_packs_105 rfl ?_
  refine z_calli b (z_runS (As := [.int 2, .int 0]) (st := [.int 6, .ref (a 5), .long 103082362976]) b (c_X12_other_2 S ) cf_X12_other wm_X12_160 ws_X12_other dX12_packs_107 rfl (Nat.le_of_ble_eq_true rfl) ⟨by decide, by decide, by decide, by decide⟩) (fun r2555 u2556 h2554 => ?_)
  obtain ⟨rfl, rfl⟩ := h2554
  refine z_iadd (v := 6) b dX12_packs_110 (by decide) ?_
  refine y_zald (q0 := 5) (j := 6) (v := (ar S 4 6)) b (mw_5 cy a S) (by decide) rfl dX12_packs_111 ?_
  refine z_eqi h_a_4_6 ?_
  refine z_if_eq_t (tgt := 119) b dX12_packs_112 (by decide) (by decide) ?_
  refine z_lconst (v := 0) b dX12_packs_119 (by decide) ?_
  refine z_lor (v := 103082362976) b dX12_packs_120 (by decide) ?_
  refine z_lstore_n (lv' := [(1, .long 103082362976), (4, .int 0), (3, .int 2), (0, .ref (a 0))]) b dX12_packs_121 rfl (by decide) rfl ?_
  refine z_iinc (k9 := 1) (v := 1) (lv' := [(4, .int 1), (1, .long 103082362976), (3, .int 2), (0, .ref (a 0))]) b dX12_packs_122 rfl (by decide) (by decide) rfl ?_
  refine z_goto (tgt := 67) b dX12_packs_125 (by decide) ?_
  refine z_iload b dX12_packs_67 rfl ?_
  refine z_iconst (v := 2) b dX12_packs_69 (by decide) ?_
  refine z_icmp_ge_f (tgt := 128) b dX12_packs_70 (by decide) (by decide) ?_
  refine z_lload_n b dX12_packs_73 rfl rfl ?_
  refine z_iconst (v := 3) b dX12_packs_74 (by decide) ?_
  refine z_lshl (v := 824658903808) b dX12_packs_75 (by decide) ?_
  refine z_aload_n b dX12_packs_76 rfl rfl ?_
  refine z_get (q0 := 0) (k9 := 1) (v := .ref (a 2)) b (mw_0 cy a S) rfl in_X12 (by decide) wf_X12_17 rfl dX12_packs_77 ?_
  refine z_iconst (v := 3) b dX12_packs_80 (by decide) ?_
  refine z_iload_n b dX12_packs_81 rfl rfl ?_
  refine z_imul (v := 6) b dX12_packs_82 (by decide) ?_
  refine z_iload_n b dX12_packs_83 rfl rfl ?_
  refine z_iload b dX12_packs_84 rfl ?_
  refine z_calli b (z_runS (As := [.int 2, .int 1]) (st := [.int 6, .ref (a 2), .long 824658903808]) b (c_X12_other S ) cf_X12_other wm_X12_160 ws_X12_other dX12_packs_86 rfl (Nat.le_of_ble_eq_true rfl) ⟨by decide, by decide, by decide, by decide⟩) (fun r2558 u2559 h2557 => ?_)
  obtain ⟨rfl, rfl⟩ := h2557
  refine z_iadd (v := 7) b dX12_packs_89 (by decide) ?_
  refine y_iald (q0 := 2) (j := 7) (v := (ar S 1 7)) b (mw_2 cy a S) (by decide) rfl dX12_packs_90 ?_
  refine z_eqi h_a_1_7 ?_
  refine z_i2l (v := 0) b dX12_packs_91 (by decide) ?_
  refine z_lor (v := 824658903808) b dX12_packs_92 (by decide) ?_
  refine z_lstore_n (lv' := [(1, .long 824658903808), (4, .int 1), (3, .int 2), (0, .ref (a 0))]) b dX12_packs_93 rfl (by decide) rfl ?_
  refine z_lload_n b dX12_packs_94 rfl rfl ?_
  refine z_iconst (v := 1) b dX12_packs_95 (by decide) ?_
  refine z_lshl (v := 1649317807616) b dX12_packs_96 (by decide) ?_
  refine z_aload_n b dX12_packs_97 rfl rfl ?_
  refine z_get (q0 := 0) (k9 := 4) (v := .ref (a 5)) b (mw_0 cy a S) rfl in_X12 (by decide) wf_X12_27 rfl dX12_packs_98 ?_
  refine z_iconst (v := 3) b dX12_packs_101 (by decide) ?_
  refine z_iload_n b dX12_packs_102 rfl rfl ?_
  refine z_imul (v := 6) b dX12_packs_103 (by decide) ?_
  refine z_iload_n b dX12_packs_104 rfl rfl ?_
  refine z_iload b dX12_packs_105 rfl ?_
  refine z_calli b (z_runS (As := [.int 2, .int 1]) (st := [.int 6, .ref (a 5), .long 1649317807616]) b (c_X12_other S ) cf_X12_other wm_X12_160 ws_X12_other dX12_packs_107 rfl (Nat.le_of_ble_eq_true rfl) ⟨by decide, by decide, by decide, by decide⟩) (fun r2561 u2562 h2560 => ?_)
  obtain ⟨rfl, rfl⟩ := h2560
  refine z_iadd (v := 7) b dX12_packs_110 (by decide) ?_
  refine y_zald (q0 := 5) (j := 7) (v := (ar S 4 7)) b (mw_5 cy a S) (by decide) rfl dX12_packs_111 ?_
  refine z_eqi h_a_4_7 ?_
  refine z_if_eq_t (tgt := 119) b dX12_packs_112 (by decide) (by decide) ?_
  refine z_lconst (v := 0) b dX12_packs_119 (by decide) ?_
  refine z_lor (v := 1649317807616) b dX12_packs_120 (by decide) ?_
  refine z_lstore_n (lv' := [(1, .long 1649317807616), (4, .int 1), (3, .int 2), (0, .ref (a 0))]) b dX12_packs_121 rfl (by decide) rfl ?_
  refine z_iinc (k9 := 1) (v := 2) (lv' := [(4, .int 2), (1, .long 1649317807616), (3, .int 2), (0, .ref (a 0))]) b dX12_packs_122 rfl (by decide) (by decide) rfl ?_
  refine z_goto (tgt := 67) b dX12_packs_125 (by decide) ?_
  refine z_iload b dX12_packs_67 rfl ?_
  refine z_iconst (v := 2) b dX12_packs_69 (by decide) ?_
  refine z_icmp_ge_t (tgt := 128) b dX12_packs_70 (by decide) (by decide) ?_
  refine z_iinc (k9 := 2) (v := 3) (lv' := [(3, .int 3), (4, .int 2), (1, .long 1649317807616), (0, .ref (a 0))]) b dX12_packs_128 rfl (by decide) (by decide) rfl ?_
  refine z_goto (tgt := 8) b dX12_packs_131 (by decide) ?_
  refine z_iload_n b dX12_packs_8 rfl rfl ?_
  refine z_iconst (v := 3) b dX12_packs_9 (by decide) ?_
  refine z_icmp_ge_t (tgt := 134) b dX12_packs_10 (by decide) (by decide) ?_
  refine z_lload_n b dX12_packs_134 rfl rfl ?_
  exact z_lret (u := S) b rfl dX12_packs_135 ⟨rfl, rfl⟩ rfl (by decide) (by decide)

set_option maxHeartbeats 4000000 in
set_option maxRecDepth 100000 in
theorem c_X12_told_19 {l : Launch} {D : va_G} {cy : Nat → ClassId} {T0 tB tE : Nat} {a : Nat → Nat} (S : GS)  (h_i_0 : fi S 0 = 0) (h_a_0_0 : ar S 0 0 = 0) (h_a_2_0 : ar S 2 0 = 3) (h_a_3_1 : ar S 3 1 = 0) (h_a_1_1 : ar S 1 1 = 0) (h_a_4_1 : ar S 4 1 = 0) (h_a_1_2 : ar S 1 2 = 0) (h_a_4_2 : ar S 4 2 = 0) (h_a_0_1 : ar S 0 1 = 0) (h_a_2_1 : ar S 2 1 = 3) (h_a_3_5 : ar S 3 5 = 0) (h_a_1_5 : ar S 1 5 = 0) (h_a_4_5 : ar S 4 5 = 0) (h_a_1_3 : ar S 1 3 = 0) (h_a_4_3 : ar S 4 3 = 1) (h_a_0_2 : ar S 0 2 = 0) (h_a_2_2 : ar S 2 2 = 3) (h_a_3_6 : ar S 3 6 = 0) (h_a_1_6 : ar S 1 6 = 0) (h_a_4_6 : ar S 4 6 = 0) (h_a_1_7 : ar S 1 7 = 0) (h_a_4_7 : ar S 4 7 = 0) : Ct l D cy T0 tB tE yX12_told cX12_told 1 (some .boolean) 2 45 0 0 (mw cy a S) [.ref (a 0)] (QI D (U := GS) (fun r u => 1 = r ∧ sl S 0 1649317807616 = u) (mw cy a)) := by
  refine Ct.ofZ RX12 "told" [(0, .ref (a 0))] rfl rfl rfl rfl (Nat.le_of_ble_eq_true rfl) ?_
  intro p e R s m args below meth c A b
  refine z_aload_n b dX12_told_0 rfl rfl ?_
  refine z_aload_n b dX12_told_1 rfl rfl ?_
  refine z_calll b (z_runV (q0 := 0) (As := []) (st := [.ref (a 0)]) b (c_X12_packs_19 S h_i_0 h_a_0_0 h_a_2_0 h_a_3_1 h_a_1_1 h_a_4_1 h_a_1_2 h_a_4_2 h_a_0_1 h_a_2_1 h_a_3_5 h_a_1_5 h_a_4_5 h_a_1_3 h_a_4_3 h_a_0_2 h_a_2_2 h_a_3_6 h_a_1_6 h_a_4_6 h_a_1_7 h_a_4_7) cf_X12_packs (mw_0 cy a S) rfl wm_X12_149 wi_X12_packs ws_X12_packs dX12_told_2 rfl (Nat.le_of_ble_eq_true rfl) ⟨by decide, by decide, by decide, by decide⟩) (fun r2564 u2565 h2563 => ?_)
  obtain ⟨rfl, rfl⟩ := h2563
  refine z_put (q0 := 0) (k9 := 6) tyX12 b (mw_0 cy a S) rfl in_X12 tyX12_ok nmX12 (by decide) wf_X12_153 rfl rfl rfl rfl (Nat.le_of_ble_eq_true rfl) dX12_told_5 (mwp_0_6 cy a S 1649317807616) ?_
  refine z_iconst (v := 1) b dX12_told_8 (by decide) ?_
  exact z_zret (u := (sl S 0 1649317807616)) b rfl (by decide) dX12_told_9 ⟨rfl, rfl⟩ rfl (by decide) (by decide)

set_option maxHeartbeats 4000000 in
set_option maxRecDepth 100000 in
theorem c_X12_kin_44 {l : Launch} {D : va_G} {cy : Nat → ClassId} {T0 tB tE : Nat} {a : Nat → Nat} (S : GS)  (h_l_0 : fl S 0 = 1649317774848) (h_a_4_7 : ar S 4 7 = 0) (h_a_1_7 : ar S 1 7 = 0) (h_a_4_6 : ar S 4 6 = 0) (h_a_1_6 : ar S 1 6 = 0) (h_a_3_6 : ar S 3 6 = 0) (h_a_3_2 : ar S 3 2 = 0) (h_a_2_2 : ar S 2 2 = 3) (h_a_0_2 : ar S 0 2 = 0) (h_a_4_3 : ar S 4 3 = 0) (h_a_1_3 : ar S 1 3 = 0) (h_a_4_5 : ar S 4 5 = 0) (h_a_1_5 : ar S 1 5 = 0) (h_a_3_5 : ar S 3 5 = 0) (h_a_3_7 : ar S 3 7 = 0) (h_a_2_1 : ar S 2 1 = 3) (h_a_0_1 : ar S 0 1 = 0) (h_a_4_2 : ar S 4 2 = 0) (h_a_1_2 : ar S 1 2 = 0) (h_a_4_1 : ar S 4 1 = 0) (h_a_1_1 : ar S 1 1 = 0) (h_a_3_1 : ar S 3 1 = 0) (h_a_3_3 : ar S 3 3 = 0) (h_a_2_0 : ar S 2 0 = 3) (h_a_0_0 : ar S 0 0 = 0) (h_i_0 : fi S 0 = 0) : Ct l D cy T0 tB tE yX12_kin cX12_kin 5 (some .boolean) 3 65 0 0 (mw cy a S) [.ref (a 0), .int 1, .int 0, .int 1, .int 1] (QI D (U := GS) (fun r u => 1 = r ∧ sl (su S 4 3 1) 0 1649317807616 = u) (mw cy a)) := by
  refine Ct.ofZ RX12 "kin" [(0, .ref (a 0)), (1, .int 1), (2, .int 0), (3, .int 1), (4, .int 1)] rfl rfl rfl rfl (Nat.le_of_ble_eq_true rfl) ?_
  intro p e R s m args below meth c A b
  refine z_iload_n b dX12_kin_0 rfl rfl ?_
  refine z_calli b (z_runS (As := [.int 1]) (st := []) b (c_X12_isOne_4 S ) cf_X12_isOne wm_X12_170 ws_X12_isOne dX12_kin_1 rfl (Nat.le_of_ble_eq_true rfl) ⟨by decide, by decide, by decide, by decide⟩) (fun r2507 u2508 h2506 => ?_)
  obtain ⟨rfl, rfl⟩ := h2506
  refine z_if_eq_f (tgt := 28) b dX12_kin_4 (by decide) (by decide) ?_
  refine z_iload_n b dX12_kin_7 rfl rfl ?_
  refine z_calli b (z_runS (As := [.int 0]) (st := []) b (c_X12_isOne_3 S ) cf_X12_isOne wm_X12_170 ws_X12_isOne dX12_kin_8 rfl (Nat.le_of_ble_eq_true rfl) ⟨by decide, by decide, by decide, by decide⟩) (fun r2510 u2511 h2509 => ?_)
  obtain ⟨rfl, rfl⟩ := h2509
  refine z_if_eq_f (tgt := 28) b dX12_kin_11 (by decide) (by decide) ?_
  refine z_iload_n b dX12_kin_14 rfl rfl ?_
  refine z_iload_n b dX12_kin_15 rfl rfl ?_
  refine z_icmp_eq_f (tgt := 28) b dX12_kin_16 (by decide) (by decide) ?_
  refine z_iload_n b dX12_kin_19 rfl rfl ?_
  refine z_iconst (v := 0) b dX12_kin_20 (by decide) ?_
  refine z_iconst (v := 1) b dX12_kin_21 (by decide) ?_
  refine z_calli b (z_runS (As := [.int 1, .int 0, .int 1]) (st := []) b (c_X12_isIn_17 S ) cf_X12_isIn wm_X12_1 ws_X12_isIn dX12_kin_22 rfl (Nat.le_of_ble_eq_true rfl) ⟨by decide, by decide, by decide, by decide⟩) (fun r2513 u2514 h2512 => ?_)
  obtain ⟨rfl, rfl⟩ := h2512
  refine z_if_ne_t (tgt := 30) b dX12_kin_25 (by decide) (by decide) ?_
  refine z_aload_n b dX12_kin_30 rfl rfl ?_
  refine z_aload_n b dX12_kin_31 rfl rfl ?_
  refine z_get (q0 := 0) (k9 := 6) (v := .long (fl S 0)) b (mw_0 cy a S) rfl in_X12 (by decide) wf_X12_153 rfl dX12_kin_32 ?_
  refine z_eql h_l_0 ?_
  refine z_callv b (z_runV (q0 := 0) (As := [.long 1649317774848]) (st := []) b (c_X12_takes S h_a_4_7 h_a_1_7 h_a_4_6 h_a_1_6 h_a_3_6 h_a_3_2 h_a_2_2 h_a_0_2 h_a_4_3 h_a_1_3 h_a_4_5 h_a_1_5 h_a_3_5 h_a_3_7 h_a_2_1 h_a_0_1 h_a_4_2 h_a_1_2 h_a_4_1 h_a_1_1 h_a_3_1 h_a_3_3 h_a_2_0 h_a_0_0 h_i_0) cf_X12_takes (mw_0 cy a S) rfl wm_X12_174 wi_X12_takes ws_X12_takes dX12_kin_35 rfl (Nat.le_of_ble_eq_true rfl) ⟨by decide, by decide, by decide, by decide⟩) (fun u2517 h2515 => ?_)
  obtain rfl := h2515
  refine z_iload_n b dX12_kin_38 rfl rfl ?_
  refine z_iconst (v := 1) b dX12_kin_39 (by decide) ?_
  refine z_icmp_ne_f (tgt := 58) b dX12_kin_40 (by decide) (by decide) ?_
  refine z_aload_n b dX12_kin_43 rfl rfl ?_
  refine z_get (q0 := 0) (k9 := 4) (v := .ref (a 5)) b (mw_0 cy a S) rfl in_X12 (by decide) wf_X12_27 rfl dX12_kin_44 ?_
  refine z_iconst (v := 3) b dX12_kin_47 (by decide) ?_
  refine z_iload_n b dX12_kin_48 rfl rfl ?_
  refine z_imul (v := 3) b dX12_kin_49 (by decide) ?_
  refine z_iload_n b dX12_kin_50 rfl rfl ?_
  refine z_iadd (v := 3) b dX12_kin_51 (by decide) ?_
  refine z_iload b dX12_kin_52 rfl ?_
  refine y_zast (q0 := 5) (j := 3) b (mw_5 cy a S) (by decide) (by decide) dX12_kin_54 (mwa_5 cy a S 3 1) ?_
  refine z_goto (tgt := 82) b dX12_kin_55 (by decide) ?_
  refine z_aload_n b dX12_kin_82 rfl rfl ?_
  refine z_calli b (z_runV (q0 := 0) (As := []) (st := []) b (c_X12_told_19 (su S 4 3 1) h_i_0 h_a_0_0 h_a_2_0 h_a_3_1 h_a_1_1 h_a_4_1 h_a_1_2 h_a_4_2 h_a_0_1 h_a_2_1 h_a_3_5 h_a_1_5 h_a_4_5 h_a_1_3 rfl h_a_0_2 h_a_2_2 h_a_3_6 h_a_1_6 h_a_4_6 h_a_1_7 h_a_4_7) cf_X12_told (mw_0 cy a (su S 4 3 1)) rfl wm_X12_178 wi_X12_told ws_X12_told dX12_kin_83 rfl (Nat.le_of_ble_eq_true rfl) ⟨by decide, by decide, by decide, by decide⟩) (fun r2567 u2568 h2566 => ?_)
  obtain ⟨rfl, rfl⟩ := h2566
  exact z_zret (u := (sl (su S 4 3 1) 0 1649317807616)) b rfl (by decide) dX12_kin_86 ⟨rfl, rfl⟩ rfl (by decide) (by decide)

set_option maxHeartbeats 4000000 in
set_option maxRecDepth 100000 in
theorem c_X11_kin_45 {l : Launch} {D : va_G} {cy : Nat → ClassId} {T0 tB tE : Nat} {a : Nat → Nat} {rw : Nat → Option Nat} (S : GS) (p0 : Int32)  (hr_p0 : 2 ≤ p0.toInt ∧ p0.toInt ≤ 2147483647) : Ct l D cy T0 tB tE yX11_kin cX11_kin 6 (some .boolean) 2 41 0 0 (cw cy tE a rw S) [.ref (a 0), .int 1, .int 0, .int p0, .int 0] (QI D (U := GS) (fun r u => 0 = r ∧ S = u) (cw cy tE a rw)) := by
  refine Ct.ofZ RX11 "kin" [(0, .ref (a 0)), (1, .int 1), (2, .int 0), (3, .int p0), (4, .int 0)] rfl rfl rfl rfl (Nat.le_of_ble_eq_true rfl) ?_
  intro p e R s m args below meth c A b
  refine z_iload_n b dX11_kin_0 rfl rfl ?_
  refine z_iload_n b dX11_kin_1 rfl rfl ?_
  refine z_calli b (z_runS (As := [.int 1, .int 0]) (st := []) b (c_X11_arePair_14 S ) cf_X11_arePair wm_X11_84 ws_X11_arePair dX11_kin_2 rfl (Nat.le_of_ble_eq_true rfl) ⟨by decide, by decide, by decide, by decide⟩) (fun r2570 u2571 h2569 => ?_)
  obtain ⟨rfl, rfl⟩ := h2569
  refine z_if_eq_f (tgt := 16) b dX11_kin_5 (by decide) (by decide) ?_
  refine z_iload_n b dX11_kin_8 rfl rfl ?_
  refine z_iconst (v := 1) b dX11_kin_9 (by decide) ?_
  refine z_calli b (z_runS (As := [.int p0, .int 1]) (st := []) b (c_X11_isWithin_13 S p0 ⟨by omega, by omega⟩) cf_X11_isWithin wm_X11_73 ws_X11_isWithin dX11_kin_10 rfl (Nat.le_of_ble_eq_true rfl) ⟨by decide, by decide, by decide, by decide⟩) (fun r2573 u2574 h2572 => ?_)
  obtain ⟨rfl, rfl⟩ := h2572
  refine z_if_ne_f (tgt := 18) b dX11_kin_13 (by decide) (by decide) ?_
  refine z_iconst (v := 0) b dX11_kin_16 (by decide) ?_
  exact z_zret (u := S) b rfl (by decide) dX11_kin_17 ⟨rfl, rfl⟩ rfl (by decide) (by decide)

set_option maxHeartbeats 4000000 in
set_option maxRecDepth 100000 in
theorem c_X12_kin_45 {l : Launch} {D : va_G} {cy : Nat → ClassId} {T0 tB tE : Nat} {a : Nat → Nat} (S : GS) (p0 : Int32)  (hr_p0 : 2 ≤ p0.toInt ∧ p0.toInt ≤ 2147483647) : Ct l D cy T0 tB tE yX12_kin cX12_kin 5 (some .boolean) 2 42 0 0 (mw cy a S) [.ref (a 0), .int 1, .int 0, .int p0, .int 0] (QI D (U := GS) (fun r u => 0 = r ∧ S = u) (mw cy a)) := by
  refine Ct.ofZ RX12 "kin" [(0, .ref (a 0)), (1, .int 1), (2, .int 0), (3, .int p0), (4, .int 0)] rfl rfl rfl rfl (Nat.le_of_ble_eq_true rfl) ?_
  intro p e R s m args below meth c A b
  refine z_iload_n b dX12_kin_0 rfl rfl ?_
  refine z_calli b (z_runS (As := [.int 1]) (st := []) b (c_X12_isOne_4 S ) cf_X12_isOne wm_X12_170 ws_X12_isOne dX12_kin_1 rfl (Nat.le_of_ble_eq_true rfl) ⟨by decide, by decide, by decide, by decide⟩) (fun r2576 u2577 h2575 => ?_)
  obtain ⟨rfl, rfl⟩ := h2575
  refine z_if_eq_f (tgt := 28) b dX12_kin_4 (by decide) (by decide) ?_
  refine z_iload_n b dX12_kin_7 rfl rfl ?_
  refine z_calli b (z_runS (As := [.int 0]) (st := []) b (c_X12_isOne_3 S ) cf_X12_isOne wm_X12_170 ws_X12_isOne dX12_kin_8 rfl (Nat.le_of_ble_eq_true rfl) ⟨by decide, by decide, by decide, by decide⟩) (fun r2579 u2580 h2578 => ?_)
  obtain ⟨rfl, rfl⟩ := h2578
  refine z_if_eq_f (tgt := 28) b dX12_kin_11 (by decide) (by decide) ?_
  refine z_iload_n b dX12_kin_14 rfl rfl ?_
  refine z_iload_n b dX12_kin_15 rfl rfl ?_
  refine z_icmp_eq_f (tgt := 28) b dX12_kin_16 (by decide) (by decide) ?_
  refine z_iload_n b dX12_kin_19 rfl rfl ?_
  refine z_iconst (v := 0) b dX12_kin_20 (by decide) ?_
  refine z_iconst (v := 1) b dX12_kin_21 (by decide) ?_
  refine z_calli b (z_runS (As := [.int p0, .int 0, .int 1]) (st := []) b (c_X12_isIn_18 S p0 ⟨by omega, by omega⟩) cf_X12_isIn wm_X12_1 ws_X12_isIn dX12_kin_22 rfl (Nat.le_of_ble_eq_true rfl) ⟨by decide, by decide, by decide, by decide⟩) (fun r2582 u2583 h2581 => ?_)
  obtain ⟨rfl, rfl⟩ := h2581
  refine z_if_ne_f (tgt := 30) b dX12_kin_25 (by decide) (by decide) ?_
  refine z_iconst (v := 0) b dX12_kin_28 (by decide) ?_
  exact z_zret (u := S) b rfl (by decide) dX12_kin_29 ⟨rfl, rfl⟩ rfl (by decide) (by decide)

set_option maxHeartbeats 4000000 in
set_option maxRecDepth 100000 in
theorem c_X11_kin_46 {l : Launch} {D : va_G} {cy : Nat → ClassId} {T0 tB tE : Nat} {a : Nat → Nat} {rw : Nat → Option Nat} (S : GS) (p0 : Int32)  (hr_p0 : 2 ≤ p0.toInt ∧ p0.toInt ≤ 2147483647) : Ct l D cy T0 tB tE yX11_kin cX11_kin 6 (some .boolean) 2 41 0 0 (cw cy tE a rw S) [.ref (a 0), .int 1, .int 0, .int p0, .int 1] (QI D (U := GS) (fun r u => 0 = r ∧ S = u) (cw cy tE a rw)) := by
  refine Ct.ofZ RX11 "kin" [(0, .ref (a 0)), (1, .int 1), (2, .int 0), (3, .int p0), (4, .int 1)] rfl rfl rfl rfl (Nat.le_of_ble_eq_true rfl) ?_
  intro p e R s m args below meth c A b
  refine z_iload_n b dX11_kin_0 rfl rfl ?_
  refine z_iload_n b dX11_kin_1 rfl rfl ?_
  refine z_calli b (z_runS (As := [.int 1, .int 0]) (st := []) b (c_X11_arePair_14 S ) cf_X11_arePair wm_X11_84 ws_X11_arePair dX11_kin_2 rfl (Nat.le_of_ble_eq_true rfl) ⟨by decide, by decide, by decide, by decide⟩) (fun r2585 u2586 h2584 => ?_)
  obtain ⟨rfl, rfl⟩ := h2584
  refine z_if_eq_f (tgt := 16) b dX11_kin_5 (by decide) (by decide) ?_
  refine z_iload_n b dX11_kin_8 rfl rfl ?_
  refine z_iconst (v := 1) b dX11_kin_9 (by decide) ?_
  refine z_calli b (z_runS (As := [.int p0, .int 1]) (st := []) b (c_X11_isWithin_13 S p0 ⟨by omega, by omega⟩) cf_X11_isWithin wm_X11_73 ws_X11_isWithin dX11_kin_10 rfl (Nat.le_of_ble_eq_true rfl) ⟨by decide, by decide, by decide, by decide⟩) (fun r2588 u2589 h2587 => ?_)
  obtain ⟨rfl, rfl⟩ := h2587
  refine z_if_ne_f (tgt := 18) b dX11_kin_13 (by decide) (by decide) ?_
  refine z_iconst (v := 0) b dX11_kin_16 (by decide) ?_
  exact z_zret (u := S) b rfl (by decide) dX11_kin_17 ⟨rfl, rfl⟩ rfl (by decide) (by decide)

set_option maxHeartbeats 4000000 in
set_option maxRecDepth 100000 in
theorem c_X12_kin_46 {l : Launch} {D : va_G} {cy : Nat → ClassId} {T0 tB tE : Nat} {a : Nat → Nat} (S : GS) (p0 : Int32)  (hr_p0 : 2 ≤ p0.toInt ∧ p0.toInt ≤ 2147483647) : Ct l D cy T0 tB tE yX12_kin cX12_kin 5 (some .boolean) 2 42 0 0 (mw cy a S) [.ref (a 0), .int 1, .int 0, .int p0, .int 1] (QI D (U := GS) (fun r u => 0 = r ∧ S = u) (mw cy a)) := by
  refine Ct.ofZ RX12 "kin" [(0, .ref (a 0)), (1, .int 1), (2, .int 0), (3, .int p0), (4, .int 1)] rfl rfl rfl rfl (Nat.le_of_ble_eq_true rfl) ?_
  intro p e R s m args below meth c A b
  refine z_iload_n b dX12_kin_0 rfl rfl ?_
  refine z_calli b (z_runS (As := [.int 1]) (st := []) b (c_X12_isOne_4 S ) cf_X12_isOne wm_X12_170 ws_X12_isOne dX12_kin_1 rfl (Nat.le_of_ble_eq_true rfl) ⟨by decide, by decide, by decide, by decide⟩) (fun r2591 u2592 h2590 => ?_)
  obtain ⟨rfl, rfl⟩ := h2590
  refine z_if_eq_f (tgt := 28) b dX12_kin_4 (by decide) (by decide) ?_
  refine z_iload_n b dX12_kin_7 rfl rfl ?_
  refine z_calli b (z_runS (As := [.int 0]) (st := []) b (c_X12_isOne_3 S ) cf_X12_isOne wm_X12_170 ws_X12_isOne dX12_kin_8 rfl (Nat.le_of_ble_eq_true rfl) ⟨by decide, by decide, by decide, by decide⟩) (fun r2594 u2595 h2593 => ?_)
  obtain ⟨rfl, rfl⟩ := h2593
  refine z_if_eq_f (tgt := 28) b dX12_kin_11 (by decide) (by decide) ?_
  refine z_iload_n b dX12_kin_14 rfl rfl ?_
  refine z_iload_n b dX12_kin_15 rfl rfl ?_
  refine z_icmp_eq_f (tgt := 28) b dX12_kin_16 (by decide) (by decide) ?_
  refine z_iload_n b dX12_kin_19 rfl rfl ?_
  refine z_iconst (v := 0) b dX12_kin_20 (by decide) ?_
  refine z_iconst (v := 1) b dX12_kin_21 (by decide) ?_
  refine z_calli b (z_runS (As := [.int p0, .int 0, .int 1]) (st := []) b (c_X12_isIn_18 S p0 ⟨by omega, by omega⟩) cf_X12_isIn wm_X12_1 ws_X12_isIn dX12_kin_22 rfl (Nat.le_of_ble_eq_true rfl) ⟨by decide, by decide, by decide, by decide⟩) (fun r2597 u2598 h2596 => ?_)
  obtain ⟨rfl, rfl⟩ := h2596
  refine z_if_ne_f (tgt := 30) b dX12_kin_25 (by decide) (by decide) ?_
  refine z_iconst (v := 0) b dX12_kin_28 (by decide) ?_
  exact z_zret (u := S) b rfl (by decide) dX12_kin_29 ⟨rfl, rfl⟩ rfl (by decide) (by decide)

set_option maxHeartbeats 4000000 in
set_option maxRecDepth 100000 in
theorem c_X11_kin_47 {l : Launch} {D : va_G} {cy : Nat → ClassId} {T0 tB tE : Nat} {a : Nat → Nat} {rw : Nat → Option Nat} (S : GS) (p0 : Int32)  (hr_p0 : (-2147483648) ≤ p0.toInt ∧ p0.toInt ≤ (-1)) : Ct l D cy T0 tB tE yX11_kin cX11_kin 6 (some .boolean) 2 41 0 0 (cw cy tE a rw S) [.ref (a 0), .int 1, .int 2, .int p0, .int 0] (QI D (U := GS) (fun r u => 0 = r ∧ S = u) (cw cy tE a rw)) := by
  refine Ct.ofZ RX11 "kin" [(0, .ref (a 0)), (1, .int 1), (2, .int 2), (3, .int p0), (4, .int 0)] rfl rfl rfl rfl (Nat.le_of_ble_eq_true rfl) ?_
  intro p e R s m args below meth c A b
  refine z_iload_n b dX11_kin_0 rfl rfl ?_
  refine z_iload_n b dX11_kin_1 rfl rfl ?_
  refine z_calli b (z_runS (As := [.int 1, .int 2]) (st := []) b (c_X11_arePair_15 S ) cf_X11_arePair wm_X11_84 ws_X11_arePair dX11_kin_2 rfl (Nat.le_of_ble_eq_true rfl) ⟨by decide, by decide, by decide, by decide⟩) (fun r2600 u2601 h2599 => ?_)
  obtain ⟨rfl, rfl⟩ := h2599
  refine z_if_eq_f (tgt := 16) b dX11_kin_5 (by decide) (by decide) ?_
  refine z_iload_n b dX11_kin_8 rfl rfl ?_
  refine z_iconst (v := 1) b dX11_kin_9 (by decide) ?_
  refine z_calli b (z_runS (As := [.int p0, .int 1]) (st := []) b (c_X11_isWithin_10 S p0 ⟨by omega, by omega⟩) cf_X11_isWithin wm_X11_73 ws_X11_isWithin dX11_kin_10 rfl (Nat.le_of_ble_eq_true rfl) ⟨by decide, by decide, by decide, by decide⟩) (fun r2603 u2604 h2602 => ?_)
  obtain ⟨rfl, rfl⟩ := h2602
  refine z_if_ne_f (tgt := 18) b dX11_kin_13 (by decide) (by decide) ?_
  refine z_iconst (v := 0) b dX11_kin_16 (by decide) ?_
  exact z_zret (u := S) b rfl (by decide) dX11_kin_17 ⟨rfl, rfl⟩ rfl (by decide) (by decide)

set_option maxHeartbeats 4000000 in
set_option maxRecDepth 100000 in
theorem c_X12_kin_47 {l : Launch} {D : va_G} {cy : Nat → ClassId} {T0 tB tE : Nat} {a : Nat → Nat} (S : GS) (p0 : Int32)  (hr_p0 : (-2147483648) ≤ p0.toInt ∧ p0.toInt ≤ (-1)) : Ct l D cy T0 tB tE yX12_kin cX12_kin 5 (some .boolean) 2 42 0 0 (mw cy a S) [.ref (a 0), .int 1, .int 2, .int p0, .int 0] (QI D (U := GS) (fun r u => 0 = r ∧ S = u) (mw cy a)) := by
  refine Ct.ofZ RX12 "kin" [(0, .ref (a 0)), (1, .int 1), (2, .int 2), (3, .int p0), (4, .int 0)] rfl rfl rfl rfl (Nat.le_of_ble_eq_true rfl) ?_
  intro p e R s m args below meth c A b
  refine z_iload_n b dX12_kin_0 rfl rfl ?_
  refine z_calli b (z_runS (As := [.int 1]) (st := []) b (c_X12_isOne_4 S ) cf_X12_isOne wm_X12_170 ws_X12_isOne dX12_kin_1 rfl (Nat.le_of_ble_eq_true rfl) ⟨by decide, by decide, by decide, by decide⟩) (fun r2606 u2607 h2605 => ?_)
  obtain ⟨rfl, rfl⟩ := h2605
  refine z_if_eq_f (tgt := 28) b dX12_kin_4 (by decide) (by decide) ?_
  refine z_iload_n b dX12_kin_7 rfl rfl ?_
  refine z_calli b (z_runS (As := [.int 2]) (st := []) b (c_X12_isOne_5 S ) cf_X12_isOne wm_X12_170 ws_X12_isOne dX12_kin_8 rfl (Nat.le_of_ble_eq_true rfl) ⟨by decide, by decide, by decide, by decide⟩) (fun r2609 u2610 h2608 => ?_)
  obtain ⟨rfl, rfl⟩ := h2608
  refine z_if_eq_f (tgt := 28) b dX12_kin_11 (by decide) (by decide) ?_
  refine z_iload_n b dX12_kin_14 rfl rfl ?_
  refine z_iload_n b dX12_kin_15 rfl rfl ?_
  refine z_icmp_eq_f (tgt := 28) b dX12_kin_16 (by decide) (by decide) ?_
  refine z_iload_n b dX12_kin_19 rfl rfl ?_
  refine z_iconst (v := 0) b dX12_kin_20 (by decide) ?_
  refine z_iconst (v := 1) b dX12_kin_21 (by decide) ?_
  refine z_calli b (z_runS (As := [.int p0, .int 0, .int 1]) (st := []) b (c_X12_isIn_15 S p0 ⟨by omega, by omega⟩) cf_X12_isIn wm_X12_1 ws_X12_isIn dX12_kin_22 rfl (Nat.le_of_ble_eq_true rfl) ⟨by decide, by decide, by decide, by decide⟩) (fun r2612 u2613 h2611 => ?_)
  obtain ⟨rfl, rfl⟩ := h2611
  refine z_if_ne_f (tgt := 30) b dX12_kin_25 (by decide) (by decide) ?_
  refine z_iconst (v := 0) b dX12_kin_28 (by decide) ?_
  exact z_zret (u := S) b rfl (by decide) dX12_kin_29 ⟨rfl, rfl⟩ rfl (by decide) (by decide)

set_option maxHeartbeats 4000000 in
set_option maxRecDepth 100000 in
theorem c_X11_kin_48 {l : Launch} {D : va_G} {cy : Nat → ClassId} {T0 tB tE : Nat} {a : Nat → Nat} {rw : Nat → Option Nat} (S : GS) (p0 : Int32)  (hr_p0 : (-2147483648) ≤ p0.toInt ∧ p0.toInt ≤ (-1)) : Ct l D cy T0 tB tE yX11_kin cX11_kin 6 (some .boolean) 2 41 0 0 (cw cy tE a rw S) [.ref (a 0), .int 1, .int 2, .int p0, .int 1] (QI D (U := GS) (fun r u => 0 = r ∧ S = u) (cw cy tE a rw)) := by
  refine Ct.ofZ RX11 "kin" [(0, .ref (a 0)), (1, .int 1), (2, .int 2), (3, .int p0), (4, .int 1)] rfl rfl rfl rfl (Nat.le_of_ble_eq_true rfl) ?_
  intro p e R s m args below meth c A b
  refine z_iload_n b dX11_kin_0 rfl rfl ?_
  refine z_iload_n b dX11_kin_1 rfl rfl ?_
  refine z_calli b (z_runS (As := [.int 1, .int 2]) (st := []) b (c_X11_arePair_15 S ) cf_X11_arePair wm_X11_84 ws_X11_arePair dX11_kin_2 rfl (Nat.le_of_ble_eq_true rfl) ⟨by decide, by decide, by decide, by decide⟩) (fun r2615 u2616 h2614 => ?_)
  obtain ⟨rfl, rfl⟩ := h2614
  refine z_if_eq_f (tgt := 16) b dX11_kin_5 (by decide) (by decide) ?_
  refine z_iload_n b dX11_kin_8 rfl rfl ?_
  refine z_iconst (v := 1) b dX11_kin_9 (by decide) ?_
  refine z_calli b (z_runS (As := [.int p0, .int 1]) (st := []) b (c_X11_isWithin_10 S p0 ⟨by omega, by omega⟩) cf_X11_isWithin wm_X11_73 ws_X11_isWithin dX11_kin_10 rfl (Nat.le_of_ble_eq_true rfl) ⟨by decide, by decide, by decide, by decide⟩) (fun r2618 u2619 h2617 => ?_)
  obtain ⟨rfl, rfl⟩ := h2617
  refine z_if_ne_f (tgt := 18) b dX11_kin_13 (by decide) (by decide) ?_
  refine z_iconst (v := 0) b dX11_kin_16 (by decide) ?_
  exact z_zret (u := S) b rfl (by decide) dX11_kin_17 ⟨rfl, rfl⟩ rfl (by decide) (by decide)

set_option maxHeartbeats 4000000 in
set_option maxRecDepth 100000 in
theorem c_X12_kin_48 {l : Launch} {D : va_G} {cy : Nat → ClassId} {T0 tB tE : Nat} {a : Nat → Nat} (S : GS) (p0 : Int32)  (hr_p0 : (-2147483648) ≤ p0.toInt ∧ p0.toInt ≤ (-1)) : Ct l D cy T0 tB tE yX12_kin cX12_kin 5 (some .boolean) 2 42 0 0 (mw cy a S) [.ref (a 0), .int 1, .int 2, .int p0, .int 1] (QI D (U := GS) (fun r u => 0 = r ∧ S = u) (mw cy a)) := by
  refine Ct.ofZ RX12 "kin" [(0, .ref (a 0)), (1, .int 1), (2, .int 2), (3, .int p0), (4, .int 1)] rfl rfl rfl rfl (Nat.le_of_ble_eq_true rfl) ?_
  intro p e R s m args below meth c A b
  refine z_iload_n b dX12_kin_0 rfl rfl ?_
  refine z_calli b (z_runS (As := [.int 1]) (st := []) b (c_X12_isOne_4 S ) cf_X12_isOne wm_X12_170 ws_X12_isOne dX12_kin_1 rfl (Nat.le_of_ble_eq_true rfl) ⟨by decide, by decide, by decide, by decide⟩) (fun r2621 u2622 h2620 => ?_)
  obtain ⟨rfl, rfl⟩ := h2620
  refine z_if_eq_f (tgt := 28) b dX12_kin_4 (by decide) (by decide) ?_
  refine z_iload_n b dX12_kin_7 rfl rfl ?_
  refine z_calli b (z_runS (As := [.int 2]) (st := []) b (c_X12_isOne_5 S ) cf_X12_isOne wm_X12_170 ws_X12_isOne dX12_kin_8 rfl (Nat.le_of_ble_eq_true rfl) ⟨by decide, by decide, by decide, by decide⟩) (fun r2624 u2625 h2623 => ?_)
  obtain ⟨rfl, rfl⟩ := h2623
  refine z_if_eq_f (tgt := 28) b dX12_kin_11 (by decide) (by decide) ?_
  refine z_iload_n b dX12_kin_14 rfl rfl ?_
  refine z_iload_n b dX12_kin_15 rfl rfl ?_
  refine z_icmp_eq_f (tgt := 28) b dX12_kin_16 (by decide) (by decide) ?_
  refine z_iload_n b dX12_kin_19 rfl rfl ?_
  refine z_iconst (v := 0) b dX12_kin_20 (by decide) ?_
  refine z_iconst (v := 1) b dX12_kin_21 (by decide) ?_
  refine z_calli b (z_runS (As := [.int p0, .int 0, .int 1]) (st := []) b (c_X12_isIn_15 S p0 ⟨by omega, by omega⟩) cf_X12_isIn wm_X12_1 ws_X12_isIn dX12_kin_22 rfl (Nat.le_of_ble_eq_true rfl) ⟨by decide, by decide, by decide, by decide⟩) (fun r2627 u2628 h2626 => ?_)
  obtain ⟨rfl, rfl⟩ := h2626
  refine z_if_ne_f (tgt := 30) b dX12_kin_25 (by decide) (by decide) ?_
  refine z_iconst (v := 0) b dX12_kin_28 (by decide) ?_
  exact z_zret (u := S) b rfl (by decide) dX12_kin_29 ⟨rfl, rfl⟩ rfl (by decide) (by decide)

set_option maxHeartbeats 4000000 in
set_option maxRecDepth 100000 in
theorem c_X9_set_28 {l : Launch} {D : va_G} {cy : Nat → ClassId} {T0 tB tE : Nat} {a : Nat → Nat} {rw : Nat → Option Nat} (S : GS)  (h_a_4_25 : ar S 4 25 = 0) : Ct l D cy T0 tB tE yX9_set cX9_set 3 none 0 0 0 0 (cw cy tE a rw S) [.ref (a 14), .int 25, .int 0] (QV D (U := GS) (fun u => S = u) (cw cy tE a rw)) := by
  refine Ct.ofZ RX9 "set" [(0, .ref (a 14)), (1, .int 25), (2, .int 0)] rfl rfl rfl rfl (Nat.le_of_ble_eq_true rfl) ?_
  intro p e R s m args below meth c A b
  refine z_iload_n b dX9_set_0 rfl rfl ?_
  refine z_if_lt_f (tgt := 20) b dX9_set_1 (by decide) (by decide) ?_
  refine z_iload_n b dX9_set_4 rfl rfl ?_
  refine z_aload_n b dX9_set_5 rfl rfl ?_
  refine z_get (q0 := 14) (k9 := 0) (v := .ref (a 15)) b (cw_14 cy tE a rw S) rfl in_X9 (by decide) wf_X9_11 rfl dX9_set_6 ?_
  refine z_alen (q0 := 15) (t0 := 0) (v := 51) b (cw_15 cy tE a rw S) rfl rfl dX9_set_9 ?_
  refine z_icmp_ge_f (tgt := 20) b dX9_set_10 (by decide) (by decide) ?_
  refine z_aload_n b dX9_set_13 rfl rfl ?_
  refine z_get (q0 := 14) (k9 := 0) (v := .ref (a 15)) b (cw_14 cy tE a rw S) rfl in_X9 (by decide) wf_X9_11 rfl dX9_set_14 ?_
  refine z_iload_n b dX9_set_17 rfl rfl ?_
  refine z_iload_n b dX9_set_18 rfl rfl ?_
  refine y_iast (q0 := 15) (j := 25) b (cw_15 cy tE a rw S) (by decide) dX9_set_19 ((cwa_15 cy tE a rw S 25 0).trans (congrArg (cw cy tE a rw) (su_same h_a_4_25))) ?_
  exact z_vret (u := S) b rfl dX9_set_20 rfl rfl (by decide) (by decide)

set_option maxHeartbeats 4000000 in
set_option maxRecDepth 100000 in
theorem c_X9_set_29 {l : Launch} {D : va_G} {cy : Nat → ClassId} {T0 tB tE : Nat} {a : Nat → Nat} {rw : Nat → Option Nat} (S : GS)  (h_a_4_27 : ar S 4 27 = 0) : Ct l D cy T0 tB tE yX9_set cX9_set 3 none 0 0 0 0 (cw cy tE a rw S) [.ref (a 14), .int 27, .int 0] (QV D (U := GS) (fun u => S = u) (cw cy tE a rw)) := by
  refine Ct.ofZ RX9 "set" [(0, .ref (a 14)), (1, .int 27), (2, .int 0)] rfl rfl rfl rfl (Nat.le_of_ble_eq_true rfl) ?_
  intro p e R s m args below meth c A b
  refine z_iload_n b dX9_set_0 rfl rfl ?_
  refine z_if_lt_f (tgt := 20) b dX9_set_1 (by decide) (by decide) ?_
  refine z_iload_n b dX9_set_4 rfl rfl ?_
  refine z_aload_n b dX9_set_5 rfl rfl ?_
  refine z_get (q0 := 14) (k9 := 0) (v := .ref (a 15)) b (cw_14 cy tE a rw S) rfl in_X9 (by decide) wf_X9_11 rfl dX9_set_6 ?_
  refine z_alen (q0 := 15) (t0 := 0) (v := 51) b (cw_15 cy tE a rw S) rfl rfl dX9_set_9 ?_
  refine z_icmp_ge_f (tgt := 20) b dX9_set_10 (by decide) (by decide) ?_
  refine z_aload_n b dX9_set_13 rfl rfl ?_
  refine z_get (q0 := 14) (k9 := 0) (v := .ref (a 15)) b (cw_14 cy tE a rw S) rfl in_X9 (by decide) wf_X9_11 rfl dX9_set_14 ?_
  refine z_iload_n b dX9_set_17 rfl rfl ?_
  refine z_iload_n b dX9_set_18 rfl rfl ?_
  refine y_iast (q0 := 15) (j := 27) b (cw_15 cy tE a rw S) (by decide) dX9_set_19 ((cwa_15 cy tE a rw S 27 0).trans (congrArg (cw cy tE a rw) (su_same h_a_4_27))) ?_
  exact z_vret (u := S) b rfl dX9_set_20 rfl rfl (by decide) (by decide)

set_option maxHeartbeats 4000000 in
set_option maxRecDepth 100000 in
theorem c_X11_kin_49 {l : Launch} {D : va_G} {cy : Nat → ClassId} {T0 tB tE : Nat} {a : Nat → Nat} {rw : Nat → Option Nat} (S : GS)  (h_a_4_25 : ar S 4 25 = 0) (h_a_4_27 : ar S 4 27 = 0) (h_i_24 : fi S 24 = 0) : Ct l D cy T0 tB tE yX11_kin cX11_kin 6 (some .boolean) 2 41 0 0 (cw cy tE a rw S) [.ref (a 0), .int 1, .int 2, .int 0, .int 0] (QI D (U := GS) (fun r u => 1 = r ∧ S = u) (cw cy tE a rw)) := by
  refine Ct.ofZ RX11 "kin" [(0, .ref (a 0)), (1, .int 1), (2, .int 2), (3, .int 0), (4, .int 0)] rfl rfl rfl rfl (Nat.le_of_ble_eq_true rfl) ?_
  intro p e R s m args below meth c A b
  refine z_iload_n b dX11_kin_0 rfl rfl ?_
  refine z_iload_n b dX11_kin_1 rfl rfl ?_
  refine z_calli b (z_runS (As := [.int 1, .int 2]) (st := []) b (c_X11_arePair_15 S ) cf_X11_arePair wm_X11_84 ws_X11_arePair dX11_kin_2 rfl (Nat.le_of_ble_eq_true rfl) ⟨by decide, by decide, by decide, by decide⟩) (fun r2630 u2631 h2629 => ?_)
  obtain ⟨rfl, rfl⟩ := h2629
  refine z_if_eq_f (tgt := 16) b dX11_kin_5 (by decide) (by decide) ?_
  refine z_iload_n b dX11_kin_8 rfl rfl ?_
  refine z_iconst (v := 1) b dX11_kin_9 (by decide) ?_
  refine z_calli b (z_runS (As := [.int 0, .int 1]) (st := []) b (c_X11_isWithin_11 S ) cf_X11_isWithin wm_X11_73 ws_X11_isWithin dX11_kin_10 rfl (Nat.le_of_ble_eq_true rfl) ⟨by decide, by decide, by decide, by decide⟩) (fun r2633 u2634 h2632 => ?_)
  obtain ⟨rfl, rfl⟩ := h2632
  refine z_if_ne_t (tgt := 18) b dX11_kin_13 (by decide) (by decide) ?_
  refine z_iload b dX11_kin_18 rfl ?_
  refine z_if_eq_t (tgt := 27) b dX11_kin_20 (by decide) (by decide) ?_
  refine z_iconst (v := 0) b dX11_kin_27 (by decide) ?_
  refine z_istore (lv' := [(5, .int 0), (0, .ref (a 0)), (1, .int 1), (2, .int 2), (3, .int 0), (4, .int 0)]) b dX11_kin_28 (by decide) rfl ?_
  refine z_iload_n b dX11_kin_30 rfl rfl ?_
  refine z_if_ne_f (tgt := 71) b dX11_kin_31 (by decide) (by decide) ?_
  refine z_aload_n b dX11_kin_34 rfl rfl ?_
  refine z_get (q0 := 0) (k9 := 4) (v := .ref (a 14)) b (cw_0 cy tE a rw S) rfl in_X11 (by decide) wf_X11_34 rfl dX11_kin_35 ?_
  refine z_bipush (v := 20) b dX11_kin_38 (by decide) ?_
  refine z_iconst (v := 3) b dX11_kin_40 (by decide) ?_
  refine z_iload_n b dX11_kin_41 rfl rfl ?_
  refine z_imul (v := 3) b dX11_kin_42 (by decide) ?_
  refine z_iadd (v := 23) b dX11_kin_43 (by decide) ?_
  refine z_iload_n b dX11_kin_44 rfl rfl ?_
  refine z_iadd (v := 25) b dX11_kin_45 (by decide) ?_
  refine z_iload b dX11_kin_46 rfl ?_
  refine z_callv b (z_runV (q0 := 14) (As := [.int 25, .int 0]) (st := []) b (c_X9_set_28 S h_a_4_25) cf_X9_set (cw_14 cy tE a rw S) rfl wm_X11_77 wi_X9_set ws_X9_set dX11_kin_48 rfl (Nat.le_of_ble_eq_true rfl) ⟨by decide, by decide, by decide, by decide⟩) (fun u2637 h2635 => ?_)
  obtain rfl := h2635
  refine z_aload_n b dX11_kin_51 rfl rfl ?_
  refine z_get (q0 := 0) (k9 := 4) (v := .ref (a 14)) b (cw_0 cy tE a rw S) rfl in_X11 (by decide) wf_X11_34 rfl dX11_kin_52 ?_
  refine z_bipush (v := 20) b dX11_kin_55 (by decide) ?_
  refine z_iconst (v := 3) b dX11_kin_57 (by decide) ?_
  refine z_iload_n b dX11_kin_58 rfl rfl ?_
  refine z_imul (v := 6) b dX11_kin_59 (by decide) ?_
  refine z_iadd (v := 26) b dX11_kin_60 (by decide) ?_
  refine z_iload_n b dX11_kin_61 rfl rfl ?_
  refine z_iadd (v := 27) b dX11_kin_62 (by decide) ?_
  refine z_iload b dX11_kin_63 rfl ?_
  refine z_callv b (z_runV (q0 := 14) (As := [.int 27, .int 0]) (st := []) b (c_X9_set_29 S h_a_4_27) cf_X9_set (cw_14 cy tE a rw S) rfl wm_X11_77 wi_X9_set ws_X9_set dX11_kin_65 rfl (Nat.le_of_ble_eq_true rfl) ⟨by decide, by decide, by decide, by decide⟩) (fun u2640 h2638 => ?_)
  obtain rfl := h2638
  refine z_goto (tgt := 88) b dX11_kin_68 (by decide) ?_
  refine z_aload_n b dX11_kin_88 rfl rfl ?_
  refine z_get (q0 := 0) (k9 := 6) (v := .ref (a 25)) b (cw_0 cy tE a rw S) rfl in_X11 (by decide) wf_X11_52 rfl dX11_kin_89 ?_
  refine z_callv b (z_runV (q0 := 25) (As := []) (st := []) b (c_X8_forget S h_i_24) cf_X8_forget (cw_25 cy tE a rw S) rfl wm_X11_81 wi_X8_forget ws_X8_forget dX11_kin_92 rfl (Nat.le_of_ble_eq_true rfl) ⟨by decide, by decide, by decide, by decide⟩) (fun u2643 h2641 => ?_)
  obtain rfl := h2641
  refine z_iconst (v := 1) b dX11_kin_95 (by decide) ?_
  exact z_zret (u := S) b rfl (by decide) dX11_kin_96 ⟨rfl, rfl⟩ rfl (by decide) (by decide)

set_option maxHeartbeats 4000000 in
set_option maxRecDepth 100000 in
theorem c_X12_kin_49 {l : Launch} {D : va_G} {cy : Nat → ClassId} {T0 tB tE : Nat} {a : Nat → Nat} (S : GS)  (h_l_0 : fl S 0 = 1649317774848) (h_a_4_7 : ar S 4 7 = 0) (h_a_1_7 : ar S 1 7 = 0) (h_a_4_6 : ar S 4 6 = 0) (h_a_1_6 : ar S 1 6 = 0) (h_a_3_6 : ar S 3 6 = 0) (h_a_3_2 : ar S 3 2 = 0) (h_a_2_2 : ar S 2 2 = 3) (h_a_0_2 : ar S 0 2 = 0) (h_a_4_3 : ar S 4 3 = 0) (h_a_1_3 : ar S 1 3 = 0) (h_a_4_5 : ar S 4 5 = 0) (h_a_1_5 : ar S 1 5 = 0) (h_a_3_5 : ar S 3 5 = 0) (h_a_3_7 : ar S 3 7 = 0) (h_a_2_1 : ar S 2 1 = 3) (h_a_0_1 : ar S 0 1 = 0) (h_a_4_2 : ar S 4 2 = 0) (h_a_1_2 : ar S 1 2 = 0) (h_a_4_1 : ar S 4 1 = 0) (h_a_1_1 : ar S 1 1 = 0) (h_a_3_1 : ar S 3 1 = 0) (h_a_3_3 : ar S 3 3 = 0) (h_a_2_0 : ar S 2 0 = 3) (h_a_0_0 : ar S 0 0 = 0) (h_i_0 : fi S 0 = 0) : Ct l D cy T0 tB tE yX12_kin cX12_kin 5 (some .boolean) 3 65 0 0 (mw cy a S) [.ref (a 0), .int 1, .int 2, .int 0, .int 0] (QI D (U := GS) (fun r u => 1 = r ∧ S = u) (mw cy a)) := by
  refine Ct.ofZ RX12 "kin" [(0, .ref (a 0)), (1, .int 1), (2, .int 2), (3, .int 0), (4, .int 0)] rfl rfl rfl rfl (Nat.le_of_ble_eq_true rfl) ?_
  intro p e R s m args below meth c A b
  refine z_iload_n b dX12_kin_0 rfl rfl ?_
  refine z_calli b (z_runS (As := [.int 1]) (st := []) b (c_X12_isOne_4 S ) cf_X12_isOne wm_X12_170 ws_X12_isOne dX12_kin_1 rfl (Nat.le_of_ble_eq_true rfl) ⟨by decide, by decide, by decide, by decide⟩) (fun r2645 u2646 h2644 => ?_)
  obtain ⟨rfl, rfl⟩ := h2644
  refine z_if_eq_f (tgt := 28) b dX12_kin_4 (by decide) (by decide) ?_
  refine z_iload_n b dX12_kin_7 rfl rfl ?_
  refine z_calli b (z_runS (As := [.int 2]) (st := []) b (c_X12_isOne_5 S ) cf_X12_isOne wm_X12_170 ws_X12_isOne dX12_kin_8 rfl (Nat.le_of_ble_eq_true rfl) ⟨by decide, by decide, by decide, by decide⟩) (fun r2648 u2649 h2647 => ?_)
  obtain ⟨rfl, rfl⟩ := h2647
  refine z_if_eq_f (tgt := 28) b dX12_kin_11 (by decide) (by decide) ?_
  refine z_iload_n b dX12_kin_14 rfl rfl ?_
  refine z_iload_n b dX12_kin_15 rfl rfl ?_
  refine z_icmp_eq_f (tgt := 28) b dX12_kin_16 (by decide) (by decide) ?_
  refine z_iload_n b dX12_kin_19 rfl rfl ?_
  refine z_iconst (v := 0) b dX12_kin_20 (by decide) ?_
  refine z_iconst (v := 1) b dX12_kin_21 (by decide) ?_
  refine z_calli b (z_runS (As := [.int 0, .int 0, .int 1]) (st := []) b (c_X12_isIn_16 S ) cf_X12_isIn wm_X12_1 ws_X12_isIn dX12_kin_22 rfl (Nat.le_of_ble_eq_true rfl) ⟨by decide, by decide, by decide, by decide⟩) (fun r2651 u2652 h2650 => ?_)
  obtain ⟨rfl, rfl⟩ := h2650
  refine z_if_ne_t (tgt := 30) b dX12_kin_25 (by decide) (by decide) ?_
  refine z_aload_n b dX12_kin_30 rfl rfl ?_
  refine z_aload_n b dX12_kin_31 rfl rfl ?_
  refine z_get (q0 := 0) (k9 := 6) (v := .long (fl S 0)) b (mw_0 cy a S) rfl in_X12 (by decide) wf_X12_153 rfl dX12_kin_32 ?_
  refine z_eql h_l_0 ?_
  refine z_callv b (z_runV (q0 := 0) (As := [.long 1649317774848]) (st := []) b (c_X12_takes S h_a_4_7 h_a_1_7 h_a_4_6 h_a_1_6 h_a_3_6 h_a_3_2 h_a_2_2 h_a_0_2 h_a_4_3 h_a_1_3 h_a_4_5 h_a_1_5 h_a_3_5 h_a_3_7 h_a_2_1 h_a_0_1 h_a_4_2 h_a_1_2 h_a_4_1 h_a_1_1 h_a_3_1 h_a_3_3 h_a_2_0 h_a_0_0 h_i_0) cf_X12_takes (mw_0 cy a S) rfl wm_X12_174 wi_X12_takes ws_X12_takes dX12_kin_35 rfl (Nat.le_of_ble_eq_true rfl) ⟨by decide, by decide, by decide, by decide⟩) (fun u2655 h2653 => ?_)
  obtain rfl := h2653
  refine z_iload_n b dX12_kin_38 rfl rfl ?_
  refine z_iconst (v := 1) b dX12_kin_39 (by decide) ?_
  refine z_icmp_ne_t (tgt := 58) b dX12_kin_40 (by decide) (by decide) ?_
  refine z_aload_n b dX12_kin_58 rfl rfl ?_
  refine z_get (q0 := 0) (k9 := 3) (v := .ref (a 4)) b (mw_0 cy a S) rfl in_X12 (by decide) wf_X12_23 rfl dX12_kin_59 ?_
  refine z_iconst (v := 3) b dX12_kin_62 (by decide) ?_
  refine z_iload_n b dX12_kin_63 rfl rfl ?_
  refine z_imul (v := 3) b dX12_kin_64 (by decide) ?_
  refine z_iload_n b dX12_kin_65 rfl rfl ?_
  refine z_iadd (v := 5) b dX12_kin_66 (by decide) ?_
  refine z_iload b dX12_kin_67 rfl ?_
  refine y_zast (q0 := 4) (j := 5) b (mw_4 cy a S) (by decide) (by decide) dX12_kin_69 ((mwa_4 cy a S 5 0).trans (congrArg (mw cy a) (su_same h_a_3_5))) ?_
  refine z_aload_n b dX12_kin_70 rfl rfl ?_
  refine z_get (q0 := 0) (k9 := 3) (v := .ref (a 4)) b (mw_0 cy a S) rfl in_X12 (by decide) wf_X12_23 rfl dX12_kin_71 ?_
  refine z_iconst (v := 3) b dX12_kin_74 (by decide) ?_
  refine z_iload_n b dX12_kin_75 rfl rfl ?_
  refine z_imul (v := 6) b dX12_kin_76 (by decide) ?_
  refine z_iload_n b dX12_kin_77 rfl rfl ?_
  refine z_iadd (v := 7) b dX12_kin_78 (by decide) ?_
  refine z_iload b dX12_kin_79 rfl ?_
  refine y_zast (q0 := 4) (j := 7) b (mw_4 cy a S) (by decide) (by decide) dX12_kin_81 ((mwa_4 cy a S 7 0).trans (congrArg (mw cy a) (su_same h_a_3_7))) ?_
  refine z_aload_n b dX12_kin_82 rfl rfl ?_
  refine z_calli b (z_runV (q0 := 0) (As := []) (st := []) b (c_X12_told_14 S h_i_0 h_a_0_0 h_a_2_0 h_a_3_1 h_a_1_1 h_a_4_1 h_a_1_2 h_a_4_2 h_a_0_1 h_a_2_1 h_a_3_5 h_a_1_5 h_a_4_5 h_a_1_3 h_a_4_3 h_a_0_2 h_a_2_2 h_a_3_6 h_a_1_6 h_a_4_6 h_a_1_7 h_a_4_7 h_l_0) cf_X12_told (mw_0 cy a S) rfl wm_X12_178 wi_X12_told ws_X12_told dX12_kin_83 rfl (Nat.le_of_ble_eq_true rfl) ⟨by decide, by decide, by decide, by decide⟩) (fun r2657 u2658 h2656 => ?_)
  obtain ⟨rfl, rfl⟩ := h2656
  exact z_zret (u := S) b rfl (by decide) dX12_kin_86 ⟨rfl, rfl⟩ rfl (by decide) (by decide)

set_option maxHeartbeats 4000000 in
set_option maxRecDepth 100000 in
theorem c_X9_set_30 {l : Launch} {D : va_G} {cy : Nat → ClassId} {T0 tB tE : Nat} {a : Nat → Nat} {rw : Nat → Option Nat} (S : GS)   : Ct l D cy T0 tB tE yX9_set cX9_set 3 none 0 0 0 0 (cw cy tE a rw S) [.ref (a 14), .int 25, .int 1] (QV D (U := GS) (fun u => su S 4 25 1 = u) (cw cy tE a rw)) := by
  refine Ct.ofZ RX9 "set" [(0, .ref (a 14)), (1, .int 25), (2, .int 1)] rfl rfl rfl rfl (Nat.le_of_ble_eq_true rfl) ?_
  intro p e R s m args below meth c A b
  refine z_iload_n b dX9_set_0 rfl rfl ?_
  refine z_if_lt_f (tgt := 20) b dX9_set_1 (by decide) (by decide) ?_
  refine z_iload_n b dX9_set_4 rfl rfl ?_
  refine z_aload_n b dX9_set_5 rfl rfl ?_
  refine z_get (q0 := 14) (k9 := 0) (v := .ref (a 15)) b (cw_14 cy tE a rw S) rfl in_X9 (by decide) wf_X9_11 rfl dX9_set_6 ?_
  refine z_alen (q0 := 15) (t0 := 0) (v := 51) b (cw_15 cy tE a rw S) rfl rfl dX9_set_9 ?_
  refine z_icmp_ge_f (tgt := 20) b dX9_set_10 (by decide) (by decide) ?_
  refine z_aload_n b dX9_set_13 rfl rfl ?_
  refine z_get (q0 := 14) (k9 := 0) (v := .ref (a 15)) b (cw_14 cy tE a rw S) rfl in_X9 (by decide) wf_X9_11 rfl dX9_set_14 ?_
  refine z_iload_n b dX9_set_17 rfl rfl ?_
  refine z_iload_n b dX9_set_18 rfl rfl ?_
  refine y_iast (q0 := 15) (j := 25) b (cw_15 cy tE a rw S) (by decide) dX9_set_19 (cwa_15 cy tE a rw S 25 1) ?_
  exact z_vret (u := (su S 4 25 1)) b rfl dX9_set_20 rfl rfl (by decide) (by decide)

set_option maxHeartbeats 4000000 in
set_option maxRecDepth 100000 in
theorem c_X9_set_31 {l : Launch} {D : va_G} {cy : Nat → ClassId} {T0 tB tE : Nat} {a : Nat → Nat} {rw : Nat → Option Nat} (S : GS)   : Ct l D cy T0 tB tE yX9_set cX9_set 3 none 0 0 0 0 (cw cy tE a rw S) [.ref (a 14), .int 27, .int 1] (QV D (U := GS) (fun u => su S 4 27 1 = u) (cw cy tE a rw)) := by
  refine Ct.ofZ RX9 "set" [(0, .ref (a 14)), (1, .int 27), (2, .int 1)] rfl rfl rfl rfl (Nat.le_of_ble_eq_true rfl) ?_
  intro p e R s m args below meth c A b
  refine z_iload_n b dX9_set_0 rfl rfl ?_
  refine z_if_lt_f (tgt := 20) b dX9_set_1 (by decide) (by decide) ?_
  refine z_iload_n b dX9_set_4 rfl rfl ?_
  refine z_aload_n b dX9_set_5 rfl rfl ?_
  refine z_get (q0 := 14) (k9 := 0) (v := .ref (a 15)) b (cw_14 cy tE a rw S) rfl in_X9 (by decide) wf_X9_11 rfl dX9_set_6 ?_
  refine z_alen (q0 := 15) (t0 := 0) (v := 51) b (cw_15 cy tE a rw S) rfl rfl dX9_set_9 ?_
  refine z_icmp_ge_f (tgt := 20) b dX9_set_10 (by decide) (by decide) ?_
  refine z_aload_n b dX9_set_13 rfl rfl ?_
  refine z_get (q0 := 14) (k9 := 0) (v := .ref (a 15)) b (cw_14 cy tE a rw S) rfl in_X9 (by decide) wf_X9_11 rfl dX9_set_14 ?_
  refine z_iload_n b dX9_set_17 rfl rfl ?_
  refine z_iload_n b dX9_set_18 rfl rfl ?_
  refine y_iast (q0 := 15) (j := 27) b (cw_15 cy tE a rw S) (by decide) dX9_set_19 (cwa_15 cy tE a rw S 27 1) ?_
  exact z_vret (u := (su S 4 27 1)) b rfl dX9_set_20 rfl rfl (by decide) (by decide)

set_option maxHeartbeats 4000000 in
set_option maxRecDepth 100000 in
theorem c_X11_kin_50 {l : Launch} {D : va_G} {cy : Nat → ClassId} {T0 tB tE : Nat} {a : Nat → Nat} {rw : Nat → Option Nat} (S : GS)  (h_i_24 : fi S 24 = 0) : Ct l D cy T0 tB tE yX11_kin cX11_kin 6 (some .boolean) 2 41 0 0 (cw cy tE a rw S) [.ref (a 0), .int 1, .int 2, .int 0, .int 1] (QI D (U := GS) (fun r u => 1 = r ∧ (su (su S 4 25 1) 4 27 1) = u) (cw cy tE a rw)) := by
  refine Ct.ofZ RX11 "kin" [(0, .ref (a 0)), (1, .int 1), (2, .int 2), (3, .int 0), (4, .int 1)] rfl rfl rfl rfl (Nat.le_of_ble_eq_true rfl) ?_
  intro p e R s m args below meth c A b
  refine z_iload_n b dX11_kin_0 rfl rfl ?_
  refine z_iload_n b dX11_kin_1 rfl rfl ?_
  refine z_calli b (z_runS (As := [.int 1, .int 2]) (st := []) b (c_X11_arePair_15 S ) cf_X11_arePair wm_X11_84 ws_X11_arePair dX11_kin_2 rfl (Nat.le_of_ble_eq_true rfl) ⟨by decide, by decide, by decide, by decide⟩) (fun r2660 u2661 h2659 => ?_)
  obtain ⟨rfl, rfl⟩ := h2659
  refine z_if_eq_f (tgt := 16) b dX11_kin_5 (by decide) (by decide) ?_
  refine z_iload_n b dX11_kin_8 rfl rfl ?_
  refine z_iconst (v := 1) b dX11_kin_9 (by decide) ?_
  refine z_calli b (z_runS (As := [.int 0, .int 1]) (st := []) b (c_X11_isWithin_11 S ) cf_X11_isWithin wm_X11_73 ws_X11_isWithin dX11_kin_10 rfl (Nat.le_of_ble_eq_true rfl) ⟨by decide, by decide, by decide, by decide⟩) (fun r2663 u2664 h2662 => ?_)
  obtain ⟨rfl, rfl⟩ := h2662
  refine z_if_ne_t (tgt := 18) b dX11_kin_13 (by decide) (by decide) ?_
  refine z_iload b dX11_kin_18 rfl ?_
  refine z_if_eq_f (tgt := 27) b dX11_kin_20 (by decide) (by decide) ?_
  refine z_iconst (v := 1) b dX11_kin_23 (by decide) ?_
  refine z_goto (tgt := 28) b dX11_kin_24 (by decide) ?_
  refine z_istore (lv' := [(5, .int 1), (0, .ref (a 0)), (1, .int 1), (2, .int 2), (3, .int 0), (4, .int 1)]) b dX11_kin_28 (by decide) rfl ?_
  refine z_iload_n b dX11_kin_30 rfl rfl ?_
  refine z_if_ne_f (tgt := 71) b dX11_kin_31 (by decide) (by decide) ?_
  refine z_aload_n b dX11_kin_34 rfl rfl ?_
  refine z_get (q0 := 0) (k9 := 4) (v := .ref (a 14)) b (cw_0 cy tE a rw S) rfl in_X11 (by decide) wf_X11_34 rfl dX11_kin_35 ?_
  refine z_bipush (v := 20) b dX11_kin_38 (by decide) ?_
  refine z_iconst (v := 3) b dX11_kin_40 (by decide) ?_
  refine z_iload_n b dX11_kin_41 rfl rfl ?_
  refine z_imul (v := 3) b dX11_kin_42 (by decide) ?_
  refine z_iadd (v := 23) b dX11_kin_43 (by decide) ?_
  refine z_iload_n b dX11_kin_44 rfl rfl ?_
  refine z_iadd (v := 25) b dX11_kin_45 (by decide) ?_
  refine z_iload b dX11_kin_46 rfl ?_
  refine z_callv b (z_runV (q0 := 14) (As := [.int 25, .int 1]) (st := []) b (c_X9_set_30 S ) cf_X9_set (cw_14 cy tE a rw S) rfl wm_X11_77 wi_X9_set ws_X9_set dX11_kin_48 rfl (Nat.le_of_ble_eq_true rfl) ⟨by decide, by decide, by decide, by decide⟩) (fun u2667 h2665 => ?_)
  obtain rfl := h2665
  refine z_aload_n b dX11_kin_51 rfl rfl ?_
  refine z_get (q0 := 0) (k9 := 4) (v := .ref (a 14)) b (cw_0 cy tE a rw (su S 4 25 1)) rfl in_X11 (by decide) wf_X11_34 rfl dX11_kin_52 ?_
  refine z_bipush (v := 20) b dX11_kin_55 (by decide) ?_
  refine z_iconst (v := 3) b dX11_kin_57 (by decide) ?_
  refine z_iload_n b dX11_kin_58 rfl rfl ?_
  refine z_imul (v := 6) b dX11_kin_59 (by decide) ?_
  refine z_iadd (v := 26) b dX11_kin_60 (by decide) ?_
  refine z_iload_n b dX11_kin_61 rfl rfl ?_
  refine z_iadd (v := 27) b dX11_kin_62 (by decide) ?_
  refine z_iload b dX11_kin_63 rfl ?_
  refine z_callv b (z_runV (q0 := 14) (As := [.int 27, .int 1]) (st := []) b (c_X9_set_31 (su S 4 25 1) ) cf_X9_set (cw_14 cy tE a rw (su S 4 25 1)) rfl wm_X11_77 wi_X9_set ws_X9_set dX11_kin_65 rfl (Nat.le_of_ble_eq_true rfl) ⟨by decide, by decide, by decide, by decide⟩) (fun u2670 h2668 => ?_)
  obtain rfl := h2668
  refine z_goto (tgt := 88) b dX11_kin_68 (by decide) ?_
  refine z_aload_n b dX11_kin_88 rfl rfl ?_
  refine z_get (q0 := 0) (k9 := 6) (v := .ref (a 25)) b (cw_0 cy tE a rw (su (su S 4 25 1) 4 27 1)) rfl in_X11 (by decide) wf_X11_52 rfl dX11_kin_89 ?_
  refine z_callv b (z_runV (q0 := 25) (As := []) (st := []) b (c_X8_forget (su (su S 4 25 1) 4 27 1) h_i_24) cf_X8_forget (cw_25 cy tE a rw (su (su S 4 25 1) 4 27 1)) rfl wm_X11_81 wi_X8_forget ws_X8_forget dX11_kin_92 rfl (Nat.le_of_ble_eq_true rfl) ⟨by decide, by decide, by decide, by decide⟩) (fun u2673 h2671 => ?_)
  obtain rfl := h2671
  refine z_iconst (v := 1) b dX11_kin_95 (by decide) ?_
  exact z_zret (u := (su (su S 4 25 1) 4 27 1)) b rfl (by decide) dX11_kin_96 ⟨rfl, rfl⟩ rfl (by decide) (by decide)

set_option maxHeartbeats 4000000 in
set_option maxRecDepth 100000 in
theorem ch_X12_packs_42 {p : Program} {l : Launch} {e : Env} {R : Room} {s : State} {m : MethodId} {args : Array Value} {below : List Frame} {meth : Method} {c : Code} {D : va_G} {cy : Nat → ClassId} {T0 tB tE : Nat} {A : Nat → Prop} {Q : State → Prop} {a : Nat → Nat} (S : GS)  (h_a_0_0 : ar S 0 0 = 0) (h_a_1_1 : ar S 1 1 = 0) (h_a_1_2 : ar S 1 2 = 0) (h_a_2_0 : ar S 2 0 = 3) (h_a_3_1 : ar S 3 1 = 0) (h_a_4_1 : ar S 4 1 = 0) (h_a_4_2 : ar S 4 2 = 0) (h_i_0 : fi S 0 = 0) (b : Bz p R s m args meth c D cy T0 tB tE A 5 cX12_packs RX12 (some .long) "packs" 1 21 0 0) (k : Z p l e R s m args below meth c D A 5 Q 0 0 (mw cy a S) [(3, .int 1), (4, .int 2), (1, .long 1536), (0, .ref (a 0))] 21 [.int 1, .ref (a 1), .long 24576]) : Z p l e R s m args below meth c D A 5 Q 0 0 (mw cy a S) [(0, .ref (a 0))] 0 [] := by
  refine z_aload_n b dX12_packs_0 rfl rfl ?_
  refine z_get (q0 := 0) (k9 := 5) (v := .int (fi S 0)) b (mw_0 cy a S) rfl in_X12 (by decide) wf_X12_157 rfl dX12_packs_1 ?_
  refine z_eqi h_i_0 ?_
  refine z_i2l (v := 0) b dX12_packs_4 (by decide) ?_
  refine z_lstore_n (lv' := [(1, .long 0), (0, .ref (a 0))]) b dX12_packs_5 rfl (by decide) rfl ?_
  refine z_iconst (v := 0) b dX12_packs_6 (by decide) ?_
  refine z_istore_n (lv' := [(3, .int 0), (1, .long 0), (0, .ref (a 0))]) b dX12_packs_7 rfl (by decide) rfl ?_
  refine z_iload_n b dX12_packs_8 rfl rfl ?_
  refine z_iconst (v := 3) b dX12_packs_9 (by decide) ?_
  refine z_icmp_ge_f (tgt := 134) b dX12_packs_10 (by decide) (by decide) ?_
  refine z_lload_n b dX12_packs_13 rfl rfl ?_
  refine z_iconst (v := 4) b dX12_packs_14 (by decide) ?_
  refine z_lshl (v := 0) b dX12_packs_15 (by decide) ?_
  refine z_aload_n b dX12_packs_16 rfl rfl ?_
  refine z_get (q0 := 0) (k9 := 0) (v := .ref (a 1)) b (mw_0 cy a S) rfl in_X12 (by decide) wf_X12_13 rfl dX12_packs_17 ?_
  refine z_iload_n b dX12_packs_20 rfl rfl ?_
  refine y_iald (q0 := 1) (j := 0) (v := (ar S 0 0)) b (mw_1 cy a S) (by decide) rfl dX12_packs_21 ?_
  refine z_eqi h_a_0_0 ?_
  refine z_i2l (v := 0) b dX12_packs_22 (by decide) ?_
  refine z_lor (v := 0) b dX12_packs_23 (by decide) ?_
  refine z_lstore_n (lv' := [(1, .long 0), (3, .int 0), (0, .ref (a 0))]) b dX12_packs_24 rfl (by decide) rfl ?_
  refine z_lload_n b dX12_packs_25 rfl rfl ?_
  refine z_iconst (v := 2) b dX12_packs_26 (by decide) ?_
  refine z_lshl (v := 0) b dX12_packs_27 (by decide) ?_
  refine z_aload_n b dX12_packs_28 rfl rfl ?_
  refine z_get (q0 := 0) (k9 := 2) (v := .ref (a 3)) b (mw_0 cy a S) rfl in_X12 (by decide) wf_X12_20 rfl dX12_packs_29 ?_
  refine z_iload_n b dX12_packs_32 rfl rfl ?_
  refine y_iald (q0 := 3) (j := 0) (v := (ar S 2 0)) b (mw_3 cy a S) (by decide) rfl dX12_packs_33 ?_
  refine z_eqi h_a_2_0 ?_
  refine z_i2l (v := 3) b dX12_packs_34 (by decide) ?_
  refine z_lor (v := 3) b dX12_packs_35 (by decide) ?_
  refine z_lstore_n (lv' := [(1, .long 3), (3, .int 0), (0, .ref (a 0))]) b dX12_packs_36 rfl (by decide) rfl ?_
  refine z_lload_n b dX12_packs_37 rfl rfl ?_
  refine z_iconst (v := 1) b dX12_packs_38 (by decide) ?_
  refine z_lshl (v := 6) b dX12_packs_39 (by decide) ?_
  refine z_aload_n b dX12_packs_40 rfl rfl ?_
  refine z_get (q0 := 0) (k9 := 3) (v := .ref (a 4)) b (mw_0 cy a S) rfl in_X12 (by decide) wf_X12_23 rfl dX12_packs_41 ?_
  refine z_iconst (v := 3) b dX12_packs_44 (by decide) ?_
  refine z_iload_n b dX12_packs_45 rfl rfl ?_
  refine z_imul (v := 0) b dX12_packs_46 (by decide) ?_
  refine z_iload_n b dX12_packs_47 rfl rfl ?_
  refine z_iconst (v := 0) b dX12_packs_48 (by decide) ?_
  refine z_calli b (z_runS (As := [.int 0, .int 0]) (st := [.int 0, .ref (a 4), .long 6]) b (c_X12_other_6 S ) cf_X12_other wm_X12_160 ws_X12_other dX12_packs_49 rfl (Nat.le_of_ble_eq_true rfl) ⟨by decide, by decide, by decide, by decide⟩) (fun r2687 u2688 h2686 => ?_)
  obtain ⟨rfl, rfl⟩ := h2686
  refine z_iadd (v := 1) b dX12_packs_52 (by decide) ?_
  refine y_zald (q0 := 4) (j := 1) (v := (ar S 3 1)) b (mw_4 cy a S) (by decide) rfl dX12_packs_53 ?_
  refine z_eqi h_a_3_1 ?_
  refine z_if_eq_t (tgt := 61) b dX12_packs_54 (by decide) (by decide) ?_
  refine z_lconst (v := 0) b dX12_packs_61 (by decide) ?_
  refine z_lor (v := 6) b dX12_packs_62 (by decide) ?_
  refine z_lstore_n (lv' := [(1, .long 6), (3, .int 0), (0, .ref (a 0))]) b dX12_packs_63 rfl (by decide) rfl ?_
  refine z_iconst (v := 0) b dX12_packs_64 (by decide) ?_
  refine z_istore (lv' := [(4, .int 0), (1, .long 6), (3, .int 0), (0, .ref (a 0))]) b dX12_packs_65 (by decide) rfl ?_
  refine z_iload b dX12_packs_67 rfl ?_
  refine z_iconst (v := 2) b dX12_packs_69 (by decide) ?_
  refine z_icmp_ge_f (tgt := 128) b dX12_packs_70 (by decide) (by decide) ?_
  refine z_lload_n b dX12_packs_73 rfl rfl ?_
  refine z_iconst (v := 3) b dX12_packs_74 (by decide) ?_
  refine z_lshl (v := 48) b dX12_packs_75 (by decide) ?_
  refine z_aload_n b dX12_packs_76 rfl rfl ?_
  refine z_get (q0 := 0) (k9 := 1) (v := .ref (a 2)) b (mw_0 cy a S) rfl in_X12 (by decide) wf_X12_17 rfl dX12_packs_77 ?_
  refine z_iconst (v := 3) b dX12_packs_80 (by decide) ?_
  refine z_iload_n b dX12_packs_81 rfl rfl ?_
  refine z_imul (v := 0) b dX12_packs_82 (by decide) ?_
  refine z_iload_n b dX12_packs_83 rfl rfl ?_
  refine z_iload b dX12_packs_84 rfl ?_
  refine z_calli b (z_runS (As := [.int 0, .int 0]) (st := [.int 0, .ref (a 2), .long 48]) b (c_X12_other_6 S ) cf_X12_other wm_X12_160 ws_X12_other dX12_packs_86 rfl (Nat.le_of_ble_eq_true rfl) ⟨by decide, by decide, by decide, by decide⟩) (fun r2690 u2691 h2689 => ?_)
  obtain ⟨rfl, rfl⟩ := h2689
  refine z_iadd (v := 1) b dX12_packs_89 (by decide) ?_
  refine y_iald (q0 := 2) (j := 1) (v := (ar S 1 1)) b (mw_2 cy a S) (by decide) rfl dX12_packs_90 ?_
  refine z_eqi h_a_1_1 ?_
  refine z_i2l (v := 0) b dX12_packs_91 (by decide) ?_
  refine z_lor (v := 48) b dX12_packs_92 (by decide) ?_
  refine z_lstore_n (lv' := [(1, .long 48), (4, .int 0), (3, .int 0), (0, .ref (a 0))]) b dX12_packs_93 rfl (by decide) rfl ?_
  refine z_lload_n b dX12_packs_94 rfl rfl ?_
  refine z_iconst (v := 1) b dX12_packs_95 (by decide) ?_
  refine z_lshl (v := 96) b dX12_packs_96 (by decide) ?_
  refine z_aload_n b dX12_packs_97 rfl rfl ?_
  refine z_get (q0 := 0) (k9 := 4) (v := .ref (a 5)) b (mw_0 cy a S) rfl in_X12 (by decide) wf_X12_27 rfl dX12_packs_98 ?_
  refine z_iconst (v := 3) b dX12_packs_101 (by decide) ?_
  refine z_iload_n b dX12_packs_102 rfl rfl ?_
  refine z_imul (v := 0) b dX12_packs_103 (by decide) ?_
  refine z_iload_n b dX12_packs_104 rfl rfl ?_
  refine z_iload b dX12_packs_105 rfl ?_
  refine z_calli b (z_runS (As := [.int 0, .int 0]) (st := [.int 0, .ref (a 5), .long 96]) b (c_X12_other_6 S ) cf_X12_other wm_X12_160 ws_X12_other dX12_packs_107 rfl (Nat.le_of_ble_eq_true rfl) ⟨by decide, by decide, by decide, by decide⟩) (fun r2693 u2694 h2692 => ?_)
  obtain ⟨rfl, rfl⟩ := h2692
  refine z_iadd (v := 1) b dX12_packs_110 (by decide) ?_
  refine y_zald (q0 := 5) (j := 1) (v := (ar S 4 1)) b (mw_5 cy a S) (by decide) rfl dX12_packs_111 ?_
  refine z_eqi h_a_4_1 ?_
  refine z_if_eq_t (tgt := 119) b dX12_packs_112 (by decide) (by decide) ?_
  refine z_lconst (v := 0) b dX12_packs_119 (by decide) ?_
  refine z_lor (v := 96) b dX12_packs_120 (by decide) ?_
  refine z_lstore_n (lv' := [(1, .long 96), (4, .int 0), (3, .int 0), (0, .ref (a 0))]) b dX12_packs_121 rfl (by decide) rfl ?_
  refine z_iinc (k9 := 1) (v := 1) (lv' := [(4, .int 1), (1, .long 96), (3, .int 0), (0, .ref (a 0))]) b dX12_packs_122 rfl (by decide) (by decide) rfl ?_
  refine z_goto (tgt := 67) b dX12_packs_125 (by decide) ?_
  refine z_iload b dX12_packs_67 rfl ?_
  refine z_iconst (v := 2) b dX12_packs_69 (by decide) ?_
  refine z_icmp_ge_f (tgt := 128) b dX12_packs_70 (by decide) (by decide) ?_
  refine z_lload_n b dX12_packs_73 rfl rfl ?_
  refine z_iconst (v := 3) b dX12_packs_74 (by decide) ?_
  refine z_lshl (v := 768) b dX12_packs_75 (by decide) ?_
  refine z_aload_n b dX12_packs_76 rfl rfl ?_
  refine z_get (q0 := 0) (k9 := 1) (v := .ref (a 2)) b (mw_0 cy a S) rfl in_X12 (by decide) wf_X12_17 rfl dX12_packs_77 ?_
  refine z_iconst (v := 3) b dX12_packs_80 (by decide) ?_
  refine z_iload_n b dX12_packs_81 rfl rfl ?_
  refine z_imul (v := 0) b dX12_packs_82 (by decide) ?_
  refine z_iload_n b dX12_packs_83 rfl rfl ?_
  refine z_iload b dX12_packs_84 rfl ?_
  refine z_calli b (z_runS (As := [.int 0, .int 1]) (st := [.int 0, .ref (a 2), .long 768]) b (c_X12_other_5 S ) cf_X12_other wm_X12_160 ws_X12_other dX12_packs_86 rfl (Nat.le_of_ble_eq_true rfl) ⟨by decide, by decide, by decide, by decide⟩) (fun r2696 u2697 h2695 => ?_)
  obtain ⟨rfl, rfl⟩ := h2695
  refine z_iadd (v := 2) b dX12_packs_89 (by decide) ?_
  refine y_iald (q0 := 2) (j := 2) (v := (ar S 1 2)) b (mw_2 cy a S) (by decide) rfl dX12_packs_90 ?_
  refine z_eqi h_a_1_2 ?_
  refine z_i2l (v := 0) b dX12_packs_91 (by decide) ?_
  refine z_lor (v := 768) b dX12_packs_92 (by decide) ?_
  refine z_lstore_n (lv' := [(1, .long 768), (4, .int 1), (3, .int 0), (0, .ref (a 0))]) b dX12_packs_93 rfl (by decide) rfl ?_
  refine z_lload_n b dX12_packs_94 rfl rfl ?_
  refine z_iconst (v := 1) b dX12_packs_95 (by decide) ?_
  refine z_lshl (v := 1536) b dX12_packs_96 (by decide) ?_
  refine z_aload_n b dX12_packs_97 rfl rfl ?_
  refine z_get (q0 := 0) (k9 := 4) (v := .ref (a 5)) b (mw_0 cy a S) rfl in_X12 (by decide) wf_X12_27 rfl dX12_packs_98 ?_
  refine z_iconst (v := 3) b dX12_packs_101 (by decide) ?_
  refine z_iload_n b dX12_packs_102 rfl rfl ?_
  refine z_imul (v := 0) b dX12_packs_103 (by decide) ?_
  refine z_iload_n b dX12_packs_104 rfl rfl ?_
  refine z_iload b dX12_packs_105 rfl ?_
  refine z_calli b (z_runS (As := [.int 0, .int 1]) (st := [.int 0, .ref (a 5), .long 1536]) b (c_X12_other_5 S ) cf_X12_other wm_X12_160 ws_X12_other dX12_packs_107 rfl (Nat.le_of_ble_eq_true rfl) ⟨by decide, by decide, by decide, by decide⟩) (fun r2699 u2700 h2698 => ?_)
  obtain ⟨rfl, rfl⟩ := h2698
  refine z_iadd (v := 2) b dX12_packs_110 (by decide) ?_
  refine y_zald (q0 := 5) (j := 2) (v := (ar S 4 2)) b (mw_5 cy a S) (by decide) rfl dX12_packs_111 ?_
  refine z_eqi h_a_4_2 ?_
  refine z_if_eq_t (tgt := 119) b dX12_packs_112 (by decide) (by decide) ?_
  refine z_lconst (v := 0) b dX12_packs_119 (by decide) ?_
  refine z_lor (v := 1536) b dX12_packs_120 (by decide) ?_
  refine z_lstore_n (lv' := [(1, .long 1536), (4, .int 1), (3, .int 0), (0, .ref (a 0))]) b dX12_packs_121 rfl (by decide) rfl ?_
  refine z_iinc (k9 := 1) (v := 2) (lv' := [(4, .int 2), (1, .long 1536), (3, .int 0), (0, .ref (a 0))]) b dX12_packs_122 rfl (by decide) (by decide) rfl ?_
  refine z_goto (tgt := 67) b dX12_packs_125 (by decide) ?_
  refine z_iload b dX12_packs_67 rfl ?_
  refine z_iconst (v := 2) b dX12_packs_69 (by decide) ?_
  refine z_icmp_ge_t (tgt := 128) b dX12_packs_70 (by decide) (by decide) ?_
  refine z_iinc (k9 := 2) (v := 1) (lv' := [(3, .int 1), (4, .int 2), (1, .long 1536), (0, .ref (a 0))]) b dX12_packs_128 rfl (by decide) (by decide) rfl ?_
  refine z_goto (tgt := 8) b dX12_packs_131 (by decide) ?_
  refine z_iload_n b dX12_packs_8 rfl rfl ?_
  refine z_iconst (v := 3) b dX12_packs_9 (by decide) ?_
  refine z_icmp_ge_f (tgt := 134) b dX12_packs_10 (by decide) (by decide) ?_
  refine z_lload_n b dX12_packs_13 rfl rfl ?_
  refine z_iconst (v := 4) b dX12_packs_14 (by decide) ?_
  refine z_lshl (v := 24576) b dX12_packs_15 (by decide) ?_
  refine z_aload_n b dX12_packs_16 rfl rfl ?_
  refine z_get (q0 := 0) (k9 := 0) (v := .ref (a 1)) b (mw_0 cy a S) rfl in_X12 (by decide) wf_X12_13 rfl dX12_packs_17 ?_
  refine z_iload_n b dX12_packs_20 rfl rfl ?_
  exact k

set_option maxHeartbeats 4000000 in
set_option maxRecDepth 100000 in
theorem ch_X12_packs_43 {p : Program} {l : Launch} {e : Env} {R : Room} {s : State} {m : MethodId} {args : Array Value} {below : List Frame} {meth : Method} {c : Code} {D : va_G} {cy : Nat → ClassId} {T0 tB tE : Nat} {A : Nat → Prop} {Q : State → Prop} {a : Nat → Nat} (S : GS)  (h_a_0_1 : ar S 0 1 = 0) (h_a_0_2 : ar S 0 2 = 0) (h_a_1_3 : ar S 1 3 = 0) (h_a_1_5 : ar S 1 5 = 0) (h_a_2_1 : ar S 2 1 = 3) (h_a_2_2 : ar S 2 2 = 3) (h_a_3_5 : ar S 3 5 = 1) (h_a_4_3 : ar S 4 3 = 0) (h_a_4_5 : ar S 4 5 = 0) (b : Bz p R s m args meth c D cy T0 tB tE A 5 cX12_packs RX12 (some .long) "packs" 1 21 0 0) (k : Z p l e R s m args below meth c D A 5 Q 0 0 (mw cy a S) [(1, .long 805335040), (3, .int 2), (4, .int 2), (0, .ref (a 0))] 36 [.long 3221340163]) : Z p l e R s m args below meth c D A 5 Q 0 0 (mw cy a S) [(3, .int 1), (4, .int 2), (1, .long 1536), (0, .ref (a 0))] 21 [.int 1, .ref (a 1), .long 24576] := by
  refine y_iald (q0 := 1) (j := 1) (v := (ar S 0 1)) b (mw_1 cy a S) (by decide) rfl dX12_packs_21 ?_
  refine z_eqi h_a_0_1 ?_
  refine z_i2l (v := 0) b dX12_packs_22 (by decide) ?_
  refine z_lor (v := 24576) b dX12_packs_23 (by decide) ?_
  refine z_lstore_n (lv' := [(1, .long 24576), (3, .int 1), (4, .int 2), (0, .ref (a 0))]) b dX12_packs_24 rfl (by decide) rfl ?_
  refine z_lload_n b dX12_packs_25 rfl rfl ?_
  refine z_iconst (v := 2) b dX12_packs_26 (by decide) ?_
  refine z_lshl (v := 98304) b dX12_packs_27 (by decide) ?_
  refine z_aload_n b dX12_packs_28 rfl rfl ?_
  refine z_get (q0 := 0) (k9 := 2) (v := .ref (a 3)) b (mw_0 cy a S) rfl in_X12 (by decide) wf_X12_20 rfl dX12_packs_29 ?_
  refine z_iload_n b dX12_packs_32 rfl rfl ?_
  refine y_iald (q0 := 3) (j := 1) (v := (ar S 2 1)) b (mw_3 cy a S) (by decide) rfl dX12_packs_33 ?_
  refine z_eqi h_a_2_1 ?_
  refine z_i2l (v := 3) b dX12_packs_34 (by decide) ?_
  refine z_lor (v := 98307) b dX12_packs_35 (by decide) ?_
  refine z_lstore_n (lv' := [(1, .long 98307), (3, .int 1), (4, .int 2), (0, .ref (a 0))]) b dX12_packs_36 rfl (by decide) rfl ?_
  refine z_lload_n b dX12_packs_37 rfl rfl ?_
  refine z_iconst (v := 1) b dX12_packs_38 (by decide) ?_
  refine z_lshl (v := 196614) b dX12_packs_39 (by decide) ?_
  refine z_aload_n b dX12_packs_40 rfl rfl ?_
  refine z_get (q0 := 0) (k9 := 3) (v := .ref (a 4)) b (mw_0 cy a S) rfl in_X12 (by decide) wf_X12_23 rfl dX12_packs_41 ?_
  refine z_iconst (v := 3) b dX12_packs_44 (by decide) ?_
  refine z_iload_n b dX12_packs_45 rfl rfl ?_
  refine z_imul (v := 3) b dX12_packs_46 (by decide) ?_
  refine z_iload_n b dX12_packs_47 rfl rfl ?_
  refine z_iconst (v := 0) b dX12_packs_48 (by decide) ?_
  refine z_calli b (z_runS (As := [.int 1, .int 0]) (st := [.int 3, .ref (a 4), .long 196614]) b (c_X12_other_4 S ) cf_X12_other wm_X12_160 ws_X12_other dX12_packs_49 rfl (Nat.le_of_ble_eq_true rfl) ⟨by decide, by decide, by decide, by decide⟩) (fun r2702 u2703 h2701 => ?_)
  obtain ⟨rfl, rfl⟩ := h2701
  refine z_iadd (v := 5) b dX12_packs_52 (by decide) ?_
  refine y_zald (q0 := 4) (j := 5) (v := (ar S 3 5)) b (mw_4 cy a S) (by decide) rfl dX12_packs_53 ?_
  refine z_eqi h_a_3_5 ?_
  refine z_if_eq_f (tgt := 61) b dX12_packs_54 (by decide) (by decide) ?_
  refine z_lconst (v := 1) b dX12_packs_57 (by decide) ?_
  refine z_goto (tgt := 62) b dX12_packs_58 (by decide) ?_
  refine z_lor (v := 196615) b dX12_packs_62 (by decide) ?_
  refine z_lstore_n (lv' := [(1, .long 196615), (3, .int 1), (4, .int 2), (0, .ref (a 0))]) b dX12_packs_63 rfl (by decide) rfl ?_
  refine z_iconst (v := 0) b dX12_packs_64 (by decide) ?_
  refine z_istore (lv' := [(4, .int 0), (1, .long 196615), (3, .int 1), (0, .ref (a 0))]) b dX12_packs_65 (by decide) rfl ?_
  refine z_iload b dX12_packs_67 rfl ?_
  refine z_iconst (v := 2) b dX12_packs_69 (by decide) ?_
  refine z_icmp_ge_f (tgt := 128) b dX12_packs_70 (by decide) (by decide) ?_
  refine z_lload_n b dX12_packs_73 rfl rfl ?_
  refine z_iconst (v := 3) b dX12_packs_74 (by decide) ?_
  refine z_lshl (v := 1572920) b dX12_packs_75 (by decide) ?_
  refine z_aload_n b dX12_packs_76 rfl rfl ?_
  refine z_get (q0 := 0) (k9 := 1) (v := .ref (a 2)) b (mw_0 cy a S) rfl in_X12 (by decide) wf_X12_17 rfl dX12_packs_77 ?_
  refine z_iconst (v := 3) b dX12_packs_80 (by decide) ?_
  refine z_iload_n b dX12_packs_81 rfl rfl ?_
  refine z_imul (v := 3) b dX12_packs_82 (by decide) ?_
  refine z_iload_n b dX12_packs_83 rfl rfl ?_
  refine z_iload b dX12_packs_84 rfl ?_
  refine z_calli b (z_runS (As := [.int 1, .int 0]) (st := [.int 3, .ref (a 2), .long 1572920]) b (c_X12_other_4 S ) cf_X12_other wm_X12_160 ws_X12_other dX12_packs_86 rfl (Nat.le_of_ble_eq_true rfl) ⟨by decide, by decide, by decide, by decide⟩) (fun r2705 u2706 h2704 => ?_)
  obtain ⟨rfl, rfl⟩ := h2704
  refine z_iadd (v := 5) b dX12_packs_89 (by decide) ?_
  refine y_iald (q0 := 2) (j := 5) (v := (ar S 1 5)) b (mw_2 cy a S) (by decide) rfl dX12_packs_90 ?_
  refine z_eqi h_a_1_5 ?_
  refine z_i2l (v := 0) b dX12_packs_91 (by decide) ?_
  refine z_lor (v := 1572920) b dX12_packs_92 (by decide) ?_
  refine z_lstore_n (lv' := [(1, .long 1572920), (4, .int 0), (3, .int 1), (0, .ref (a 0))]) b dX12_packs_93 rfl (by decide) rfl ?_
  refine z_lload_n b dX12_packs_94 rfl rfl ?_
  refine z_iconst (v := 1) b dX12_packs_95 (by decide) ?_
  refine z_lshl (v := 3145840) b dX12_packs_96 (by decide) ?_
  refine z_aload_n b dX12_packs_97 rfl rfl ?_
  refine z_get (q0 := 0) (k9 := 4) (v := .ref (a 5)) b (mw_0 cy a S) rfl in_X12 (by decide) wf_X12_27 rfl dX12_packs_98 ?_
  refine z_iconst (v := 3) b dX12_packs_101 (by decide) ?_
  refine z_iload_n b dX12_packs_102 rfl rfl ?_
  refine z_imul (v := 3) b dX12_packs_103 (by decide) ?_
  refine z_iload_n b dX12_packs_104 rfl rfl ?_
  refine z_iload b dX12_packs_105 rfl ?_
  refine z_calli b (z_runS (As := [.int 1, .int 0]) (st := [.int 3, .ref (a 5), .long 3145840]) b (c_X12_other_4 S ) cf_X12_other wm_X12_160 ws_X12_other dX12_packs_107 rfl (Nat.le_of_ble_eq_true rfl) ⟨by decide, by decide, by decide, by decide⟩) (fun r2708 u2709 h2707 => ?_)
  obtain ⟨rfl, rfl⟩ := h2707
  refine z_iadd (v := 5) b dX12_packs_110 (by decide) ?_
  refine y_zald (q0 := 5) (j := 5) (v := (ar S 4 5)) b (mw_5 cy a S) (by decide) rfl dX12_packs_111 ?_
  refine z_eqi h_a_4_5 ?_
  refine z_if_eq_t (tgt := 119) b dX12_packs_112 (by decide) (by decide) ?_
  refine z_lconst (v := 0) b dX12_packs_119 (by decide) ?_
  refine z_lor (v := 3145840) b dX12_packs_120 (by decide) ?_
  refine z_lstore_n (lv' := [(1, .long 3145840), (4, .int 0), (3, .int 1), (0, .ref (a 0))]) b dX12_packs_121 rfl (by decide) rfl ?_
  refine z_iinc (k9 := 1) (v := 1) (lv' := [(4, .int 1), (1, .long 3145840), (3, .int 1), (0, .ref (a 0))]) b dX12_packs_122 rfl (by decide) (by decide) rfl ?_
  refine z_goto (tgt := 67) b dX12_packs_125 (by decide) ?_
  refine z_iload b dX12_packs_67 rfl ?_
  refine z_iconst (v := 2) b dX12_packs_69 (by decide) ?_
  refine z_icmp_ge_f (tgt := 128) b dX12_packs_70 (by decide) (by decide) ?_
  refine z_lload_n b dX12_packs_73 rfl rfl ?_
  refine z_iconst (v := 3) b dX12_packs_74 (by decide) ?_
  refine z_lshl (v := 25166720) b dX12_packs_75 (by decide) ?_
  refine z_aload_n b dX12_packs_76 rfl rfl ?_
  refine z_get (q0 := 0) (k9 := 1) (v := .ref (a 2)) b (mw_0 cy a S) rfl in_X12 (by decide) wf_X12_17 rfl dX12_packs_77 ?_
  refine z_iconst (v := 3) b dX12_packs_80 (by decide) ?_
  refine z_iload_n b dX12_packs_81 rfl rfl ?_
  refine z_imul (v := 3) b dX12_packs_82 (by decide) ?_
  refine z_iload_n b dX12_packs_83 rfl rfl ?_
  refine z_iload b dX12_packs_84 rfl ?_
  refine z_calli b (z_runS (As := [.int 1, .int 1]) (st := [.int 3, .ref (a 2), .long 25166720]) b (c_X12_other_3 S ) cf_X12_other wm_X12_160 ws_X12_other dX12_packs_86 rfl (Nat.le_of_ble_eq_true rfl) ⟨by decide, by decide, by decide, by decide⟩) (fun r2711 u2712 h2710 => ?_)
  obtain ⟨rfl, rfl⟩ := h2710
  refine z_iadd (v := 3) b dX12_packs_89 (by decide) ?_
  refine y_iald (q0 := 2) (j := 3) (v := (ar S 1 3)) b (mw_2 cy a S) (by decide) rfl dX12_packs_90 ?_
  refine z_eqi h_a_1_3 ?_
  refine z_i2l (v := 0) b dX12_packs_91 (by decide) ?_
  refine z_lor (v := 25166720) b dX12_packs_92 (by decide) ?_
  refine z_lstore_n (lv' := [(1, .long 25166720), (4, .int 1), (3, .int 1), (0, .ref (a 0))]) b dX12_packs_93 rfl (by decide) rfl ?_
  refine z_lload_n b dX12_packs_94 rfl rfl ?_
  refine z_iconst (v := 1) b dX12_packs_95 (by decide) ?_
  refine z_lshl (v := 50333440) b dX12_packs_96 (by decide) ?_
  refine z_aload_n b dX12_packs_97 rfl rfl ?_
  refine z_get (q0 := 0) (k9 := 4) (v := .ref (a 5)) b (mw_0 cy a S) rfl in_X12 (by decide) wf_X12_27 rfl dX12_packs_98 ?_
  refine z_iconst (v := 3) b dX12_packs_101 (by decide) ?_
  refine z_iload_n b dX12_packs_102 rfl rfl ?_
  refine z_imul (v := 3) b dX12_packs_103 (by decide) ?_
  refine z_iload_n b dX12_packs_104 rfl rfl ?_
  refine z_iload b dX12_packs_105 rfl ?_
  refine z_calli b (z_runS (As := [.int 1, .int 1]) (st := [.int 3, .ref (a 5), .long 50333440]) b (c_X12_other_3 S ) cf_X12_other wm_X12_160 ws_X12_other dX12_packs_107 rfl (Nat.le_of_ble_eq_true rfl) ⟨by decide, by decide, by decide, by decide⟩) (fun r2714 u2715 h2713 => ?_)
  obtain ⟨rfl, rfl⟩ := h2713
  refine z_iadd (v := 3) b dX12_packs_110 (by decide) ?_
  refine y_zald (q0 := 5) (j := 3) (v := (ar S 4 3)) b (mw_5 cy a S) (by decide) rfl dX12_packs_111 ?_
  refine z_eqi h_a_4_3 ?_
  refine z_if_eq_t (tgt := 119) b dX12_packs_112 (by decide) (by decide) ?_
  refine z_lconst (v := 0) b dX12_packs_119 (by decide) ?_
  refine z_lor (v := 50333440) b dX12_packs_120 (by decide) ?_
  refine z_lstore_n (lv' := [(1, .long 50333440), (4, .int 1), (3, .int 1), (0, .ref (a 0))]) b dX12_packs_121 rfl (by decide) rfl ?_
  refine z_iinc (k9 := 1) (v := 2) (lv' := [(4, .int 2), (1, .long 50333440), (3, .int 1), (0, .ref (a 0))]) b dX12_packs_122 rfl (by decide) (by decide) rfl ?_
  refine z_goto (tgt := 67) b dX12_packs_125 (by decide) ?_
  refine z_iload b dX12_packs_67 rfl ?_
  refine z_iconst (v := 2) b dX12_packs_69 (by decide) ?_
  refine z_icmp_ge_t (tgt := 128) b dX12_packs_70 (by decide) (by decide) ?_
  refine z_iinc (k9 := 2) (v := 2) (lv' := [(3, .int 2), (4, .int 2), (1, .long 50333440), (0, .ref (a 0))]) b dX12_packs_128 rfl (by decide) (by decide) rfl ?_
  refine z_goto (tgt := 8) b dX12_packs_131 (by decide) ?_
  refine z_iload_n b dX12_packs_8 rfl rfl ?_
  refine z_iconst (v := 3) b dX12_packs_9 (by decide) ?_
  refine z_icmp_ge_f (tgt := 134) b dX12_packs_10 (by decide) (by decide) ?_
  refine z_lload_n b dX12_packs_13 rfl rfl ?_
  refine z_iconst (v := 4) b dX12_packs_14 (by decide) ?_
  refine z_lshl (v := 805335040) b dX12_packs_15 (by decide) ?_
  refine z_aload_n b dX12_packs_16 rfl rfl ?_
  refine z_get (q0 := 0) (k9 := 0) (v := .ref (a 1)) b (mw_0 cy a S) rfl in_X12 (by decide) wf_X12_13 rfl dX12_packs_17 ?_
  refine z_iload_n b dX12_packs_20 rfl rfl ?_
  refine y_iald (q0 := 1) (j := 2) (v := (ar S 0 2)) b (mw_1 cy a S) (by decide) rfl dX12_packs_21 ?_
  refine z_eqi h_a_0_2 ?_
  refine z_i2l (v := 0) b dX12_packs_22 (by decide) ?_
  refine z_lor (v := 805335040) b dX12_packs_23 (by decide) ?_
  refine z_lstore_n (lv' := [(1, .long 805335040), (3, .int 2), (4, .int 2), (0, .ref (a 0))]) b dX12_packs_24 rfl (by decide) rfl ?_
  refine z_lload_n b dX12_packs_25 rfl rfl ?_
  refine z_iconst (v := 2) b dX12_packs_26 (by decide) ?_
  refine z_lshl (v := 3221340160) b dX12_packs_27 (by decide) ?_
  refine z_aload_n b dX12_packs_28 rfl rfl ?_
  refine z_get (q0 := 0) (k9 := 2) (v := .ref (a 3)) b (mw_0 cy a S) rfl in_X12 (by decide) wf_X12_20 rfl dX12_packs_29 ?_
  refine z_iload_n b dX12_packs_32 rfl rfl ?_
  refine y_iald (q0 := 3) (j := 2) (v := (ar S 2 2)) b (mw_3 cy a S) (by decide) rfl dX12_packs_33 ?_
  refine z_eqi h_a_2_2 ?_
  refine z_i2l (v := 3) b dX12_packs_34 (by decide) ?_
  refine z_lor (v := 3221340163) b dX12_packs_35 (by decide) ?_
  exact k

set_option maxHeartbeats 4000000 in
set_option maxRecDepth 100000 in
theorem c_X12_packs_20 {l : Launch} {D : va_G} {cy : Nat → ClassId} {T0 tB tE : Nat} {a : Nat → Nat} (S : GS)  (h_i_0 : fi S 0 = 0) (h_a_0_0 : ar S 0 0 = 0) (h_a_2_0 : ar S 2 0 = 3) (h_a_3_1 : ar S 3 1 = 0) (h_a_1_1 : ar S 1 1 = 0) (h_a_4_1 : ar S 4 1 = 0) (h_a_1_2 : ar S 1 2 = 0) (h_a_4_2 : ar S 4 2 = 0) (h_a_0_1 : ar S 0 1 = 0) (h_a_2_1 : ar S 2 1 = 3) (h_a_3_5 : ar S 3 5 = 1) (h_a_1_5 : ar S 1 5 = 0) (h_a_4_5 : ar S 4 5 = 0) (h_a_1_3 : ar S 1 3 = 0) (h_a_4_3 : ar S 4 3 = 0) (h_a_0_2 : ar S 0 2 = 0) (h_a_2_2 : ar S 2 2 = 3) (h_a_3_6 : ar S 3 6 = 0) (h_a_1_6 : ar S 1 6 = 0) (h_a_4_6 : ar S 4 6 = 0) (h_a_1_7 : ar S 1 7 = 0) (h_a_4_7 : ar S 4 7 = 0) : Ct l D cy T0 tB tE yX12_packs cX12_packs 5 (some .long) 1 21 0 0 (mw cy a S) [.ref (a 0)] (QL D (U := GS) (fun r u => 1649326163456 = r ∧ S = u) (mw cy a)) := by
  refine Ct.ofZ RX12 "packs" [(0, .ref (a 0))] rfl rfl rfl rfl (Nat.le_of_ble_eq_true rfl) ?_
  intro p e R s m args below meth c A b
  refine ch_X12_packs_42 S  h_a_0_0 h_a_1_1 h_a_1_2 h_a_2_0 h_a_3_1 h_a_4_1 h_a_4_2 h_i_0  b ?_
  refine ch_X12_packs_43 S  h_a_0_1 h_a_0_2 h_a_1_3 h_a_1_5 h_a_2_1 h_a_2_2 h_a_3_5 h_a_4_3 h_a_4_5  b ?_
  refine z_lstore_n (lv' := [(1, .long 3221340163), (3, .int 2), (4, .int 2), (0, .ref (a 0))]) b dX12_packs_36 rfl (by decide) rfl ?_
  refine z_lload_n b dX12_packs_37 rfl rfl ?_
  refine z_iconst (v := 1) b dX12_packs_38 (by decide) ?_
  refine z_lshl (v := 6442680326) b dX12_packs_39 (by decide) ?_
  refine z_aload_n b dX12_packs_40 rfl rfl ?_
  refine z_get (q0 := 0) (k9 := 3) (v := .ref (a 4)) b (mw_0 cy a S) rfl in_X12 (by decide) wf_X12_23 rfl dX12_packs_41 ?_
  refine z_iconst (v := 3) b dX12_packs_44 (by decide) ?_
  refine z_iload_n b dX12_packs_45 rfl rfl ?_
  refine z_imul (v := 6) b dX12_packs_46 (by decide) ?_
  refine z_iload_n b dX12_packs_47 rfl rfl ?_
  refine z_iconst (v := 0) b dX12_packs_48 (by decide) ?_
  refine z_calli b (z_runS (As := [.int 2, .int 0]) (st := [.int 6, .ref (a 4), .long 6442680326]) b (c_X12_other_2 S ) cf_X12_other wm_X12_160 ws_X12_other dX12_packs_49 rfl (Nat.le_of_ble_eq_true rfl) ⟨by decide, by decide, by decide, by decide⟩) (fun r2717 u2718 h2716 => ?_)
  obtain ⟨rfl, rfl⟩ := h2716
  refine z_iadd (v := 6) b dX12_packs_52 (by decide) ?_
  refine y_zald (q0 := 4) (j := 6) (v := (ar S 3 6)) b (mw_4 cy a S) (by decide) rfl dX12_packs_53 ?_
  refine z_eqi h_a_3_6 ?_
  refine z_if_eq_t (tgt := 61) b dX12_packs_54 (by decide) (by decide) ?_
  refine z_lconst (v := 0) b dX12_packs_61 (by decide) ?_
  refine z_lor (v := 6442680326) b dX12_packs_62 (by decide) ?_
  refine z_lstore_n (lv' := [(1, .long 6442680326), (3, .int 2), (4, .int 2), (0, .ref (a 0))]) b dX12_packs_63 rfl (by decide) rfl ?_
  refine z_iconst (v := 0) b dX12_packs_64 (by decide) ?_
  refine z_istore (lv' := [(4, .int 0), (1, .long 6442680326), (3, .int 2), (0, .ref (a 0))]) b dX12_packs_65 (by decide) rfl ?_
  refine z_iload b dX12_packs_67 rfl ?_
  refine z_iconst (v := 2) b dX12_packs_69 (by decide) ?_
  refine z_icmp_ge_f (tgt := 128) b dX12_packs_70 (by decide) (by decide) ?_
  refine z_lload_n b dX12_packs_73 rfl rfl ?_
  refine z_iconst (v := 3) b dX12_packs_74 (by decide) ?_
  refine z_lshl (v := 51541442608) b dX12_packs_75 (by decide) ?_
  refine z_aload_n b dX12_packs_76 rfl rfl ?_
  refine z_get (q0 := 0) (k9 := 1) (v := .ref (a 2)) b (mw_0 cy a S) rfl in_X12 (by decide) wf_X12_17 rfl dX12_packs_77 ?_
  refine z_iconst (v := 3) b dX12_packs_80 (by decide) ?_
  refine z_iload_n b dX12_packs_81 rfl rfl ?_
  refine z_imul (v := 6) b dX12_packs_82 (by decide) ?_
  refine z_iload_n b dX12_packs_83 rfl rfl ?_
  refine z_iload b dX12_packs_84 rfl ?_
  refine z_calli b (z_runS (As := [.int 2, .int 0]) (st := [.int 6, .ref (a 2), .long 51541442608]) b (c_X12_other_2 S ) cf_X12_other wm_X12_160 ws_X12_other dX12_packs_86 rfl (Nat.le_of_ble_eq_true rfl) ⟨by decide, by decide, by decide, by decide⟩) (fun r2720 u2721 h2719 => ?_)
  obtain ⟨rfl, rfl⟩ := h2719
  refine z_iadd (v := 6) b dX12_packs_89 (by decide) ?_
  refine y_iald (q0 := 2) (j := 6) (v := (ar S 1 6)) b (mw_2 cy a S) (by decide) rfl dX12_packs_90 ?_
  refine z_eqi h_a_1_6 ?_
  refine z_i2l (v := 0) b dX12_packs_91 (by decide) ?_
  refine z_lor (v := 51541442608) b dX12_packs_92 (by decide) ?_
  refine z_lstore_n (lv' := [(1, .long 51541442608), (4, .int 0), (3, .int 2), (0, .ref (a 0))]) b dX12_packs_93 rfl (by decide) rfl ?_
  refine z_lload_n b dX12_packs_94 rfl rfl ?_
  refine z_iconst (v := 1) b dX12_packs_95 (by decide) ?_
  refine z_lshl (v := 103082885216) b dX12_packs_96 (by decide) ?_
  refine z_aload_n b dX12_packs_97 rfl rfl ?_
  refine z_get (q0 := 0) (k9 := 4) (v := .ref (a 5)) b (mw_0 cy a S) rfl in_X12 (by decide) wf_X12_27 rfl dX12_packs_98 ?_
  refine z_iconst (v := 3) b dX12_packs_101 (by decide) ?_
  refine z_iload_n b dX12_packs_102 rfl rfl ?_
  refine z_imul (v := 6) b dX12_packs_103 (by decide) ?_
  refine z_iload_n b dX12_packs_104 rfl rfl ?_
  refine z_iload b dX12_packs_105 rfl ?_
  refine z_calli b (z_runS (As := [.int 2, .int 0]) (st := [.int 6, .ref (a 5), .long 103082885216]) b (c_X12_other_2 S ) cf_X12_other wm_X12_160 ws_X12_other dX12_packs_107 rfl (Nat.le_of_ble_eq_true rfl) ⟨by decide, by decide, by decide, by decide⟩) (fun r2723 u2724 h2722 => ?_)
  obtain ⟨rfl, rfl⟩ := h2722
  refine z_iadd (v := 6) b dX12_packs_110 (by decide) ?_
  refine y_zald (q0 := 5) (j := 6) (v := (ar S 4 6)) b (mw_5 cy a S) (by decide) rfl dX12_packs_111 ?_
  refine z_eqi h_a_4_6 ?_
  refine z_if_eq_t (tgt := 119) b dX12_packs_112 (by decide) (by decide) ?_
  refine z_lconst (v := 0) b dX12_packs_119 (by decide) ?_
  refine z_lor (v := 103082885216) b dX12_packs_120 (by decide) ?_
  refine z_lstore_n (lv' := [(1, .long 103082885216), (4, .int 0), (3, .int 2), (0, .ref (a 0))]) b dX12_packs_121 rfl (by decide) rfl ?_
  refine z_iinc (k9 := 1) (v := 1) (lv' := [(4, .int 1), (1, .long 103082885216), (3, .int 2), (0, .ref (a 0))]) b dX12_packs_122 rfl (by decide) (by decide) rfl ?_
  refine z_goto (tgt := 67) b dX12_packs_125 (by decide) ?_
  refine z_iload b dX12_packs_67 rfl ?_
  refine z_iconst (v := 2) b dX12_packs_69 (by decide) ?_
  refine z_icmp_ge_f (tgt := 128) b dX12_packs_70 (by decide) (by decide) ?_
  refine z_lload_n b dX12_packs_73 rfl rfl ?_
  refine z_iconst (v := 3) b dX12_packs_74 (by decide) ?_
  refine z_lshl (v := 824663081728) b dX12_packs_75 (by decide) ?_
  refine z_aload_n b dX12_packs_76 rfl rfl ?_
  refine z_get (q0 := 0) (k9 := 1) (v := .ref (a 2)) b (mw_0 cy a S) rfl in_X12 (by decide) wf_X12_17 rfl dX12_packs_77 ?_
  refine z_iconst (v := 3) b dX12_packs_80 (by decide) ?_
  refine z_iload_n b dX12_packs_81 rfl rfl ?_
  refine z_imul (v := 6) b dX12_packs_82 (by decide) ?_
  refine z_iload_n b dX12_packs_83 rfl rfl ?_
  refine z_iload b dX12_packs_84 rfl ?_
  refine z_calli b (z_runS (As := [.int 2, .int 1]) (st := [.int 6, .ref (a 2), .long 824663081728]) b (c_X12_other S ) cf_X12_other wm_X12_160 ws_X12_other dX12_packs_86 rfl (Nat.le_of_ble_eq_true rfl) ⟨by decide, by decide, by decide, by decide⟩) (fun r2726 u2727 h2725 => ?_)
  obtain ⟨rfl, rfl⟩ := h2725
  refine z_iadd (v := 7) b dX12_packs_89 (by decide) ?_
  refine y_iald (q0 := 2) (j := 7) (v := (ar S 1 7)) b (mw_2 cy a S) (by decide) rfl dX12_packs_90 ?_
  refine z_eqi h_a_1_7 ?_
  refine z_i2l (v := 0) b dX12_packs_91 (by decide) ?_
  refine z_lor (v := 824663081728) b dX12_packs_92 (by decide) ?_
  refine z_lstore_n (lv' := [(1, .long 824663081728), (4, .int 1), (3, .int 2), (0, .ref (a 0))]) b dX12_packs_93 rfl (by decide) rfl ?_
  refine z_lload_n b dX12_packs_94 rfl rfl ?_
  refine z_iconst (v := 1) b dX12_packs_95 (by decide) ?_
  refine z_lshl (v := 1649326163456) b dX12_packs_96 (by decide) ?_
  refine z_aload_n b dX12_packs_97 rfl rfl ?_
  refine z_get (q0 := 0) (k9 := 4) (v := .ref (a 5)) b (mw_0 cy a S) rfl in_X12 (by decide) wf_X12_27 rfl dX12_packs_98 ?_
  refine z_iconst (v := 3) b dX12_packs_101 (by decide) ?_
  refine z_iload_n b dX12_packs_102 rfl rfl ?_
  refine z_imul (v := 6) b dX12_packs_103 (by decide) ?_
  refine z_iload_n b dX12_packs_104 rfl rfl ?_
  refine z_iload b dX12_packs_105 rfl ?_
  refine z_calli b (z_runS (As := [.int 2, .int 1]) (st := [.int 6, .ref (a 5), .long 1649326163456]) b (c_X12_other S ) cf_X12_other wm_X12_160 ws_X12_other dX12_packs_107 rfl (Nat.le_of_ble_eq_true rfl) ⟨by decide, by decide, by decide, by decide⟩) (fun r2729 u2730 h2728 => ?_)
  obtain ⟨rfl, rfl⟩ := h2728
  refine z_iadd (v := 7) b dX12_packs_110 (by decide) ?_
  refine y_zald (q0 := 5) (j := 7) (v := (ar S 4 7)) b (mw_5 cy a S) (by decide) rfl dX12_packs_111 ?_
  refine z_eqi h_a_4_7 ?_
  refine z_if_eq_t (tgt := 119) b dX12_packs_112 (by decide) (by decide) ?_
  refine z_lconst (v := 0) b dX12_packs_119 (by decide) ?_
  refine z_lor (v := 1649326163456) b dX12_packs_120 (by decide) ?_
  refine z_lstore_n (lv' := [(1, .long 1649326163456), (4, .int 1), (3, .int 2), (0, .ref (a 0))]) b dX12_packs_121 rfl (by decide) rfl ?_
  refine z_iinc (k9 := 1) (v := 2) (lv' := [(4, .int 2), (1, .long 1649326163456), (3, .int 2), (0, .ref (a 0))]) b dX12_packs_122 rfl (by decide) (by decide) rfl ?_
  refine z_goto (tgt := 67) b dX12_packs_125 (by decide) ?_
  refine z_iload b dX12_packs_67 rfl ?_
  refine z_iconst (v := 2) b dX12_packs_69 (by decide) ?_
  refine z_icmp_ge_t (tgt := 128) b dX12_packs_70 (by decide) (by decide) ?_
  refine z_iinc (k9 := 2) (v := 3) (lv' := [(3, .int 3), (4, .int 2), (1, .long 1649326163456), (0, .ref (a 0))]) b dX12_packs_128 rfl (by decide) (by decide) rfl ?_
  refine z_goto (tgt := 8) b dX12_packs_131 (by decide) ?_
  refine z_iload_n b dX12_packs_8 rfl rfl ?_
  refine z_iconst (v := 3) b dX12_packs_9 (by decide) ?_
  refine z_icmp_ge_t (tgt := 134) b dX12_packs_10 (by decide) (by decide) ?_
  refine z_lload_n b dX12_packs_134 rfl rfl ?_
  exact z_lret (u := S) b rfl dX12_packs_135 ⟨rfl, rfl⟩ rfl (by decide) (by decide)

set_option maxHeartbeats 4000000 in
set_option maxRecDepth 100000 in
theorem c_X12_told_20 {l : Launch} {D : va_G} {cy : Nat → ClassId} {T0 tB tE : Nat} {a : Nat → Nat} (S : GS)  (h_i_0 : fi S 0 = 0) (h_a_0_0 : ar S 0 0 = 0) (h_a_2_0 : ar S 2 0 = 3) (h_a_3_1 : ar S 3 1 = 0) (h_a_1_1 : ar S 1 1 = 0) (h_a_4_1 : ar S 4 1 = 0) (h_a_1_2 : ar S 1 2 = 0) (h_a_4_2 : ar S 4 2 = 0) (h_a_0_1 : ar S 0 1 = 0) (h_a_2_1 : ar S 2 1 = 3) (h_a_3_5 : ar S 3 5 = 1) (h_a_1_5 : ar S 1 5 = 0) (h_a_4_5 : ar S 4 5 = 0) (h_a_1_3 : ar S 1 3 = 0) (h_a_4_3 : ar S 4 3 = 0) (h_a_0_2 : ar S 0 2 = 0) (h_a_2_2 : ar S 2 2 = 3) (h_a_3_6 : ar S 3 6 = 0) (h_a_1_6 : ar S 1 6 = 0) (h_a_4_6 : ar S 4 6 = 0) (h_a_1_7 : ar S 1 7 = 0) (h_a_4_7 : ar S 4 7 = 0) : Ct l D cy T0 tB tE yX12_told cX12_told 1 (some .boolean) 2 45 0 0 (mw cy a S) [.ref (a 0)] (QI D (U := GS) (fun r u => 1 = r ∧ sl S 0 1649326163456 = u) (mw cy a)) := by
  refine Ct.ofZ RX12 "told" [(0, .ref (a 0))] rfl rfl rfl rfl (Nat.le_of_ble_eq_true rfl) ?_
  intro p e R s m args below meth c A b
  refine z_aload_n b dX12_told_0 rfl rfl ?_
  refine z_aload_n b dX12_told_1 rfl rfl ?_
  refine z_calll b (z_runV (q0 := 0) (As := []) (st := [.ref (a 0)]) b (c_X12_packs_20 S h_i_0 h_a_0_0 h_a_2_0 h_a_3_1 h_a_1_1 h_a_4_1 h_a_1_2 h_a_4_2 h_a_0_1 h_a_2_1 h_a_3_5 h_a_1_5 h_a_4_5 h_a_1_3 h_a_4_3 h_a_0_2 h_a_2_2 h_a_3_6 h_a_1_6 h_a_4_6 h_a_1_7 h_a_4_7) cf_X12_packs (mw_0 cy a S) rfl wm_X12_149 wi_X12_packs ws_X12_packs dX12_told_2 rfl (Nat.le_of_ble_eq_true rfl) ⟨by decide, by decide, by decide, by decide⟩) (fun r2732 u2733 h2731 => ?_)
  obtain ⟨rfl, rfl⟩ := h2731
  refine z_put (q0 := 0) (k9 := 6) tyX12 b (mw_0 cy a S) rfl in_X12 tyX12_ok nmX12 (by decide) wf_X12_153 rfl rfl rfl rfl (Nat.le_of_ble_eq_true rfl) dX12_told_5 (mwp_0_6 cy a S 1649326163456) ?_
  refine z_iconst (v := 1) b dX12_told_8 (by decide) ?_
  exact z_zret (u := (sl S 0 1649326163456)) b rfl (by decide) dX12_told_9 ⟨rfl, rfl⟩ rfl (by decide) (by decide)

set_option maxHeartbeats 4000000 in
set_option maxRecDepth 100000 in
theorem c_X12_kin_50 {l : Launch} {D : va_G} {cy : Nat → ClassId} {T0 tB tE : Nat} {a : Nat → Nat} (S : GS)  (h_l_0 : fl S 0 = 1649317774848) (h_a_4_7 : ar S 4 7 = 0) (h_a_1_7 : ar S 1 7 = 0) (h_a_4_6 : ar S 4 6 = 0) (h_a_1_6 : ar S 1 6 = 0) (h_a_3_6 : ar S 3 6 = 0) (h_a_3_2 : ar S 3 2 = 0) (h_a_2_2 : ar S 2 2 = 3) (h_a_0_2 : ar S 0 2 = 0) (h_a_4_3 : ar S 4 3 = 0) (h_a_1_3 : ar S 1 3 = 0) (h_a_4_5 : ar S 4 5 = 0) (h_a_1_5 : ar S 1 5 = 0) (h_a_3_5 : ar S 3 5 = 0) (h_a_3_7 : ar S 3 7 = 0) (h_a_2_1 : ar S 2 1 = 3) (h_a_0_1 : ar S 0 1 = 0) (h_a_4_2 : ar S 4 2 = 0) (h_a_1_2 : ar S 1 2 = 0) (h_a_4_1 : ar S 4 1 = 0) (h_a_1_1 : ar S 1 1 = 0) (h_a_3_1 : ar S 3 1 = 0) (h_a_3_3 : ar S 3 3 = 0) (h_a_2_0 : ar S 2 0 = 3) (h_a_0_0 : ar S 0 0 = 0) (h_i_0 : fi S 0 = 0) : Ct l D cy T0 tB tE yX12_kin cX12_kin 5 (some .boolean) 3 65 0 0 (mw cy a S) [.ref (a 0), .int 1, .int 2, .int 0, .int 1] (QI D (U := GS) (fun r u => 1 = r ∧ sl (su (su S 3 5 1) 3 7 1) 0 1649326163456 = u) (mw cy a)) := by
  refine Ct.ofZ RX12 "kin" [(0, .ref (a 0)), (1, .int 1), (2, .int 2), (3, .int 0), (4, .int 1)] rfl rfl rfl rfl (Nat.le_of_ble_eq_true rfl) ?_
  intro p e R s m args below meth c A b
  refine z_iload_n b dX12_kin_0 rfl rfl ?_
  refine z_calli b (z_runS (As := [.int 1]) (st := []) b (c_X12_isOne_4 S ) cf_X12_isOne wm_X12_170 ws_X12_isOne dX12_kin_1 rfl (Nat.le_of_ble_eq_true rfl) ⟨by decide, by decide, by decide, by decide⟩) (fun r2675 u2676 h2674 => ?_)
  obtain ⟨rfl, rfl⟩ := h2674
  refine z_if_eq_f (tgt := 28) b dX12_kin_4 (by decide) (by decide) ?_
  refine z_iload_n b dX12_kin_7 rfl rfl ?_
  refine z_calli b (z_runS (As := [.int 2]) (st := []) b (c_X12_isOne_5 S ) cf_X12_isOne wm_X12_170 ws_X12_isOne dX12_kin_8 rfl (Nat.le_of_ble_eq_true rfl) ⟨by decide, by decide, by decide, by decide⟩) (fun r2678 u2679 h2677 => ?_)
  obtain ⟨rfl, rfl⟩ := h2677
  refine z_if_eq_f (tgt := 28) b dX12_kin_11 (by decide) (by decide) ?_
  refine z_iload_n b dX12_kin_14 rfl rfl ?_
  refine z_iload_n b dX12_kin_15 rfl rfl ?_
  refine z_icmp_eq_f (tgt := 28) b dX12_kin_16 (by decide) (by decide) ?_
  refine z_iload_n b dX12_kin_19 rfl rfl ?_
  refine z_iconst (v := 0) b dX12_kin_20 (by decide) ?_
  refine z_iconst (v := 1) b dX12_kin_21 (by decide) ?_
  refine z_calli b (z_runS (As := [.int 0, .int 0, .int 1]) (st := []) b (c_X12_isIn_16 S ) cf_X12_isIn wm_X12_1 ws_X12_isIn dX12_kin_22 rfl (Nat.le_of_ble_eq_true rfl) ⟨by decide, by decide, by decide, by decide⟩) (fun r2681 u2682 h2680 => ?_)
  obtain ⟨rfl, rfl⟩ := h2680
  refine z_if_ne_t (tgt := 30) b dX12_kin_25 (by decide) (by decide) ?_
  refine z_aload_n b dX12_kin_30 rfl rfl ?_
  refine z_aload_n b dX12_kin_31 rfl rfl ?_
  refine z_get (q0 := 0) (k9 := 6) (v := .long (fl S 0)) b (mw_0 cy a S) rfl in_X12 (by decide) wf_X12_153 rfl dX12_kin_32 ?_
  refine z_eql h_l_0 ?_
  refine z_callv b (z_runV (q0 := 0) (As := [.long 1649317774848]) (st := []) b (c_X12_takes S h_a_4_7 h_a_1_7 h_a_4_6 h_a_1_6 h_a_3_6 h_a_3_2 h_a_2_2 h_a_0_2 h_a_4_3 h_a_1_3 h_a_4_5 h_a_1_5 h_a_3_5 h_a_3_7 h_a_2_1 h_a_0_1 h_a_4_2 h_a_1_2 h_a_4_1 h_a_1_1 h_a_3_1 h_a_3_3 h_a_2_0 h_a_0_0 h_i_0) cf_X12_takes (mw_0 cy a S) rfl wm_X12_174 wi_X12_takes ws_X12_takes dX12_kin_35 rfl (Nat.le_of_ble_eq_true rfl) ⟨by decide, by decide, by decide, by decide⟩) (fun u2685 h2683 => ?_)
  obtain rfl := h2683
  refine z_iload_n b dX12_kin_38 rfl rfl ?_
  refine z_iconst (v := 1) b dX12_kin_39 (by decide) ?_
  refine z_icmp_ne_t (tgt := 58) b dX12_kin_40 (by decide) (by decide) ?_
  refine z_aload_n b dX12_kin_58 rfl rfl ?_
  refine z_get (q0 := 0) (k9 := 3) (v := .ref (a 4)) b (mw_0 cy a S) rfl in_X12 (by decide) wf_X12_23 rfl dX12_kin_59 ?_
  refine z_iconst (v := 3) b dX12_kin_62 (by decide) ?_
  refine z_iload_n b dX12_kin_63 rfl rfl ?_
  refine z_imul (v := 3) b dX12_kin_64 (by decide) ?_
  refine z_iload_n b dX12_kin_65 rfl rfl ?_
  refine z_iadd (v := 5) b dX12_kin_66 (by decide) ?_
  refine z_iload b dX12_kin_67 rfl ?_
  refine y_zast (q0 := 4) (j := 5) b (mw_4 cy a S) (by decide) (by decide) dX12_kin_69 (mwa_4 cy a S 5 1) ?_
  refine z_aload_n b dX12_kin_70 rfl rfl ?_
  refine z_get (q0 := 0) (k9 := 3) (v := .ref (a 4)) b (mw_0 cy a (su S 3 5 1)) rfl in_X12 (by decide) wf_X12_23 rfl dX12_kin_71 ?_
  refine z_iconst (v := 3) b dX12_kin_74 (by decide) ?_
  refine z_iload_n b dX12_kin_75 rfl rfl ?_
  refine z_imul (v := 6) b dX12_kin_76 (by decide) ?_
  refine z_iload_n b dX12_kin_77 rfl rfl ?_
  refine z_iadd (v := 7) b dX12_kin_78 (by decide) ?_
  refine z_iload b dX12_kin_79 rfl ?_
  refine y_zast (q0 := 4) (j := 7) b (mw_4 cy a (su S 3 5 1)) (by decide) (by decide) dX12_kin_81 (mwa_4 cy a (su S 3 5 1) 7 1) ?_
  refine z_aload_n b dX12_kin_82 rfl rfl ?_
  refine z_calli b (z_runV (q0 := 0) (As := []) (st := []) b (c_X12_told_20 (su (su S 3 5 1) 3 7 1) h_i_0 h_a_0_0 h_a_2_0 h_a_3_1 h_a_1_1 h_a_4_1 h_a_1_2 h_a_4_2 h_a_0_1 h_a_2_1 rfl h_a_1_5 h_a_4_5 h_a_1_3 h_a_4_3 h_a_0_2 h_a_2_2 h_a_3_6 h_a_1_6 h_a_4_6 h_a_1_7 h_a_4_7) cf_X12_told (mw_0 cy a (su (su S 3 5 1) 3 7 1)) rfl wm_X12_178 wi_X12_told ws_X12_told dX12_kin_83 rfl (Nat.le_of_ble_eq_true rfl) ⟨by decide, by decide, by decide, by decide⟩) (fun r2735 u2736 h2734 => ?_)
  obtain ⟨rfl, rfl⟩ := h2734
  exact z_zret (u := (sl (su (su S 3 5 1) 3 7 1) 0 1649326163456)) b rfl (by decide) dX12_kin_86 ⟨rfl, rfl⟩ rfl (by decide) (by decide)

set_option maxHeartbeats 4000000 in
set_option maxRecDepth 100000 in
theorem c_X9_set_32 {l : Launch} {D : va_G} {cy : Nat → ClassId} {T0 tB tE : Nat} {a : Nat → Nat} {rw : Nat → Option Nat} (S : GS)  (h_a_4_35 : ar S 4 35 = 0) : Ct l D cy T0 tB tE yX9_set cX9_set 3 none 0 0 0 0 (cw cy tE a rw S) [.ref (a 14), .int 35, .int 0] (QV D (U := GS) (fun u => S = u) (cw cy tE a rw)) := by
  refine Ct.ofZ RX9 "set" [(0, .ref (a 14)), (1, .int 35), (2, .int 0)] rfl rfl rfl rfl (Nat.le_of_ble_eq_true rfl) ?_
  intro p e R s m args below meth c A b
  refine z_iload_n b dX9_set_0 rfl rfl ?_
  refine z_if_lt_f (tgt := 20) b dX9_set_1 (by decide) (by decide) ?_
  refine z_iload_n b dX9_set_4 rfl rfl ?_
  refine z_aload_n b dX9_set_5 rfl rfl ?_
  refine z_get (q0 := 14) (k9 := 0) (v := .ref (a 15)) b (cw_14 cy tE a rw S) rfl in_X9 (by decide) wf_X9_11 rfl dX9_set_6 ?_
  refine z_alen (q0 := 15) (t0 := 0) (v := 51) b (cw_15 cy tE a rw S) rfl rfl dX9_set_9 ?_
  refine z_icmp_ge_f (tgt := 20) b dX9_set_10 (by decide) (by decide) ?_
  refine z_aload_n b dX9_set_13 rfl rfl ?_
  refine z_get (q0 := 14) (k9 := 0) (v := .ref (a 15)) b (cw_14 cy tE a rw S) rfl in_X9 (by decide) wf_X9_11 rfl dX9_set_14 ?_
  refine z_iload_n b dX9_set_17 rfl rfl ?_
  refine z_iload_n b dX9_set_18 rfl rfl ?_
  refine y_iast (q0 := 15) (j := 35) b (cw_15 cy tE a rw S) (by decide) dX9_set_19 ((cwa_15 cy tE a rw S 35 0).trans (congrArg (cw cy tE a rw) (su_same h_a_4_35))) ?_
  exact z_vret (u := S) b rfl dX9_set_20 rfl rfl (by decide) (by decide)

set_option maxHeartbeats 4000000 in
set_option maxRecDepth 100000 in
theorem c_X11_kin_51 {l : Launch} {D : va_G} {cy : Nat → ClassId} {T0 tB tE : Nat} {a : Nat → Nat} {rw : Nat → Option Nat} (S : GS)  (h_a_4_35 : ar S 4 35 = 0) (h_i_24 : fi S 24 = 0) : Ct l D cy T0 tB tE yX11_kin cX11_kin 6 (some .boolean) 2 41 0 0 (cw cy tE a rw S) [.ref (a 0), .int 1, .int 2, .int 1, .int 0] (QI D (U := GS) (fun r u => 1 = r ∧ S = u) (cw cy tE a rw)) := by
  refine Ct.ofZ RX11 "kin" [(0, .ref (a 0)), (1, .int 1), (2, .int 2), (3, .int 1), (4, .int 0)] rfl rfl rfl rfl (Nat.le_of_ble_eq_true rfl) ?_
  intro p e R s m args below meth c A b
  refine z_iload_n b dX11_kin_0 rfl rfl ?_
  refine z_iload_n b dX11_kin_1 rfl rfl ?_
  refine z_calli b (z_runS (As := [.int 1, .int 2]) (st := []) b (c_X11_arePair_15 S ) cf_X11_arePair wm_X11_84 ws_X11_arePair dX11_kin_2 rfl (Nat.le_of_ble_eq_true rfl) ⟨by decide, by decide, by decide, by decide⟩) (fun r2738 u2739 h2737 => ?_)
  obtain ⟨rfl, rfl⟩ := h2737
  refine z_if_eq_f (tgt := 16) b dX11_kin_5 (by decide) (by decide) ?_
  refine z_iload_n b dX11_kin_8 rfl rfl ?_
  refine z_iconst (v := 1) b dX11_kin_9 (by decide) ?_
  refine z_calli b (z_runS (As := [.int 1, .int 1]) (st := []) b (c_X11_isWithin_12 S ) cf_X11_isWithin wm_X11_73 ws_X11_isWithin dX11_kin_10 rfl (Nat.le_of_ble_eq_true rfl) ⟨by decide, by decide, by decide, by decide⟩) (fun r2741 u2742 h2740 => ?_)
  obtain ⟨rfl, rfl⟩ := h2740
  refine z_if_ne_t (tgt := 18) b dX11_kin_13 (by decide) (by decide) ?_
  refine z_iload b dX11_kin_18 rfl ?_
  refine z_if_eq_t (tgt := 27) b dX11_kin_20 (by decide) (by decide) ?_
  refine z_iconst (v := 0) b dX11_kin_27 (by decide) ?_
  refine z_istore (lv' := [(5, .int 0), (0, .ref (a 0)), (1, .int 1), (2, .int 2), (3, .int 1), (4, .int 0)]) b dX11_kin_28 (by decide) rfl ?_
  refine z_iload_n b dX11_kin_30 rfl rfl ?_
  refine z_if_ne_t (tgt := 71) b dX11_kin_31 (by decide) (by decide) ?_
  refine z_aload_n b dX11_kin_71 rfl rfl ?_
  refine z_get (q0 := 0) (k9 := 4) (v := .ref (a 14)) b (cw_0 cy tE a rw S) rfl in_X11 (by decide) wf_X11_34 rfl dX11_kin_72 ?_
  refine z_bipush (v := 30) b dX11_kin_75 (by decide) ?_
  refine z_iconst (v := 3) b dX11_kin_77 (by decide) ?_
  refine z_iload_n b dX11_kin_78 rfl rfl ?_
  refine z_imul (v := 3) b dX11_kin_79 (by decide) ?_
  refine z_iadd (v := 33) b dX11_kin_80 (by decide) ?_
  refine z_iload_n b dX11_kin_81 rfl rfl ?_
  refine z_iadd (v := 35) b dX11_kin_82 (by decide) ?_
  refine z_iload b dX11_kin_83 rfl ?_
  refine z_callv b (z_runV (q0 := 14) (As := [.int 35, .int 0]) (st := []) b (c_X9_set_32 S h_a_4_35) cf_X9_set (cw_14 cy tE a rw S) rfl wm_X11_77 wi_X9_set ws_X9_set dX11_kin_85 rfl (Nat.le_of_ble_eq_true rfl) ⟨by decide, by decide, by decide, by decide⟩) (fun u2745 h2743 => ?_)
  obtain rfl := h2743
  refine z_aload_n b dX11_kin_88 rfl rfl ?_
  refine z_get (q0 := 0) (k9 := 6) (v := .ref (a 25)) b (cw_0 cy tE a rw S) rfl in_X11 (by decide) wf_X11_52 rfl dX11_kin_89 ?_
  refine z_callv b (z_runV (q0 := 25) (As := []) (st := []) b (c_X8_forget S h_i_24) cf_X8_forget (cw_25 cy tE a rw S) rfl wm_X11_81 wi_X8_forget ws_X8_forget dX11_kin_92 rfl (Nat.le_of_ble_eq_true rfl) ⟨by decide, by decide, by decide, by decide⟩) (fun u2748 h2746 => ?_)
  obtain rfl := h2746
  refine z_iconst (v := 1) b dX11_kin_95 (by decide) ?_
  exact z_zret (u := S) b rfl (by decide) dX11_kin_96 ⟨rfl, rfl⟩ rfl (by decide) (by decide)

set_option maxHeartbeats 4000000 in
set_option maxRecDepth 100000 in
theorem c_X12_kin_51 {l : Launch} {D : va_G} {cy : Nat → ClassId} {T0 tB tE : Nat} {a : Nat → Nat} (S : GS)  (h_l_0 : fl S 0 = 1649317774848) (h_a_4_7 : ar S 4 7 = 0) (h_a_1_7 : ar S 1 7 = 0) (h_a_4_6 : ar S 4 6 = 0) (h_a_1_6 : ar S 1 6 = 0) (h_a_3_6 : ar S 3 6 = 0) (h_a_3_2 : ar S 3 2 = 0) (h_a_2_2 : ar S 2 2 = 3) (h_a_0_2 : ar S 0 2 = 0) (h_a_4_3 : ar S 4 3 = 0) (h_a_1_3 : ar S 1 3 = 0) (h_a_4_5 : ar S 4 5 = 0) (h_a_1_5 : ar S 1 5 = 0) (h_a_3_5 : ar S 3 5 = 0) (h_a_3_7 : ar S 3 7 = 0) (h_a_2_1 : ar S 2 1 = 3) (h_a_0_1 : ar S 0 1 = 0) (h_a_4_2 : ar S 4 2 = 0) (h_a_1_2 : ar S 1 2 = 0) (h_a_4_1 : ar S 4 1 = 0) (h_a_1_1 : ar S 1 1 = 0) (h_a_3_1 : ar S 3 1 = 0) (h_a_3_3 : ar S 3 3 = 0) (h_a_2_0 : ar S 2 0 = 3) (h_a_0_0 : ar S 0 0 = 0) (h_i_0 : fi S 0 = 0) : Ct l D cy T0 tB tE yX12_kin cX12_kin 5 (some .boolean) 3 65 0 0 (mw cy a S) [.ref (a 0), .int 1, .int 2, .int 1, .int 0] (QI D (U := GS) (fun r u => 1 = r ∧ S = u) (mw cy a)) := by
  refine Ct.ofZ RX12 "kin" [(0, .ref (a 0)), (1, .int 1), (2, .int 2), (3, .int 1), (4, .int 0)] rfl rfl rfl rfl (Nat.le_of_ble_eq_true rfl) ?_
  intro p e R s m args below meth c A b
  refine z_iload_n b dX12_kin_0 rfl rfl ?_
  refine z_calli b (z_runS (As := [.int 1]) (st := []) b (c_X12_isOne_4 S ) cf_X12_isOne wm_X12_170 ws_X12_isOne dX12_kin_1 rfl (Nat.le_of_ble_eq_true rfl) ⟨by decide, by decide, by decide, by decide⟩) (fun r2750 u2751 h2749 => ?_)
  obtain ⟨rfl, rfl⟩ := h2749
  refine z_if_eq_f (tgt := 28) b dX12_kin_4 (by decide) (by decide) ?_
  refine z_iload_n b dX12_kin_7 rfl rfl ?_
  refine z_calli b (z_runS (As := [.int 2]) (st := []) b (c_X12_isOne_5 S ) cf_X12_isOne wm_X12_170 ws_X12_isOne dX12_kin_8 rfl (Nat.le_of_ble_eq_true rfl) ⟨by decide, by decide, by decide, by decide⟩) (fun r2753 u2754 h2752 => ?_)
  obtain ⟨rfl, rfl⟩ := h2752
  refine z_if_eq_f (tgt := 28) b dX12_kin_11 (by decide) (by decide) ?_
  refine z_iload_n b dX12_kin_14 rfl rfl ?_
  refine z_iload_n b dX12_kin_15 rfl rfl ?_
  refine z_icmp_eq_f (tgt := 28) b dX12_kin_16 (by decide) (by decide) ?_
  refine z_iload_n b dX12_kin_19 rfl rfl ?_
  refine z_iconst (v := 0) b dX12_kin_20 (by decide) ?_
  refine z_iconst (v := 1) b dX12_kin_21 (by decide) ?_
  refine z_calli b (z_runS (As := [.int 1, .int 0, .int 1]) (st := []) b (c_X12_isIn_17 S ) cf_X12_isIn wm_X12_1 ws_X12_isIn dX12_kin_22 rfl (Nat.le_of_ble_eq_true rfl) ⟨by decide, by decide, by decide, by decide⟩) (fun r2756 u2757 h2755 => ?_)
  obtain ⟨rfl, rfl⟩ := h2755
  refine z_if_ne_t (tgt := 30) b dX12_kin_25 (by decide) (by decide) ?_
  refine z_aload_n b dX12_kin_30 rfl rfl ?_
  refine z_aload_n b dX12_kin_31 rfl rfl ?_
  refine z_get (q0 := 0) (k9 := 6) (v := .long (fl S 0)) b (mw_0 cy a S) rfl in_X12 (by decide) wf_X12_153 rfl dX12_kin_32 ?_
  refine z_eql h_l_0 ?_
  refine z_callv b (z_runV (q0 := 0) (As := [.long 1649317774848]) (st := []) b (c_X12_takes S h_a_4_7 h_a_1_7 h_a_4_6 h_a_1_6 h_a_3_6 h_a_3_2 h_a_2_2 h_a_0_2 h_a_4_3 h_a_1_3 h_a_4_5 h_a_1_5 h_a_3_5 h_a_3_7 h_a_2_1 h_a_0_1 h_a_4_2 h_a_1_2 h_a_4_1 h_a_1_1 h_a_3_1 h_a_3_3 h_a_2_0 h_a_0_0 h_i_0) cf_X12_takes (mw_0 cy a S) rfl wm_X12_174 wi_X12_takes ws_X12_takes dX12_kin_35 rfl (Nat.le_of_ble_eq_true rfl) ⟨by decide, by decide, by decide, by decide⟩) (fun u2760 h2758 => ?_)
  obtain rfl := h2758
  refine z_iload_n b dX12_kin_38 rfl rfl ?_
  refine z_iconst (v := 1) b dX12_kin_39 (by decide) ?_
  refine z_icmp_ne_f (tgt := 58) b dX12_kin_40 (by decide) (by decide) ?_
  refine z_aload_n b dX12_kin_43 rfl rfl ?_
  refine z_get (q0 := 0) (k9 := 4) (v := .ref (a 5)) b (mw_0 cy a S) rfl in_X12 (by decide) wf_X12_27 rfl dX12_kin_44 ?_
  refine z_iconst (v := 3) b dX12_kin_47 (by decide) ?_
  refine z_iload_n b dX12_kin_48 rfl rfl ?_
  refine z_imul (v := 3) b dX12_kin_49 (by decide) ?_
  refine z_iload_n b dX12_kin_50 rfl rfl ?_
  refine z_iadd (v := 5) b dX12_kin_51 (by decide) ?_
  refine z_iload b dX12_kin_52 rfl ?_
  refine y_zast (q0 := 5) (j := 5) b (mw_5 cy a S) (by decide) (by decide) dX12_kin_54 ((mwa_5 cy a S 5 0).trans (congrArg (mw cy a) (su_same h_a_4_5))) ?_
  refine z_goto (tgt := 82) b dX12_kin_55 (by decide) ?_
  refine z_aload_n b dX12_kin_82 rfl rfl ?_
  refine z_calli b (z_runV (q0 := 0) (As := []) (st := []) b (c_X12_told_14 S h_i_0 h_a_0_0 h_a_2_0 h_a_3_1 h_a_1_1 h_a_4_1 h_a_1_2 h_a_4_2 h_a_0_1 h_a_2_1 h_a_3_5 h_a_1_5 h_a_4_5 h_a_1_3 h_a_4_3 h_a_0_2 h_a_2_2 h_a_3_6 h_a_1_6 h_a_4_6 h_a_1_7 h_a_4_7 h_l_0) cf_X12_told (mw_0 cy a S) rfl wm_X12_178 wi_X12_told ws_X12_told dX12_kin_83 rfl (Nat.le_of_ble_eq_true rfl) ⟨by decide, by decide, by decide, by decide⟩) (fun r2762 u2763 h2761 => ?_)
  obtain ⟨rfl, rfl⟩ := h2761
  exact z_zret (u := S) b rfl (by decide) dX12_kin_86 ⟨rfl, rfl⟩ rfl (by decide) (by decide)

set_option maxHeartbeats 4000000 in
set_option maxRecDepth 100000 in
theorem c_X9_set_33 {l : Launch} {D : va_G} {cy : Nat → ClassId} {T0 tB tE : Nat} {a : Nat → Nat} {rw : Nat → Option Nat} (S : GS)   : Ct l D cy T0 tB tE yX9_set cX9_set 3 none 0 0 0 0 (cw cy tE a rw S) [.ref (a 14), .int 35, .int 1] (QV D (U := GS) (fun u => su S 4 35 1 = u) (cw cy tE a rw)) := by
  refine Ct.ofZ RX9 "set" [(0, .ref (a 14)), (1, .int 35), (2, .int 1)] rfl rfl rfl rfl (Nat.le_of_ble_eq_true rfl) ?_
  intro p e R s m args below meth c A b
  refine z_iload_n b dX9_set_0 rfl rfl ?_
  refine z_if_lt_f (tgt := 20) b dX9_set_1 (by decide) (by decide) ?_
  refine z_iload_n b dX9_set_4 rfl rfl ?_
  refine z_aload_n b dX9_set_5 rfl rfl ?_
  refine z_get (q0 := 14) (k9 := 0) (v := .ref (a 15)) b (cw_14 cy tE a rw S) rfl in_X9 (by decide) wf_X9_11 rfl dX9_set_6 ?_
  refine z_alen (q0 := 15) (t0 := 0) (v := 51) b (cw_15 cy tE a rw S) rfl rfl dX9_set_9 ?_
  refine z_icmp_ge_f (tgt := 20) b dX9_set_10 (by decide) (by decide) ?_
  refine z_aload_n b dX9_set_13 rfl rfl ?_
  refine z_get (q0 := 14) (k9 := 0) (v := .ref (a 15)) b (cw_14 cy tE a rw S) rfl in_X9 (by decide) wf_X9_11 rfl dX9_set_14 ?_
  refine z_iload_n b dX9_set_17 rfl rfl ?_
  refine z_iload_n b dX9_set_18 rfl rfl ?_
  refine y_iast (q0 := 15) (j := 35) b (cw_15 cy tE a rw S) (by decide) dX9_set_19 (cwa_15 cy tE a rw S 35 1) ?_
  exact z_vret (u := (su S 4 35 1)) b rfl dX9_set_20 rfl rfl (by decide) (by decide)

set_option maxHeartbeats 4000000 in
set_option maxRecDepth 100000 in
theorem c_X11_kin_52 {l : Launch} {D : va_G} {cy : Nat → ClassId} {T0 tB tE : Nat} {a : Nat → Nat} {rw : Nat → Option Nat} (S : GS)  (h_i_24 : fi S 24 = 0) : Ct l D cy T0 tB tE yX11_kin cX11_kin 6 (some .boolean) 2 41 0 0 (cw cy tE a rw S) [.ref (a 0), .int 1, .int 2, .int 1, .int 1] (QI D (U := GS) (fun r u => 1 = r ∧ (su S 4 35 1) = u) (cw cy tE a rw)) := by
  refine Ct.ofZ RX11 "kin" [(0, .ref (a 0)), (1, .int 1), (2, .int 2), (3, .int 1), (4, .int 1)] rfl rfl rfl rfl (Nat.le_of_ble_eq_true rfl) ?_
  intro p e R s m args below meth c A b
  refine z_iload_n b dX11_kin_0 rfl rfl ?_
  refine z_iload_n b dX11_kin_1 rfl rfl ?_
  refine z_calli b (z_runS (As := [.int 1, .int 2]) (st := []) b (c_X11_arePair_15 S ) cf_X11_arePair wm_X11_84 ws_X11_arePair dX11_kin_2 rfl (Nat.le_of_ble_eq_true rfl) ⟨by decide, by decide, by decide, by decide⟩) (fun r2765 u2766 h2764 => ?_)
  obtain ⟨rfl, rfl⟩ := h2764
  refine z_if_eq_f (tgt := 16) b dX11_kin_5 (by decide) (by decide) ?_
  refine z_iload_n b dX11_kin_8 rfl rfl ?_
  refine z_iconst (v := 1) b dX11_kin_9 (by decide) ?_
  refine z_calli b (z_runS (As := [.int 1, .int 1]) (st := []) b (c_X11_isWithin_12 S ) cf_X11_isWithin wm_X11_73 ws_X11_isWithin dX11_kin_10 rfl (Nat.le_of_ble_eq_true rfl) ⟨by decide, by decide, by decide, by decide⟩) (fun r2768 u2769 h2767 => ?_)
  obtain ⟨rfl, rfl⟩ := h2767
  refine z_if_ne_t (tgt := 18) b dX11_kin_13 (by decide) (by decide) ?_
  refine z_iload b dX11_kin_18 rfl ?_
  refine z_if_eq_f (tgt := 27) b dX11_kin_20 (by decide) (by decide) ?_
  refine z_iconst (v := 1) b dX11_kin_23 (by decide) ?_
  refine z_goto (tgt := 28) b dX11_kin_24 (by decide) ?_
  refine z_istore (lv' := [(5, .int 1), (0, .ref (a 0)), (1, .int 1), (2, .int 2), (3, .int 1), (4, .int 1)]) b dX11_kin_28 (by decide) rfl ?_
  refine z_iload_n b dX11_kin_30 rfl rfl ?_
  refine z_if_ne_t (tgt := 71) b dX11_kin_31 (by decide) (by decide) ?_
  refine z_aload_n b dX11_kin_71 rfl rfl ?_
  refine z_get (q0 := 0) (k9 := 4) (v := .ref (a 14)) b (cw_0 cy tE a rw S) rfl in_X11 (by decide) wf_X11_34 rfl dX11_kin_72 ?_
  refine z_bipush (v := 30) b dX11_kin_75 (by decide) ?_
  refine z_iconst (v := 3) b dX11_kin_77 (by decide) ?_
  refine z_iload_n b dX11_kin_78 rfl rfl ?_
  refine z_imul (v := 3) b dX11_kin_79 (by decide) ?_
  refine z_iadd (v := 33) b dX11_kin_80 (by decide) ?_
  refine z_iload_n b dX11_kin_81 rfl rfl ?_
  refine z_iadd (v := 35) b dX11_kin_82 (by decide) ?_
  refine z_iload b dX11_kin_83 rfl ?_
  refine z_callv b (z_runV (q0 := 14) (As := [.int 35, .int 1]) (st := []) b (c_X9_set_33 S ) cf_X9_set (cw_14 cy tE a rw S) rfl wm_X11_77 wi_X9_set ws_X9_set dX11_kin_85 rfl (Nat.le_of_ble_eq_true rfl) ⟨by decide, by decide, by decide, by decide⟩) (fun u2772 h2770 => ?_)
  obtain rfl := h2770
  refine z_aload_n b dX11_kin_88 rfl rfl ?_
  refine z_get (q0 := 0) (k9 := 6) (v := .ref (a 25)) b (cw_0 cy tE a rw (su S 4 35 1)) rfl in_X11 (by decide) wf_X11_52 rfl dX11_kin_89 ?_
  refine z_callv b (z_runV (q0 := 25) (As := []) (st := []) b (c_X8_forget (su S 4 35 1) h_i_24) cf_X8_forget (cw_25 cy tE a rw (su S 4 35 1)) rfl wm_X11_81 wi_X8_forget ws_X8_forget dX11_kin_92 rfl (Nat.le_of_ble_eq_true rfl) ⟨by decide, by decide, by decide, by decide⟩) (fun u2775 h2773 => ?_)
  obtain rfl := h2773
  refine z_iconst (v := 1) b dX11_kin_95 (by decide) ?_
  exact z_zret (u := (su S 4 35 1)) b rfl (by decide) dX11_kin_96 ⟨rfl, rfl⟩ rfl (by decide) (by decide)

set_option maxHeartbeats 4000000 in
set_option maxRecDepth 100000 in
theorem ch_X12_packs_44 {p : Program} {l : Launch} {e : Env} {R : Room} {s : State} {m : MethodId} {args : Array Value} {below : List Frame} {meth : Method} {c : Code} {D : va_G} {cy : Nat → ClassId} {T0 tB tE : Nat} {A : Nat → Prop} {Q : State → Prop} {a : Nat → Nat} (S : GS)  (h_a_0_0 : ar S 0 0 = 0) (h_a_1_1 : ar S 1 1 = 0) (h_a_1_2 : ar S 1 2 = 0) (h_a_2_0 : ar S 2 0 = 3) (h_a_3_1 : ar S 3 1 = 0) (h_a_4_1 : ar S 4 1 = 0) (h_a_4_2 : ar S 4 2 = 0) (h_i_0 : fi S 0 = 0) (b : Bz p R s m args meth c D cy T0 tB tE A 5 cX12_packs RX12 (some .long) "packs" 1 21 0 0) (k : Z p l e R s m args below meth c D A 5 Q 0 0 (mw cy a S) [(3, .int 1), (4, .int 2), (1, .long 1536), (0, .ref (a 0))] 21 [.int 1, .ref (a 1), .long 24576]) : Z p l e R s m args below meth c D A 5 Q 0 0 (mw cy a S) [(0, .ref (a 0))] 0 [] := by
  refine z_aload_n b dX12_packs_0 rfl rfl ?_
  refine z_get (q0 := 0) (k9 := 5) (v := .int (fi S 0)) b (mw_0 cy a S) rfl in_X12 (by decide) wf_X12_157 rfl dX12_packs_1 ?_
  refine z_eqi h_i_0 ?_
  refine z_i2l (v := 0) b dX12_packs_4 (by decide) ?_
  refine z_lstore_n (lv' := [(1, .long 0), (0, .ref (a 0))]) b dX12_packs_5 rfl (by decide) rfl ?_
  refine z_iconst (v := 0) b dX12_packs_6 (by decide) ?_
  refine z_istore_n (lv' := [(3, .int 0), (1, .long 0), (0, .ref (a 0))]) b dX12_packs_7 rfl (by decide) rfl ?_
  refine z_iload_n b dX12_packs_8 rfl rfl ?_
  refine z_iconst (v := 3) b dX12_packs_9 (by decide) ?_
  refine z_icmp_ge_f (tgt := 134) b dX12_packs_10 (by decide) (by decide) ?_
  refine z_lload_n b dX12_packs_13 rfl rfl ?_
  refine z_iconst (v := 4) b dX12_packs_14 (by decide) ?_
  refine z_lshl (v := 0) b dX12_packs_15 (by decide) ?_
  refine z_aload_n b dX12_packs_16 rfl rfl ?_
  refine z_get (q0 := 0) (k9 := 0) (v := .ref (a 1)) b (mw_0 cy a S) rfl in_X12 (by decide) wf_X12_13 rfl dX12_packs_17 ?_
  refine z_iload_n b dX12_packs_20 rfl rfl ?_
  refine y_iald (q0 := 1) (j := 0) (v := (ar S 0 0)) b (mw_1 cy a S) (by decide) rfl dX12_packs_21 ?_
  refine z_eqi h_a_0_0 ?_
  refine z_i2l (v := 0) b dX12_packs_22 (by decide) ?_
  refine z_lor (v := 0) b dX12_packs_23 (by decide) ?_
  refine z_lstore_n (lv' := [(1, .long 0), (3, .int 0), (0, .ref (a 0))]) b dX12_packs_24 rfl (by decide) rfl ?_
  refine z_lload_n b dX12_packs_25 rfl rfl ?_
  refine z_iconst (v := 2) b dX12_packs_26 (by decide) ?_
  refine z_lshl (v := 0) b dX12_packs_27 (by decide) ?_
  refine z_aload_n b dX12_packs_28 rfl rfl ?_
  refine z_get (q0 := 0) (k9 := 2) (v := .ref (a 3)) b (mw_0 cy a S) rfl in_X12 (by decide) wf_X12_20 rfl dX12_packs_29 ?_
  refine z_iload_n b dX12_packs_32 rfl rfl ?_
  refine y_iald (q0 := 3) (j := 0) (v := (ar S 2 0)) b (mw_3 cy a S) (by decide) rfl dX12_packs_33 ?_
  refine z_eqi h_a_2_0 ?_
  refine z_i2l (v := 3) b dX12_packs_34 (by decide) ?_
  refine z_lor (v := 3) b dX12_packs_35 (by decide) ?_
  refine z_lstore_n (lv' := [(1, .long 3), (3, .int 0), (0, .ref (a 0))]) b dX12_packs_36 rfl (by decide) rfl ?_
  refine z_lload_n b dX12_packs_37 rfl rfl ?_
  refine z_iconst (v := 1) b dX12_packs_38 (by decide) ?_
  refine z_lshl (v := 6) b dX12_packs_39 (by decide) ?_
  refine z_aload_n b dX12_packs_40 rfl rfl ?_
  refine z_get (q0 := 0) (k9 := 3) (v := .ref (a 4)) b (mw_0 cy a S) rfl in_X12 (by decide) wf_X12_23 rfl dX12_packs_41 ?_
  refine z_iconst (v := 3) b dX12_packs_44 (by decide) ?_
  refine z_iload_n b dX12_packs_45 rfl rfl ?_
  refine z_imul (v := 0) b dX12_packs_46 (by decide) ?_
  refine z_iload_n b dX12_packs_47 rfl rfl ?_
  refine z_iconst (v := 0) b dX12_packs_48 (by decide) ?_
  refine z_calli b (z_runS (As := [.int 0, .int 0]) (st := [.int 0, .ref (a 4), .long 6]) b (c_X12_other_6 S ) cf_X12_other wm_X12_160 ws_X12_other dX12_packs_49 rfl (Nat.le_of_ble_eq_true rfl) ⟨by decide, by decide, by decide, by decide⟩) (fun r2789 u2790 h2788 => ?_)
  obtain ⟨rfl, rfl⟩ := h2788
  refine z_iadd (v := 1) b dX12_packs_52 (by decide) ?_
  refine y_zald (q0 := 4) (j := 1) (v := (ar S 3 1)) b (mw_4 cy a S) (by decide) rfl dX12_packs_53 ?_
  refine z_eqi h_a_3_1 ?_
  refine z_if_eq_t (tgt := 61) b dX12_packs_54 (by decide) (by decide) ?_
  refine z_lconst (v := 0) b dX12_packs_61 (by decide) ?_
  refine z_lor (v := 6) b dX12_packs_62 (by decide) ?_
  refine z_lstore_n (lv' := [(1, .long 6), (3, .int 0), (0, .ref (a 0))]) b dX12_packs_63 rfl (by decide) rfl ?_
  refine z_iconst (v := 0) b dX12_packs_64 (by decide) ?_
  refine z_istore (lv' := [(4, .int 0), (1, .long 6), (3, .int 0), (0, .ref (a 0))]) b dX12_packs_65 (by decide) rfl ?_
  refine z_iload b dX12_packs_67 rfl ?_
  refine z_iconst (v := 2) b dX12_packs_69 (by decide) ?_
  refine z_icmp_ge_f (tgt := 128) b dX12_packs_70 (by decide) (by decide) ?_
  refine z_lload_n b dX12_packs_73 rfl rfl ?_
  refine z_iconst (v := 3) b dX12_packs_74 (by decide) ?_
  refine z_lshl (v := 48) b dX12_packs_75 (by decide) ?_
  refine z_aload_n b dX12_packs_76 rfl rfl ?_
  refine z_get (q0 := 0) (k9 := 1) (v := .ref (a 2)) b (mw_0 cy a S) rfl in_X12 (by decide) wf_X12_17 rfl dX12_packs_77 ?_
  refine z_iconst (v := 3) b dX12_packs_80 (by decide) ?_
  refine z_iload_n b dX12_packs_81 rfl rfl ?_
  refine z_imul (v := 0) b dX12_packs_82 (by decide) ?_
  refine z_iload_n b dX12_packs_83 rfl rfl ?_
  refine z_iload b dX12_packs_84 rfl ?_
  refine z_calli b (z_runS (As := [.int 0, .int 0]) (st := [.int 0, .ref (a 2), .long 48]) b (c_X12_other_6 S ) cf_X12_other wm_X12_160 ws_X12_other dX12_packs_86 rfl (Nat.le_of_ble_eq_true rfl) ⟨by decide, by decide, by decide, by decide⟩) (fun r2792 u2793 h2791 => ?_)
  obtain ⟨rfl, rfl⟩ := h2791
  refine z_iadd (v := 1) b dX12_packs_89 (by decide) ?_
  refine y_iald (q0 := 2) (j := 1) (v := (ar S 1 1)) b (mw_2 cy a S) (by decide) rfl dX12_packs_90 ?_
  refine z_eqi h_a_1_1 ?_
  refine z_i2l (v := 0) b dX12_packs_91 (by decide) ?_
  refine z_lor (v := 48) b dX12_packs_92 (by decide) ?_
  refine z_lstore_n (lv' := [(1, .long 48), (4, .int 0), (3, .int 0), (0, .ref (a 0))]) b dX12_packs_93 rfl (by decide) rfl ?_
  refine z_lload_n b dX12_packs_94 rfl rfl ?_
  refine z_iconst (v := 1) b dX12_packs_95 (by decide) ?_
  refine z_lshl (v := 96) b dX12_packs_96 (by decide) ?_
  refine z_aload_n b dX12_packs_97 rfl rfl ?_
  refine z_get (q0 := 0) (k9 := 4) (v := .ref (a 5)) b (mw_0 cy a S) rfl in_X12 (by decide) wf_X12_27 rfl dX12_packs_98 ?_
  refine z_iconst (v := 3) b dX12_packs_101 (by decide) ?_
  refine z_iload_n b dX12_packs_102 rfl rfl ?_
  refine z_imul (v := 0) b dX12_packs_103 (by decide) ?_
  refine z_iload_n b dX12_packs_104 rfl rfl ?_
  refine z_iload b dX12_packs_105 rfl ?_
  refine z_calli b (z_runS (As := [.int 0, .int 0]) (st := [.int 0, .ref (a 5), .long 96]) b (c_X12_other_6 S ) cf_X12_other wm_X12_160 ws_X12_other dX12_packs_107 rfl (Nat.le_of_ble_eq_true rfl) ⟨by decide, by decide, by decide, by decide⟩) (fun r2795 u2796 h2794 => ?_)
  obtain ⟨rfl, rfl⟩ := h2794
  refine z_iadd (v := 1) b dX12_packs_110 (by decide) ?_
  refine y_zald (q0 := 5) (j := 1) (v := (ar S 4 1)) b (mw_5 cy a S) (by decide) rfl dX12_packs_111 ?_
  refine z_eqi h_a_4_1 ?_
  refine z_if_eq_t (tgt := 119) b dX12_packs_112 (by decide) (by decide) ?_
  refine z_lconst (v := 0) b dX12_packs_119 (by decide) ?_
  refine z_lor (v := 96) b dX12_packs_120 (by decide) ?_
  refine z_lstore_n (lv' := [(1, .long 96), (4, .int 0), (3, .int 0), (0, .ref (a 0))]) b dX12_packs_121 rfl (by decide) rfl ?_
  refine z_iinc (k9 := 1) (v := 1) (lv' := [(4, .int 1), (1, .long 96), (3, .int 0), (0, .ref (a 0))]) b dX12_packs_122 rfl (by decide) (by decide) rfl ?_
  refine z_goto (tgt := 67) b dX12_packs_125 (by decide) ?_
  refine z_iload b dX12_packs_67 rfl ?_
  refine z_iconst (v := 2) b dX12_packs_69 (by decide) ?_
  refine z_icmp_ge_f (tgt := 128) b dX12_packs_70 (by decide) (by decide) ?_
  refine z_lload_n b dX12_packs_73 rfl rfl ?_
  refine z_iconst (v := 3) b dX12_packs_74 (by decide) ?_
  refine z_lshl (v := 768) b dX12_packs_75 (by decide) ?_
  refine z_aload_n b dX12_packs_76 rfl rfl ?_
  refine z_get (q0 := 0) (k9 := 1) (v := .ref (a 2)) b (mw_0 cy a S) rfl in_X12 (by decide) wf_X12_17 rfl dX12_packs_77 ?_
  refine z_iconst (v := 3) b dX12_packs_80 (by decide) ?_
  refine z_iload_n b dX12_packs_81 rfl rfl ?_
  refine z_imul (v := 0) b dX12_packs_82 (by decide) ?_
  refine z_iload_n b dX12_packs_83 rfl rfl ?_
  refine z_iload b dX12_packs_84 rfl ?_
  refine z_calli b (z_runS (As := [.int 0, .int 1]) (st := [.int 0, .ref (a 2), .long 768]) b (c_X12_other_5 S ) cf_X12_other wm_X12_160 ws_X12_other dX12_packs_86 rfl (Nat.le_of_ble_eq_true rfl) ⟨by decide, by decide, by decide, by decide⟩) (fun r2798 u2799 h2797 => ?_)
  obtain ⟨rfl, rfl⟩ := h2797
  refine z_iadd (v := 2) b dX12_packs_89 (by decide) ?_
  refine y_iald (q0 := 2) (j := 2) (v := (ar S 1 2)) b (mw_2 cy a S) (by decide) rfl dX12_packs_90 ?_
  refine z_eqi h_a_1_2 ?_
  refine z_i2l (v := 0) b dX12_packs_91 (by decide) ?_
  refine z_lor (v := 768) b dX12_packs_92 (by decide) ?_
  refine z_lstore_n (lv' := [(1, .long 768), (4, .int 1), (3, .int 0), (0, .ref (a 0))]) b dX12_packs_93 rfl (by decide) rfl ?_
  refine z_lload_n b dX12_packs_94 rfl rfl ?_
  refine z_iconst (v := 1) b dX12_packs_95 (by decide) ?_
  refine z_lshl (v := 1536) b dX12_packs_96 (by decide) ?_
  refine z_aload_n b dX12_packs_97 rfl rfl ?_
  refine z_get (q0 := 0) (k9 := 4) (v := .ref (a 5)) b (mw_0 cy a S) rfl in_X12 (by decide) wf_X12_27 rfl dX12_packs_98 ?_
  refine z_iconst (v := 3) b dX12_packs_101 (by decide) ?_
  refine z_iload_n b dX12_packs_102 rfl rfl ?_
  refine z_imul (v := 0) b dX12_packs_103 (by decide) ?_
  refine z_iload_n b dX12_packs_104 rfl rfl ?_
  refine z_iload b dX12_packs_105 rfl ?_
  refine z_calli b (z_runS (As := [.int 0, .int 1]) (st := [.int 0, .ref (a 5), .long 1536]) b (c_X12_other_5 S ) cf_X12_other wm_X12_160 ws_X12_other dX12_packs_107 rfl (Nat.le_of_ble_eq_true rfl) ⟨by decide, by decide, by decide, by decide⟩) (fun r2801 u2802 h2800 => ?_)
  obtain ⟨rfl, rfl⟩ := h2800
  refine z_iadd (v := 2) b dX12_packs_110 (by decide) ?_
  refine y_zald (q0 := 5) (j := 2) (v := (ar S 4 2)) b (mw_5 cy a S) (by decide) rfl dX12_packs_111 ?_
  refine z_eqi h_a_4_2 ?_
  refine z_if_eq_t (tgt := 119) b dX12_packs_112 (by decide) (by decide) ?_
  refine z_lconst (v := 0) b dX12_packs_119 (by decide) ?_
  refine z_lor (v := 1536) b dX12_packs_120 (by decide) ?_
  refine z_lstore_n (lv' := [(1, .long 1536), (4, .int 1), (3, .int 0), (0, .ref (a 0))]) b dX12_packs_121 rfl (by decide) rfl ?_
  refine z_iinc (k9 := 1) (v := 2) (lv' := [(4, .int 2), (1, .long 1536), (3, .int 0), (0, .ref (a 0))]) b dX12_packs_122 rfl (by decide) (by decide) rfl ?_
  refine z_goto (tgt := 67) b dX12_packs_125 (by decide) ?_
  refine z_iload b dX12_packs_67 rfl ?_
  refine z_iconst (v := 2) b dX12_packs_69 (by decide) ?_
  refine z_icmp_ge_t (tgt := 128) b dX12_packs_70 (by decide) (by decide) ?_
  refine z_iinc (k9 := 2) (v := 1) (lv' := [(3, .int 1), (4, .int 2), (1, .long 1536), (0, .ref (a 0))]) b dX12_packs_128 rfl (by decide) (by decide) rfl ?_
  refine z_goto (tgt := 8) b dX12_packs_131 (by decide) ?_
  refine z_iload_n b dX12_packs_8 rfl rfl ?_
  refine z_iconst (v := 3) b dX12_packs_9 (by decide) ?_
  refine z_icmp_ge_f (tgt := 134) b dX12_packs_10 (by decide) (by decide) ?_
  refine z_lload_n b dX12_packs_13 rfl rfl ?_
  refine z_iconst (v := 4) b dX12_packs_14 (by decide) ?_
  refine z_lshl (v := 24576) b dX12_packs_15 (by decide) ?_
  refine z_aload_n b dX12_packs_16 rfl rfl ?_
  refine z_get (q0 := 0) (k9 := 0) (v := .ref (a 1)) b (mw_0 cy a S) rfl in_X12 (by decide) wf_X12_13 rfl dX12_packs_17 ?_
  refine z_iload_n b dX12_packs_20 rfl rfl ?_
  exact k

set_option maxHeartbeats 4000000 in
set_option maxRecDepth 100000 in
theorem ch_X12_packs_45 {p : Program} {l : Launch} {e : Env} {R : Room} {s : State} {m : MethodId} {args : Array Value} {below : List Frame} {meth : Method} {c : Code} {D : va_G} {cy : Nat → ClassId} {T0 tB tE : Nat} {A : Nat → Prop} {Q : State → Prop} {a : Nat → Nat} (S : GS)  (h_a_0_1 : ar S 0 1 = 0) (h_a_0_2 : ar S 0 2 = 0) (h_a_1_3 : ar S 1 3 = 0) (h_a_1_5 : ar S 1 5 = 0) (h_a_2_1 : ar S 2 1 = 3) (h_a_2_2 : ar S 2 2 = 3) (h_a_3_5 : ar S 3 5 = 0) (h_a_4_3 : ar S 4 3 = 0) (h_a_4_5 : ar S 4 5 = 1) (b : Bz p R s m args meth c D cy T0 tB tE A 5 cX12_packs RX12 (some .long) "packs" 1 21 0 0) (k : Z p l e R s m args below meth c D A 5 Q 0 0 (mw cy a S) [(1, .long 805331200), (3, .int 2), (4, .int 2), (0, .ref (a 0))] 36 [.long 3221324803]) : Z p l e R s m args below meth c D A 5 Q 0 0 (mw cy a S) [(3, .int 1), (4, .int 2), (1, .long 1536), (0, .ref (a 0))] 21 [.int 1, .ref (a 1), .long 24576] := by
  refine y_iald (q0 := 1) (j := 1) (v := (ar S 0 1)) b (mw_1 cy a S) (by decide) rfl dX12_packs_21 ?_
  refine z_eqi h_a_0_1 ?_
  refine z_i2l (v := 0) b dX12_packs_22 (by decide) ?_
  refine z_lor (v := 24576) b dX12_packs_23 (by decide) ?_
  refine z_lstore_n (lv' := [(1, .long 24576), (3, .int 1), (4, .int 2), (0, .ref (a 0))]) b dX12_packs_24 rfl (by decide) rfl ?_
  refine z_lload_n b dX12_packs_25 rfl rfl ?_
  refine z_iconst (v := 2) b dX12_packs_26 (by decide) ?_
  refine z_lshl (v := 98304) b dX12_packs_27 (by decide) ?_
  refine z_aload_n b dX12_packs_28 rfl rfl ?_
  refine z_get (q0 := 0) (k9 := 2) (v := .ref (a 3)) b (mw_0 cy a S) rfl in_X12 (by decide) wf_X12_20 rfl dX12_packs_29 ?_
  refine z_iload_n b dX12_packs_32 rfl rfl ?_
  refine y_iald (q0 := 3) (j := 1) (v := (ar S 2 1)) b (mw_3 cy a S) (by decide) rfl dX12_packs_33 ?_
  refine z_eqi h_a_2_1 ?_
  refine z_i2l (v := 3) b dX12_packs_34 (by decide) ?_
  refine z_lor (v := 98307) b dX12_packs_35 (by decide) ?_
  refine z_lstore_n (lv' := [(1, .long 98307), (3, .int 1), (4, .int 2), (0, .ref (a 0))]) b dX12_packs_36 rfl (by decide) rfl ?_
  refine z_lload_n b dX12_packs_37 rfl rfl ?_
  refine z_iconst (v := 1) b dX12_packs_38 (by decide) ?_
  refine z_lshl (v := 196614) b dX12_packs_39 (by decide) ?_
  refine z_aload_n b dX12_packs_40 rfl rfl ?_
  refine z_get (q0 := 0) (k9 := 3) (v := .ref (a 4)) b (mw_0 cy a S) rfl in_X12 (by decide) wf_X12_23 rfl dX12_packs_41 ?_
  refine z_iconst (v := 3) b dX12_packs_44 (by decide) ?_
  refine z_iload_n b dX12_packs_45 rfl rfl ?_
  refine z_imul (v := 3) b dX12_packs_46 (by decide) ?_
  refine z_iload_n b dX12_packs_47 rfl rfl ?_
  refine z_iconst (v := 0) b dX12_packs_48 (by decide) ?_
  refine z_calli b (z_runS (As := [.int 1, .int 0]) (st := [.int 3, .ref (a 4), .long 196614]) b (c_X12_other_4 S ) cf_X12_other wm_X12_160 ws_X12_other dX12_packs_49 rfl (Nat.le_of_ble_eq_true rfl) ⟨by decide, by decide, by decide, by decide⟩) (fun r2804 u2805 h2803 => ?_)
  obtain ⟨rfl, rfl⟩ := h2803
  refine z_iadd (v := 5) b dX12_packs_52 (by decide) ?_
  refine y_zald (q0 := 4) (j := 5) (v := (ar S 3 5)) b (mw_4 cy a S) (by decide) rfl dX12_packs_53 ?_
  refine z_eqi h_a_3_5 ?_
  refine z_if_eq_t (tgt := 61) b dX12_packs_54 (by decide) (by decide) ?_
  refine z_lconst (v := 0) b dX12_packs_61 (by decide) ?_
  refine z_lor (v := 196614) b dX12_packs_62 (by decide) ?_
  refine z_lstore_n (lv' := [(1, .long 196614), (3, .int 1), (4, .int 2), (0, .ref (a 0))]) b dX12_packs_63 rfl (by decide) rfl ?_
  refine z_iconst (v := 0) b dX12_packs_64 (by decide) ?_
  refine z_istore (lv' := [(4, .int 0), (1, .long 196614), (3, .int 1), (0, .ref (a 0))]) b dX12_packs_65 (by decide) rfl ?_
  refine z_iload b dX12_packs_67 rfl ?_
  refine z_iconst (v := 2) b dX12_packs_69 (by decide) ?_
  refine z_icmp_ge_f (tgt := 128) b dX12_packs_70 (by decide) (by decide) ?_
  refine z_lload_n b dX12_packs_73 rfl rfl ?_
  refine z_iconst (v := 3) b dX12_packs_74 (by decide) ?_
  refine z_lshl (v := 1572912) b dX12_packs_75 (by decide) ?_
  refine z_aload_n b dX12_packs_76 rfl rfl ?_
  refine z_get (q0 := 0) (k9 := 1) (v := .ref (a 2)) b (mw_0 cy a S) rfl in_X12 (by decide) wf_X12_17 rfl dX12_packs_77 ?_
  refine z_iconst (v := 3) b dX12_packs_80 (by decide) ?_
  refine z_iload_n b dX12_packs_81 rfl rfl ?_
  refine z_imul (v := 3) b dX12_packs_82 (by decide) ?_
  refine z_iload_n b dX12_packs_83 rfl rfl ?_
  refine z_iload b dX12_packs_84 rfl ?_
  refine z_calli b (z_runS (As := [.int 1, .int 0]) (st := [.int 3, .ref (a 2), .long 1572912]) b (c_X12_other_4 S ) cf_X12_other wm_X12_160 ws_X12_other dX12_packs_86 rfl (Nat.le_of_ble_eq_true rfl) ⟨by decide, by decide, by decide, by decide⟩) (fun r2807 u2808 h2806 => ?_)
  obtain ⟨rfl, rfl⟩ := h2806
  refine z_iadd (v := 5) b dX12_packs_89 (by decide) ?_
  refine y_iald (q0 := 2) (j := 5) (v := (ar S 1 5)) b (mw_2 cy a S) (by decide) rfl dX12_packs_90 ?_
  refine z_eqi h_a_1_5 ?_
  refine z_i2l (v := 0) b dX12_packs_91 (by decide) ?_
  refine z_lor (v := 1572912) b dX12_packs_92 (by decide) ?_
  refine z_lstore_n (lv' := [(1, .long 1572912), (4, .int 0), (3, .int 1), (0, .ref (a 0))]) b dX12_packs_93 rfl (by decide) rfl ?_
  refine z_lload_n b dX12_packs_94 rfl rfl ?_
  refine z_iconst (v := 1) b dX12_packs_95 (by decide) ?_
  refine z_lshl (v := 3145824) b dX12_packs_96 (by decide) ?_
  refine z_aload_n b dX12_packs_97 rfl rfl ?_
  refine z_get (q0 := 0) (k9 := 4) (v := .ref (a 5)) b (mw_0 cy a S) rfl in_X12 (by decide) wf_X12_27 rfl dX12_packs_98 ?_
  refine z_iconst (v := 3) b dX12_packs_101 (by decide) ?_
  refine z_iload_n b dX12_packs_102 rfl rfl ?_
  refine z_imul (v := 3) b dX12_packs_103 (by decide) ?_
  refine z_iload_n b dX12_packs_104 rfl rfl ?_
  refine z_iload b dX12_packs_105 rfl ?_
  refine z_calli b (z_runS (As := [.int 1, .int 0]) (st := [.int 3, .ref (a 5), .long 3145824]) b (c_X12_other_4 S ) cf_X12_other wm_X12_160 ws_X12_other dX12_packs_107 rfl (Nat.le_of_ble_eq_true rfl) ⟨by decide, by decide, by decide, by decide⟩) (fun r2810 u2811 h2809 => ?_)
  obtain ⟨rfl, rfl⟩ := h2809
  refine z_iadd (v := 5) b dX12_packs_110 (by decide) ?_
  refine y_zald (q0 := 5) (j := 5) (v := (ar S 4 5)) b (mw_5 cy a S) (by decide) rfl dX12_packs_111 ?_
  refine z_eqi h_a_4_5 ?_
  refine z_if_eq_f (tgt := 119) b dX12_packs_112 (by decide) (by decide) ?_
  refine z_lconst (v := 1) b dX12_packs_115 (by decide) ?_
  refine z_goto (tgt := 120) b dX12_packs_116 (by decide) ?_
  refine z_lor (v := 3145825) b dX12_packs_120 (by decide) ?_
  refine z_lstore_n (lv' := [(1, .long 3145825), (4, .int 0), (3, .int 1), (0, .ref (a 0))]) b dX12_packs_121 rfl (by decide) rfl ?_
  refine z_iinc (k9 := 1) (v := 1) (lv' := [(4, .int 1), (1, .long 3145825), (3, .int 1), (0, .ref (a 0))]) b dX12_packs_122 rfl (by decide) (by decide) rfl ?_
  refine z_goto (tgt := 67) b dX12_packs_125 (by decide) ?_
  refine z_iload b dX12_packs_67 rfl ?_
  refine z_iconst (v := 2) b dX12_packs_69 (by decide) ?_
  refine z_icmp_ge_f (tgt := 128) b dX12_packs_70 (by decide) (by decide) ?_
  refine z_lload_n b dX12_packs_73 rfl rfl ?_
  refine z_iconst (v := 3) b dX12_packs_74 (by decide) ?_
  refine z_lshl (v := 25166600) b dX12_packs_75 (by decide) ?_
  refine z_aload_n b dX12_packs_76 rfl rfl ?_
  refine z_get (q0 := 0) (k9 := 1) (v := .ref (a 2)) b (mw_0 cy a S) rfl in_X12 (by decide) wf_X12_17 rfl dX12_packs_77 ?_
  refine z_iconst (v := 3) b dX12_packs_80 (by decide) ?_
  refine z_iload_n b dX12_packs_81 rfl rfl ?_
  refine z_imul (v := 3) b dX12_packs_82 (by decide) ?_
  refine z_iload_n b dX12_packs_83 rfl rfl ?_
  refine z_iload b dX12_packs_84 rfl ?_
  refine z_calli b (z_runS (As := [.int 1, .int 1]) (st := [.int 3, .ref (a 2), .long 25166600]) b (c_X12_other_3 S ) cf_X12_other wm_X12_160 ws_X12_other dX12_packs_86 rfl (Nat.le_of_ble_eq_true rfl) ⟨by decide, by decide, by decide, by decide⟩) (fun r2813 u2814 h2812 => ?_)
  obtain ⟨rfl, rfl⟩ := h2812
  refine z_iadd (v := 3) b dX12_packs_89 (by decide) ?_
  refine y_iald (q0 := 2) (j := 3) (v := (ar S 1 3)) b (mw_2 cy a S) (by decide) rfl dX12_packs_90 ?_
  refine z_eqi h_a_1_3 ?_
  refine z_i2l (v := 0) b dX12_packs_91 (by decide) ?_
  refine z_lor (v := 25166600) b dX12_packs_92 (by decide) ?_
  refine z_lstore_n (lv' := [(1, .long 25166600), (4, .int 1), (3, .int 1), (0, .ref (a 0))]) b dX12_packs_93 rfl (by decide) rfl ?_
  refine z_lload_n b dX12_packs_94 rfl rfl ?_
  refine z_iconst (v := 1) b dX12_packs_95 (by decide) ?_
  refine z_lshl (v := 50333200) b dX12_packs_96 (by decide) ?_
  refine z_aload_n b dX12_packs_97 rfl rfl ?_
  refine z_get (q0 := 0) (k9 := 4) (v := .ref (a 5)) b (mw_0 cy a S) rfl in_X12 (by decide) wf_X12_27 rfl dX12_packs_98 ?_
  refine z_iconst (v := 3) b dX12_packs_101 (by decide) ?_
  refine z_iload_n b dX12_packs_102 rfl rfl ?_
  refine z_imul (v := 3) b dX12_packs_103 (by decide) ?_
  refine z_iload_n b dX12_packs_104 rfl rfl ?_
  refine z_iload b dX12_packs_105 rfl ?_
  refine z_calli b (z_runS (As := [.int 1, .int 1]) (st := [.int 3, .ref (a 5), .long 50333200]) b (c_X12_other_3 S ) cf_X12_other wm_X12_160 ws_X12_other dX12_packs_107 rfl (Nat.le_of_ble_eq_true rfl) ⟨by decide, by decide, by decide, by decide⟩) (fun r2816 u2817 h2815 => ?_)
  obtain ⟨rfl, rfl⟩ := h2815
  refine z_iadd (v := 3) b dX12_packs_110 (by decide) ?_
  refine y_zald (q0 := 5) (j := 3) (v := (ar S 4 3)) b (mw_5 cy a S) (by decide) rfl dX12_packs_111 ?_
  refine z_eqi h_a_4_3 ?_
  refine z_if_eq_t (tgt := 119) b dX12_packs_112 (by decide) (by decide) ?_
  refine z_lconst (v := 0) b dX12_packs_119 (by decide) ?_
  refine z_lor (v := 50333200) b dX12_packs_120 (by decide) ?_
  refine z_lstore_n (lv' := [(1, .long 50333200), (4, .int 1), (3, .int 1), (0, .ref (a 0))]) b dX12_packs_121 rfl (by decide) rfl ?_
  refine z_iinc (k9 := 1) (v := 2) (lv' := [(4, .int 2), (1, .long 50333200), (3, .int 1), (0, .ref (a 0))]) b dX12_packs_122 rfl (by decide) (by decide) rfl ?_
  refine z_goto (tgt := 67) b dX12_packs_125 (by decide) ?_
  refine z_iload b dX12_packs_67 rfl ?_
  refine z_iconst (v := 2) b dX12_packs_69 (by decide) ?_
  refine z_icmp_ge_t (tgt := 128) b dX12_packs_70 (by decide) (by decide) ?_
  refine z_iinc (k9 := 2) (v := 2) (lv' := [(3, .int 2), (4, .int 2), (1, .long 50333200), (0, .ref (a 0))]) b dX12_packs_128 rfl (by decide) (by decide) rfl ?_
  refine z_goto (tgt := 8) b dX12_packs_131 (by decide) ?_
  refine z_iload_n b dX12_packs_8 rfl rfl ?_
  refine z_iconst (v := 3) b dX12_packs_9 (by decide) ?_
  refine z_icmp_ge_f (tgt := 134) b dX12_packs_10 (by decide) (by decide) ?_
  refine z_lload_n b dX12_packs_13 rfl rfl ?_
  refine z_iconst (v := 4) b dX12_packs_14 (by decide) ?_
  refine z_lshl (v := 805331200) b dX12_packs_15 (by decide) ?_
  refine z_aload_n b dX12_packs_16 rfl rfl ?_
  refine z_get (q0 := 0) (k9 := 0) (v := .ref (a 1)) b (mw_0 cy a S) rfl in_X12 (by decide) wf_X12_13 rfl dX12_packs_17 ?_
  refine z_iload_n b dX12_packs_20 rfl rfl ?_
  refine y_iald (q0 := 1) (j := 2) (v := (ar S 0 2)) b (mw_1 cy a S) (by decide) rfl dX12_packs_21 ?_
  refine z_eqi h_a_0_2 ?_
  refine z_i2l (v := 0) b dX12_packs_22 (by decide) ?_
  refine z_lor (v := 805331200) b dX12_packs_23 (by decide) ?_
  refine z_lstore_n (lv' := [(1, .long 805331200), (3, .int 2), (4, .int 2), (0, .ref (a 0))]) b dX12_packs_24 rfl (by decide) rfl ?_
  refine z_lload_n b dX12_packs_25 rfl rfl ?_
  refine z_iconst (v := 2) b dX12_packs_26 (by decide) ?_
  refine z_lshl (v := 3221324800) b dX12_packs_27 (by decide) ?_
  refine z_aload_n b dX12_packs_28 rfl rfl ?_
  refine z_get (q0 := 0) (k9 := 2) (v := .ref (a 3)) b (mw_0 cy a S) rfl in_X12 (by decide) wf_X12_20 rfl dX12_packs_29 ?_
  refine z_iload_n b dX12_packs_32 rfl rfl ?_
  refine y_iald (q0 := 3) (j := 2) (v := (ar S 2 2)) b (mw_3 cy a S) (by decide) rfl dX12_packs_33 ?_
  refine z_eqi h_a_2_2 ?_
  refine z_i2l (v := 3) b dX12_packs_34 (by decide) ?_
  refine z_lor (v := 3221324803) b dX12_packs_35 (by decide) ?_
  exact k

set_option maxHeartbeats 4000000 in
set_option maxRecDepth 100000 in
theorem c_X12_packs_21 {l : Launch} {D : va_G} {cy : Nat → ClassId} {T0 tB tE : Nat} {a : Nat → Nat} (S : GS)  (h_i_0 : fi S 0 = 0) (h_a_0_0 : ar S 0 0 = 0) (h_a_2_0 : ar S 2 0 = 3) (h_a_3_1 : ar S 3 1 = 0) (h_a_1_1 : ar S 1 1 = 0) (h_a_4_1 : ar S 4 1 = 0) (h_a_1_2 : ar S 1 2 = 0) (h_a_4_2 : ar S 4 2 = 0) (h_a_0_1 : ar S 0 1 = 0) (h_a_2_1 : ar S 2 1 = 3) (h_a_3_5 : ar S 3 5 = 0) (h_a_1_5 : ar S 1 5 = 0) (h_a_4_5 : ar S 4 5 = 1) (h_a_1_3 : ar S 1 3 = 0) (h_a_4_3 : ar S 4 3 = 0) (h_a_0_2 : ar S 0 2 = 0) (h_a_2_2 : ar S 2 2 = 3) (h_a_3_6 : ar S 3 6 = 0) (h_a_1_6 : ar S 1 6 = 0) (h_a_4_6 : ar S 4 6 = 0) (h_a_1_7 : ar S 1 7 = 0) (h_a_4_7 : ar S 4 7 = 0) : Ct l D cy T0 tB tE yX12_packs cX12_packs 5 (some .long) 1 21 0 0 (mw cy a S) [.ref (a 0)] (QL D (U := GS) (fun r u => 1649318299136 = r ∧ S = u) (mw cy a)) := by
  refine Ct.ofZ RX12 "packs" [(0, .ref (a 0))] rfl rfl rfl rfl (Nat.le_of_ble_eq_true rfl) ?_
  intro p e R s m args below meth c A b
  refine ch_X12_packs_44 S  h_a_0_0 h_a_1_1 h_a_1_2 h_a_2_0 h_a_3_1 h_a_4_1 h_a_4_2 h_i_0  b ?_
  refine ch_X12_packs_45 S  h_a_0_1 h_a_0_2 h_a_1_3 h_a_1_5 h_a_2_1 h_a_2_2 h_a_3_5 h_a_4_3 h_a_4_5  b ?_
  refine z_lstore_n (lv' := [(1, .long 3221324803), (3, .int 2), (4, .int 2), (0, .ref (a 0))]) b dX12_packs_36 rfl (by decide) rfl ?_
  refine z_lload_n b dX12_packs_37 rfl rfl ?_
  refine z_iconst (v := 1) b dX12_packs_38 (by decide) ?_
  refine z_lshl (v := 6442649606) b dX12_packs_39 (by decide) ?_
  refine z_aload_n b dX12_packs_40 rfl rfl ?_
  refine z_get (q0 := 0) (k9 := 3) (v := .ref (a 4)) b (mw_0 cy a S) rfl in_X12 (by decide) wf_X12_23 rfl dX12_packs_41 ?_
  refine z_iconst (v := 3) b dX12_packs_44 (by decide) ?_
  refine z_iload_n b dX12_packs_45 rfl rfl ?_
  refine z_imul (v := 6) b dX12_packs_46 (by decide) ?_
  refine z_iload_n b dX12_packs_47 rfl rfl ?_
  refine z_iconst (v := 0) b dX12_packs_48 (by decide) ?_
  refine z_calli b (z_runS (As := [.int 2, .int 0]) (st := [.int 6, .ref (a 4), .long 6442649606]) b (c_X12_other_2 S ) cf_X12_other wm_X12_160 ws_X12_other dX12_packs_49 rfl (Nat.le_of_ble_eq_true rfl) ⟨by decide, by decide, by decide, by decide⟩) (fun r2819 u2820 h2818 => ?_)
  obtain ⟨rfl, rfl⟩ := h2818
  refine z_iadd (v := 6) b dX12_packs_52 (by decide) ?_
  refine y_zald (q0 := 4) (j := 6) (v := (ar S 3 6)) b (mw_4 cy a S) (by decide) rfl dX12_packs_53 ?_
  refine z_eqi h_a_3_6 ?_
  refine z_if_eq_t (tgt := 61) b dX12_packs_54 (by decide) (by decide) ?_
  refine z_lconst (v := 0) b dX12_packs_61 (by decide) ?_
  refine z_lor (v := 6442649606) b dX12_packs_62 (by decide) ?_
  refine z_lstore_n (lv' := [(1, .long 6442649606), (3, .int 2), (4, .int 2), (0, .ref (a 0))]) b dX12_packs_63 rfl (by decide) rfl ?_
  refine z_iconst (v := 0) b dX12_packs_64 (by decide) ?_
  refine z_istore (lv' := [(4, .int 0), (1, .long 6442649606), (3, .int 2), (0, .ref (a 0))]) b dX12_packs_65 (by decide) rfl ?_
  refine z_iload b dX12_packs_67 rfl ?_
  refine z_iconst (v := 2) b dX12_packs_69 (by decide) ?_
  refine z_icmp_ge_f (tgt := 128) b dX12_packs_70 (by decide) (by decide) ?_
  refine z_lload_n b dX12_packs_73 rfl rfl ?_
  refine z_iconst (v := 3) b dX12_packs_74 (by decide) ?_
  refine z_lshl (v := 51541196848) b dX12_packs_75 (by decide) ?_
  refine z_aload_n b dX12_packs_76 rfl rfl ?_
  refine z_get (q0 := 0) (k9 := 1) (v := .ref (a 2)) b (mw_0 cy a S) rfl in_X12 (by decide) wf_X12_17 rfl dX12_packs_77 ?_
  refine z_iconst (v := 3) b dX12_packs_80 (by decide) ?_
  refine z_iload_n b dX12_packs_81 rfl rfl ?_
  refine z_imul (v := 6) b dX12_packs_82 (by decide) ?_
  refine z_iload_n b dX12_packs_83 rfl rfl ?_
  refine z_iload b dX12_packs_84 rfl ?_
  refine z_calli b (z_runS (As := [.int 2, .int 0]) (st := [.int 6, .ref (a 2), .long 51541196848]) b (c_X12_other_2 S ) cf_X12_other wm_X12_160 ws_X12_other dX12_packs_86 rfl (Nat.le_of_ble_eq_true rfl) ⟨by decide, by decide, by decide, by decide⟩) (fun r2822 u2823 h2821 => ?_)
  obtain ⟨rfl, rfl⟩ := h2821
  refine z_iadd (v := 6) b dX12_packs_89 (by decide) ?_
  refine y_iald (q0 := 2) (j := 6) (v := (ar S 1 6)) b (mw_2 cy a S) (by decide) rfl dX12_packs_90 ?_
  refine z_eqi h_a_1_6 ?_
  refine z_i2l (v := 0) b dX12_packs_91 (by decide) ?_
  refine z_lor (v := 51541196848) b dX12_packs_92 (by decide) ?_
  refine z_lstore_n (lv' := [(1, .long 51541196848), (4, .int 0), (3, .int 2), (0, .ref (a 0))]) b dX12_packs_93 rfl (by decide) rfl ?_
  refine z_lload_n b dX12_packs_94 rfl rfl ?_
  refine z_iconst (v := 1) b dX12_packs_95 (by decide) ?_
  refine z_lshl (v := 103082393696) b dX12_packs_96 (by decide) ?_
  refine z_aload_n b dX12_packs_97 rfl rfl ?_
  refine z_get (q0 := 0) (k9 := 4) (v := .ref (a 5)) b (mw_0 cy a S) rfl in_X12 (by decide) wf_X12_27 rfl dX12_packs_98 ?_
  refine z_iconst (v := 3) b dX12_packs_101 (by decide) ?_
  refine z_iload_n b dX12_packs_102 rfl rfl ?_
  refine z_imul (v := 6) b dX12_packs_103 (by decide) ?_
  refine z_iload_n b dX12_packs_104 rfl rfl ?_
  refine z_iload b dX12_packs_105 rfl ?_
  refine z_calli b (z_runS (As := [.int 2, .int 0]) (st := [.int 6, .ref (a 5), .long 103082393696]) b (c_X12_other_2 S ) cf_X12_other wm_X12_160 ws_X12_other dX12_packs_107 rfl (Nat.le_of_ble_eq_true rfl) ⟨by decide, by decide, by decide, by decide⟩) (fun r2825 u2826 h2824 => ?_)
  obtain ⟨rfl, rfl⟩ := h2824
  refine z_iadd (v := 6) b dX12_packs_110 (by decide) ?_
  refine y_zald (q0 := 5) (j := 6) (v := (ar S 4 6)) b (mw_5 cy a S) (by decide) rfl dX12_packs_111 ?_
  refine z_eqi h_a_4_6 ?_
  refine z_if_eq_t (tgt := 119) b dX12_packs_112 (by decide) (by decide) ?_
  refine z_lconst (v := 0) b dX12_packs_119 (by decide) ?_
  refine z_lor (v := 103082393696) b dX12_packs_120 (by decide) ?_
  refine z_lstore_n (lv' := [(1, .long 103082393696), (4, .int 0), (3, .int 2), (0, .ref (a 0))]) b dX12_packs_121 rfl (by decide) rfl ?_
  refine z_iinc (k9 := 1) (v := 1) (lv' := [(4, .int 1), (1, .long 103082393696), (3, .int 2), (0, .ref (a 0))]) b dX12_packs_122 rfl (by decide) (by decide) rfl ?_
  refine z_goto (tgt := 67) b dX12_packs_125 (by decide) ?_
  refine z_iload b dX12_packs_67 rfl ?_
  refine z_iconst (v := 2) b dX12_packs_69 (by decide) ?_
  refine z_icmp_ge_f (tgt := 128) b dX12_packs_70 (by decide) (by decide) ?_
  refine z_lload_n b dX12_packs_73 rfl rfl ?_
  refine z_iconst (v := 3) b dX12_packs_74 (by decide) ?_
  refine z_lshl (v := 824659149568) b dX12_packs_75 (by decide) ?_
  refine z_aload_n b dX12_packs_76 rfl rfl ?_
  refine z_get (q0 := 0) (k9 := 1) (v := .ref (a 2)) b (mw_0 cy a S) rfl in_X12 (by decide) wf_X12_17 rfl dX12_packs_77 ?_
  refine z_iconst (v := 3) b dX12_packs_80 (by decide) ?_
  refine z_iload_n b dX12_packs_81 rfl rfl ?_
  refine z_imul (v := 6) b dX12_packs_82 (by decide) ?_
  refine z_iload_n b dX12_packs_83 rfl rfl ?_
  refine z_iload b dX12_packs_84 rfl ?_
  refine z_calli b (z_runS (As := [.int 2, .int 1]) (st := [.int 6, .ref (a 2), .long 824659149568]) b (c_X12_other S ) cf_X12_other wm_X12_160 ws_X12_other dX12_packs_86 rfl (Nat.le_of_ble_eq_true rfl) ⟨by decide, by decide, by decide, by decide⟩) (fun r2828 u2829 h2827 => ?_)
  obtain ⟨rfl, rfl⟩ := h2827
  refine z_iadd (v := 7) b dX12_packs_89 (by decide) ?_
  refine y_iald (q0 := 2) (j := 7) (v := (ar S 1 7)) b (mw_2 cy a S) (by decide) rfl dX12_packs_90 ?_
  refine z_eqi h_a_1_7 ?_
  refine z_i2l (v := 0) b dX12_packs_91 (by decide) ?_
  refine z_lor (v := 824659149568) b dX12_packs_92 (by decide) ?_
  refine z_lstore_n (lv' := [(1, .long 824659149568), (4, .int 1), (3, .int 2), (0, .ref (a 0))]) b dX12_packs_93 rfl (by decide) rfl ?_
  refine z_lload_n b dX12_packs_94 rfl rfl ?_
  refine z_iconst (v := 1) b dX12_packs_95 (by decide) ?_
  refine z_lshl (v := 1649318299136) b dX12_packs_96 (by decide) ?_
  refine z_aload_n b dX12_packs_97 rfl rfl ?_
  refine z_get (q0 := 0) (k9 := 4) (v := .ref (a 5)) b (mw_0 cy a S) rfl in_X12 (by decide) wf_X12_27 rfl dX12_packs_98 ?_
  refine z_iconst (v := 3) b dX12_packs_101 (by decide) ?_
  refine z_iload_n b dX12_packs_102 rfl rfl ?_
  refine z_imul (v := 6) b dX12_packs_103 (by decide) ?_
  refine z_iload_n b dX12_packs_104 rfl rfl ?_
  refine z_iload b dX12_packs_105 rfl ?_
  refine z_calli b (z_runS (As := [.int 2, .int 1]) (st := [.int 6, .ref (a 5), .long 1649318299136]) b (c_X12_other S ) cf_X12_other wm_X12_160 ws_X12_other dX12_packs_107 rfl (Nat.le_of_ble_eq_true rfl) ⟨by decide, by decide, by decide, by decide⟩) (fun r2831 u2832 h2830 => ?_)
  obtain ⟨rfl, rfl⟩ := h2830
  refine z_iadd (v := 7) b dX12_packs_110 (by decide) ?_
  refine y_zald (q0 := 5) (j := 7) (v := (ar S 4 7)) b (mw_5 cy a S) (by decide) rfl dX12_packs_111 ?_
  refine z_eqi h_a_4_7 ?_
  refine z_if_eq_t (tgt := 119) b dX12_packs_112 (by decide) (by decide) ?_
  refine z_lconst (v := 0) b dX12_packs_119 (by decide) ?_
  refine z_lor (v := 1649318299136) b dX12_packs_120 (by decide) ?_
  refine z_lstore_n (lv' := [(1, .long 1649318299136), (4, .int 1), (3, .int 2), (0, .ref (a 0))]) b dX12_packs_121 rfl (by decide) rfl ?_
  refine z_iinc (k9 := 1) (v := 2) (lv' := [(4, .int 2), (1, .long 1649318299136), (3, .int 2), (0, .ref (a 0))]) b dX12_packs_122 rfl (by decide) (by decide) rfl ?_
  refine z_goto (tgt := 67) b dX12_packs_125 (by decide) ?_
  refine z_iload b dX12_packs_67 rfl ?_
  refine z_iconst (v := 2) b dX12_packs_69 (by decide) ?_
  refine z_icmp_ge_t (tgt := 128) b dX12_packs_70 (by decide) (by decide) ?_
  refine z_iinc (k9 := 2) (v := 3) (lv' := [(3, .int 3), (4, .int 2), (1, .long 1649318299136), (0, .ref (a 0))]) b dX12_packs_128 rfl (by decide) (by decide) rfl ?_
  refine z_goto (tgt := 8) b dX12_packs_131 (by decide) ?_
  refine z_iload_n b dX12_packs_8 rfl rfl ?_
  refine z_iconst (v := 3) b dX12_packs_9 (by decide) ?_
  refine z_icmp_ge_t (tgt := 134) b dX12_packs_10 (by decide) (by decide) ?_
  refine z_lload_n b dX12_packs_134 rfl rfl ?_
  exact z_lret (u := S) b rfl dX12_packs_135 ⟨rfl, rfl⟩ rfl (by decide) (by decide)

set_option maxHeartbeats 4000000 in
set_option maxRecDepth 100000 in
theorem c_X12_told_21 {l : Launch} {D : va_G} {cy : Nat → ClassId} {T0 tB tE : Nat} {a : Nat → Nat} (S : GS)  (h_i_0 : fi S 0 = 0) (h_a_0_0 : ar S 0 0 = 0) (h_a_2_0 : ar S 2 0 = 3) (h_a_3_1 : ar S 3 1 = 0) (h_a_1_1 : ar S 1 1 = 0) (h_a_4_1 : ar S 4 1 = 0) (h_a_1_2 : ar S 1 2 = 0) (h_a_4_2 : ar S 4 2 = 0) (h_a_0_1 : ar S 0 1 = 0) (h_a_2_1 : ar S 2 1 = 3) (h_a_3_5 : ar S 3 5 = 0) (h_a_1_5 : ar S 1 5 = 0) (h_a_4_5 : ar S 4 5 = 1) (h_a_1_3 : ar S 1 3 = 0) (h_a_4_3 : ar S 4 3 = 0) (h_a_0_2 : ar S 0 2 = 0) (h_a_2_2 : ar S 2 2 = 3) (h_a_3_6 : ar S 3 6 = 0) (h_a_1_6 : ar S 1 6 = 0) (h_a_4_6 : ar S 4 6 = 0) (h_a_1_7 : ar S 1 7 = 0) (h_a_4_7 : ar S 4 7 = 0) : Ct l D cy T0 tB tE yX12_told cX12_told 1 (some .boolean) 2 45 0 0 (mw cy a S) [.ref (a 0)] (QI D (U := GS) (fun r u => 1 = r ∧ sl S 0 1649318299136 = u) (mw cy a)) := by
  refine Ct.ofZ RX12 "told" [(0, .ref (a 0))] rfl rfl rfl rfl (Nat.le_of_ble_eq_true rfl) ?_
  intro p e R s m args below meth c A b
  refine z_aload_n b dX12_told_0 rfl rfl ?_
  refine z_aload_n b dX12_told_1 rfl rfl ?_
  refine z_calll b (z_runV (q0 := 0) (As := []) (st := [.ref (a 0)]) b (c_X12_packs_21 S h_i_0 h_a_0_0 h_a_2_0 h_a_3_1 h_a_1_1 h_a_4_1 h_a_1_2 h_a_4_2 h_a_0_1 h_a_2_1 h_a_3_5 h_a_1_5 h_a_4_5 h_a_1_3 h_a_4_3 h_a_0_2 h_a_2_2 h_a_3_6 h_a_1_6 h_a_4_6 h_a_1_7 h_a_4_7) cf_X12_packs (mw_0 cy a S) rfl wm_X12_149 wi_X12_packs ws_X12_packs dX12_told_2 rfl (Nat.le_of_ble_eq_true rfl) ⟨by decide, by decide, by decide, by decide⟩) (fun r2834 u2835 h2833 => ?_)
  obtain ⟨rfl, rfl⟩ := h2833
  refine z_put (q0 := 0) (k9 := 6) tyX12 b (mw_0 cy a S) rfl in_X12 tyX12_ok nmX12 (by decide) wf_X12_153 rfl rfl rfl rfl (Nat.le_of_ble_eq_true rfl) dX12_told_5 (mwp_0_6 cy a S 1649318299136) ?_
  refine z_iconst (v := 1) b dX12_told_8 (by decide) ?_
  exact z_zret (u := (sl S 0 1649318299136)) b rfl (by decide) dX12_told_9 ⟨rfl, rfl⟩ rfl (by decide) (by decide)

set_option maxHeartbeats 4000000 in
set_option maxRecDepth 100000 in
theorem c_X12_kin_52 {l : Launch} {D : va_G} {cy : Nat → ClassId} {T0 tB tE : Nat} {a : Nat → Nat} (S : GS)  (h_l_0 : fl S 0 = 1649317774848) (h_a_4_7 : ar S 4 7 = 0) (h_a_1_7 : ar S 1 7 = 0) (h_a_4_6 : ar S 4 6 = 0) (h_a_1_6 : ar S 1 6 = 0) (h_a_3_6 : ar S 3 6 = 0) (h_a_3_2 : ar S 3 2 = 0) (h_a_2_2 : ar S 2 2 = 3) (h_a_0_2 : ar S 0 2 = 0) (h_a_4_3 : ar S 4 3 = 0) (h_a_1_3 : ar S 1 3 = 0) (h_a_4_5 : ar S 4 5 = 0) (h_a_1_5 : ar S 1 5 = 0) (h_a_3_5 : ar S 3 5 = 0) (h_a_3_7 : ar S 3 7 = 0) (h_a_2_1 : ar S 2 1 = 3) (h_a_0_1 : ar S 0 1 = 0) (h_a_4_2 : ar S 4 2 = 0) (h_a_1_2 : ar S 1 2 = 0) (h_a_4_1 : ar S 4 1 = 0) (h_a_1_1 : ar S 1 1 = 0) (h_a_3_1 : ar S 3 1 = 0) (h_a_3_3 : ar S 3 3 = 0) (h_a_2_0 : ar S 2 0 = 3) (h_a_0_0 : ar S 0 0 = 0) (h_i_0 : fi S 0 = 0) : Ct l D cy T0 tB tE yX12_kin cX12_kin 5 (some .boolean) 3 65 0 0 (mw cy a S) [.ref (a 0), .int 1, .int 2, .int 1, .int 1] (QI D (U := GS) (fun r u => 1 = r ∧ sl (su S 4 5 1) 0 1649318299136 = u) (mw cy a)) := by
  refine Ct.ofZ RX12 "kin" [(0, .ref (a 0)), (1, .int 1), (2, .int 2), (3, .int 1), (4, .int 1)] rfl rfl rfl rfl (Nat.le_of_ble_eq_true rfl) ?_
  intro p e R s m args below meth c A b
  refine z_iload_n b dX12_kin_0 rfl rfl ?_
  refine z_calli b (z_runS (As := [.int 1]) (st := []) b (c_X12_isOne_4 S ) cf_X12_isOne wm_X12_170 ws_X12_isOne dX12_kin_1 rfl (Nat.le_of_ble_eq_true rfl) ⟨by decide, by decide, by decide, by decide⟩) (fun r2777 u2778 h2776 => ?_)
  obtain ⟨rfl, rfl⟩ := h2776
  refine z_if_eq_f (tgt := 28) b dX12_kin_4 (by decide) (by decide) ?_
  refine z_iload_n b dX12_kin_7 rfl rfl ?_
  refine z_calli b (z_runS (As := [.int 2]) (st := []) b (c_X12_isOne_5 S ) cf_X12_isOne wm_X12_170 ws_X12_isOne dX12_kin_8 rfl (Nat.le_of_ble_eq_true rfl) ⟨by decide, by decide, by decide, by decide⟩) (fun r2780 u2781 h2779 => ?_)
  obtain ⟨rfl, rfl⟩ := h2779
  refine z_if_eq_f (tgt := 28) b dX12_kin_11 (by decide) (by decide) ?_
  refine z_iload_n b dX12_kin_14 rfl rfl ?_
  refine z_iload_n b dX12_kin_15 rfl rfl ?_
  refine z_icmp_eq_f (tgt := 28) b dX12_kin_16 (by decide) (by decide) ?_
  refine z_iload_n b dX12_kin_19 rfl rfl ?_
  refine z_iconst (v := 0) b dX12_kin_20 (by decide) ?_
  refine z_iconst (v := 1) b dX12_kin_21 (by decide) ?_
  refine z_calli b (z_runS (As := [.int 1, .int 0, .int 1]) (st := []) b (c_X12_isIn_17 S ) cf_X12_isIn wm_X12_1 ws_X12_isIn dX12_kin_22 rfl (Nat.le_of_ble_eq_true rfl) ⟨by decide, by decide, by decide, by decide⟩) (fun r2783 u2784 h2782 => ?_)
  obtain ⟨rfl, rfl⟩ := h2782
  refine z_if_ne_t (tgt := 30) b dX12_kin_25 (by decide) (by decide) ?_
  refine z_aload_n b dX12_kin_30 rfl rfl ?_
  refine z_aload_n b dX12_kin_31 rfl rfl ?_
  refine z_get (q0 := 0) (k9 := 6) (v := .long (fl S 0)) b (mw_0 cy a S) rfl in_X12 (by decide) wf_X12_153 rfl dX12_kin_32 ?_
  refine z_eql h_l_0 ?_
  refine z_callv b (z_runV (q0 := 0) (As := [.long 1649317774848]) (st := []) b (c_X12_takes S h_a_4_7 h_a_1_7 h_a_4_6 h_a_1_6 h_a_3_6 h_a_3_2 h_a_2_2 h_a_0_2 h_a_4_3 h_a_1_3 h_a_4_5 h_a_1_5 h_a_3_5 h_a_3_7 h_a_2_1 h_a_0_1 h_a_4_2 h_a_1_2 h_a_4_1 h_a_1_1 h_a_3_1 h_a_3_3 h_a_2_0 h_a_0_0 h_i_0) cf_X12_takes (mw_0 cy a S) rfl wm_X12_174 wi_X12_takes ws_X12_takes dX12_kin_35 rfl (Nat.le_of_ble_eq_true rfl) ⟨by decide, by decide, by decide, by decide⟩) (fun u2787 h2785 => ?_)
  obtain rfl := h2785
  refine z_iload_n b dX12_kin_38 rfl rfl ?_
  refine z_iconst (v := 1) b dX12_kin_39 (by decide) ?_
  refine z_icmp_ne_f (tgt := 58) b dX12_kin_40 (by decide) (by decide) ?_
  refine z_aload_n b dX12_kin_43 rfl rfl ?_
  refine z_get (q0 := 0) (k9 := 4) (v := .ref (a 5)) b (mw_0 cy a S) rfl in_X12 (by decide) wf_X12_27 rfl dX12_kin_44 ?_
  refine z_iconst (v := 3) b dX12_kin_47 (by decide) ?_
  refine z_iload_n b dX12_kin_48 rfl rfl ?_
  refine z_imul (v := 3) b dX12_kin_49 (by decide) ?_
  refine z_iload_n b dX12_kin_50 rfl rfl ?_
  refine z_iadd (v := 5) b dX12_kin_51 (by decide) ?_
  refine z_iload b dX12_kin_52 rfl ?_
  refine y_zast (q0 := 5) (j := 5) b (mw_5 cy a S) (by decide) (by decide) dX12_kin_54 (mwa_5 cy a S 5 1) ?_
  refine z_goto (tgt := 82) b dX12_kin_55 (by decide) ?_
  refine z_aload_n b dX12_kin_82 rfl rfl ?_
  refine z_calli b (z_runV (q0 := 0) (As := []) (st := []) b (c_X12_told_21 (su S 4 5 1) h_i_0 h_a_0_0 h_a_2_0 h_a_3_1 h_a_1_1 h_a_4_1 h_a_1_2 h_a_4_2 h_a_0_1 h_a_2_1 h_a_3_5 h_a_1_5 rfl h_a_1_3 h_a_4_3 h_a_0_2 h_a_2_2 h_a_3_6 h_a_1_6 h_a_4_6 h_a_1_7 h_a_4_7) cf_X12_told (mw_0 cy a (su S 4 5 1)) rfl wm_X12_178 wi_X12_told ws_X12_told dX12_kin_83 rfl (Nat.le_of_ble_eq_true rfl) ⟨by decide, by decide, by decide, by decide⟩) (fun r2837 u2838 h2836 => ?_)
  obtain ⟨rfl, rfl⟩ := h2836
  exact z_zret (u := (sl (su S 4 5 1) 0 1649318299136)) b rfl (by decide) dX12_kin_86 ⟨rfl, rfl⟩ rfl (by decide) (by decide)

set_option maxHeartbeats 4000000 in
set_option maxRecDepth 100000 in
theorem c_X11_kin_53 {l : Launch} {D : va_G} {cy : Nat → ClassId} {T0 tB tE : Nat} {a : Nat → Nat} {rw : Nat → Option Nat} (S : GS) (p0 : Int32)  (hr_p0 : 2 ≤ p0.toInt ∧ p0.toInt ≤ 2147483647) : Ct l D cy T0 tB tE yX11_kin cX11_kin 6 (some .boolean) 2 41 0 0 (cw cy tE a rw S) [.ref (a 0), .int 1, .int 2, .int p0, .int 0] (QI D (U := GS) (fun r u => 0 = r ∧ S = u) (cw cy tE a rw)) := by
  refine Ct.ofZ RX11 "kin" [(0, .ref (a 0)), (1, .int 1), (2, .int 2), (3, .int p0), (4, .int 0)] rfl rfl rfl rfl (Nat.le_of_ble_eq_true rfl) ?_
  intro p e R s m args below meth c A b
  refine z_iload_n b dX11_kin_0 rfl rfl ?_
  refine z_iload_n b dX11_kin_1 rfl rfl ?_
  refine z_calli b (z_runS (As := [.int 1, .int 2]) (st := []) b (c_X11_arePair_15 S ) cf_X11_arePair wm_X11_84 ws_X11_arePair dX11_kin_2 rfl (Nat.le_of_ble_eq_true rfl) ⟨by decide, by decide, by decide, by decide⟩) (fun r2840 u2841 h2839 => ?_)
  obtain ⟨rfl, rfl⟩ := h2839
  refine z_if_eq_f (tgt := 16) b dX11_kin_5 (by decide) (by decide) ?_
  refine z_iload_n b dX11_kin_8 rfl rfl ?_
  refine z_iconst (v := 1) b dX11_kin_9 (by decide) ?_
  refine z_calli b (z_runS (As := [.int p0, .int 1]) (st := []) b (c_X11_isWithin_13 S p0 ⟨by omega, by omega⟩) cf_X11_isWithin wm_X11_73 ws_X11_isWithin dX11_kin_10 rfl (Nat.le_of_ble_eq_true rfl) ⟨by decide, by decide, by decide, by decide⟩) (fun r2843 u2844 h2842 => ?_)
  obtain ⟨rfl, rfl⟩ := h2842
  refine z_if_ne_f (tgt := 18) b dX11_kin_13 (by decide) (by decide) ?_
  refine z_iconst (v := 0) b dX11_kin_16 (by decide) ?_
  exact z_zret (u := S) b rfl (by decide) dX11_kin_17 ⟨rfl, rfl⟩ rfl (by decide) (by decide)

set_option maxHeartbeats 4000000 in
set_option maxRecDepth 100000 in
theorem c_X12_kin_53 {l : Launch} {D : va_G} {cy : Nat → ClassId} {T0 tB tE : Nat} {a : Nat → Nat} (S : GS) (p0 : Int32)  (hr_p0 : 2 ≤ p0.toInt ∧ p0.toInt ≤ 2147483647) : Ct l D cy T0 tB tE yX12_kin cX12_kin 5 (some .boolean) 2 42 0 0 (mw cy a S) [.ref (a 0), .int 1, .int 2, .int p0, .int 0] (QI D (U := GS) (fun r u => 0 = r ∧ S = u) (mw cy a)) := by
  refine Ct.ofZ RX12 "kin" [(0, .ref (a 0)), (1, .int 1), (2, .int 2), (3, .int p0), (4, .int 0)] rfl rfl rfl rfl (Nat.le_of_ble_eq_true rfl) ?_
  intro p e R s m args below meth c A b
  refine z_iload_n b dX12_kin_0 rfl rfl ?_
  refine z_calli b (z_runS (As := [.int 1]) (st := []) b (c_X12_isOne_4 S ) cf_X12_isOne wm_X12_170 ws_X12_isOne dX12_kin_1 rfl (Nat.le_of_ble_eq_true rfl) ⟨by decide, by decide, by decide, by decide⟩) (fun r2846 u2847 h2845 => ?_)
  obtain ⟨rfl, rfl⟩ := h2845
  refine z_if_eq_f (tgt := 28) b dX12_kin_4 (by decide) (by decide) ?_
  refine z_iload_n b dX12_kin_7 rfl rfl ?_
  refine z_calli b (z_runS (As := [.int 2]) (st := []) b (c_X12_isOne_5 S ) cf_X12_isOne wm_X12_170 ws_X12_isOne dX12_kin_8 rfl (Nat.le_of_ble_eq_true rfl) ⟨by decide, by decide, by decide, by decide⟩) (fun r2849 u2850 h2848 => ?_)
  obtain ⟨rfl, rfl⟩ := h2848
  refine z_if_eq_f (tgt := 28) b dX12_kin_11 (by decide) (by decide) ?_
  refine z_iload_n b dX12_kin_14 rfl rfl ?_
  refine z_iload_n b dX12_kin_15 rfl rfl ?_
  refine z_icmp_eq_f (tgt := 28) b dX12_kin_16 (by decide) (by decide) ?_
  refine z_iload_n b dX12_kin_19 rfl rfl ?_
  refine z_iconst (v := 0) b dX12_kin_20 (by decide) ?_
  refine z_iconst (v := 1) b dX12_kin_21 (by decide) ?_
  refine z_calli b (z_runS (As := [.int p0, .int 0, .int 1]) (st := []) b (c_X12_isIn_18 S p0 ⟨by omega, by omega⟩) cf_X12_isIn wm_X12_1 ws_X12_isIn dX12_kin_22 rfl (Nat.le_of_ble_eq_true rfl) ⟨by decide, by decide, by decide, by decide⟩) (fun r2852 u2853 h2851 => ?_)
  obtain ⟨rfl, rfl⟩ := h2851
  refine z_if_ne_f (tgt := 30) b dX12_kin_25 (by decide) (by decide) ?_
  refine z_iconst (v := 0) b dX12_kin_28 (by decide) ?_
  exact z_zret (u := S) b rfl (by decide) dX12_kin_29 ⟨rfl, rfl⟩ rfl (by decide) (by decide)

set_option maxHeartbeats 4000000 in
set_option maxRecDepth 100000 in
theorem c_X11_kin_54 {l : Launch} {D : va_G} {cy : Nat → ClassId} {T0 tB tE : Nat} {a : Nat → Nat} {rw : Nat → Option Nat} (S : GS) (p0 : Int32)  (hr_p0 : 2 ≤ p0.toInt ∧ p0.toInt ≤ 2147483647) : Ct l D cy T0 tB tE yX11_kin cX11_kin 6 (some .boolean) 2 41 0 0 (cw cy tE a rw S) [.ref (a 0), .int 1, .int 2, .int p0, .int 1] (QI D (U := GS) (fun r u => 0 = r ∧ S = u) (cw cy tE a rw)) := by
  refine Ct.ofZ RX11 "kin" [(0, .ref (a 0)), (1, .int 1), (2, .int 2), (3, .int p0), (4, .int 1)] rfl rfl rfl rfl (Nat.le_of_ble_eq_true rfl) ?_
  intro p e R s m args below meth c A b
  refine z_iload_n b dX11_kin_0 rfl rfl ?_
  refine z_iload_n b dX11_kin_1 rfl rfl ?_
  refine z_calli b (z_runS (As := [.int 1, .int 2]) (st := []) b (c_X11_arePair_15 S ) cf_X11_arePair wm_X11_84 ws_X11_arePair dX11_kin_2 rfl (Nat.le_of_ble_eq_true rfl) ⟨by decide, by decide, by decide, by decide⟩) (fun r2855 u2856 h2854 => ?_)
  obtain ⟨rfl, rfl⟩ := h2854
  refine z_if_eq_f (tgt := 16) b dX11_kin_5 (by decide) (by decide) ?_
  refine z_iload_n b dX11_kin_8 rfl rfl ?_
  refine z_iconst (v := 1) b dX11_kin_9 (by decide) ?_
  refine z_calli b (z_runS (As := [.int p0, .int 1]) (st := []) b (c_X11_isWithin_13 S p0 ⟨by omega, by omega⟩) cf_X11_isWithin wm_X11_73 ws_X11_isWithin dX11_kin_10 rfl (Nat.le_of_ble_eq_true rfl) ⟨by decide, by decide, by decide, by decide⟩) (fun r2858 u2859 h2857 => ?_)
  obtain ⟨rfl, rfl⟩ := h2857
  refine z_if_ne_f (tgt := 18) b dX11_kin_13 (by decide) (by decide) ?_
  refine z_iconst (v := 0) b dX11_kin_16 (by decide) ?_
  exact z_zret (u := S) b rfl (by decide) dX11_kin_17 ⟨rfl, rfl⟩ rfl (by decide) (by decide)

set_option maxHeartbeats 4000000 in
set_option maxRecDepth 100000 in
theorem c_X12_kin_54 {l : Launch} {D : va_G} {cy : Nat → ClassId} {T0 tB tE : Nat} {a : Nat → Nat} (S : GS) (p0 : Int32)  (hr_p0 : 2 ≤ p0.toInt ∧ p0.toInt ≤ 2147483647) : Ct l D cy T0 tB tE yX12_kin cX12_kin 5 (some .boolean) 2 42 0 0 (mw cy a S) [.ref (a 0), .int 1, .int 2, .int p0, .int 1] (QI D (U := GS) (fun r u => 0 = r ∧ S = u) (mw cy a)) := by
  refine Ct.ofZ RX12 "kin" [(0, .ref (a 0)), (1, .int 1), (2, .int 2), (3, .int p0), (4, .int 1)] rfl rfl rfl rfl (Nat.le_of_ble_eq_true rfl) ?_
  intro p e R s m args below meth c A b
  refine z_iload_n b dX12_kin_0 rfl rfl ?_
  refine z_calli b (z_runS (As := [.int 1]) (st := []) b (c_X12_isOne_4 S ) cf_X12_isOne wm_X12_170 ws_X12_isOne dX12_kin_1 rfl (Nat.le_of_ble_eq_true rfl) ⟨by decide, by decide, by decide, by decide⟩) (fun r2861 u2862 h2860 => ?_)
  obtain ⟨rfl, rfl⟩ := h2860
  refine z_if_eq_f (tgt := 28) b dX12_kin_4 (by decide) (by decide) ?_
  refine z_iload_n b dX12_kin_7 rfl rfl ?_
  refine z_calli b (z_runS (As := [.int 2]) (st := []) b (c_X12_isOne_5 S ) cf_X12_isOne wm_X12_170 ws_X12_isOne dX12_kin_8 rfl (Nat.le_of_ble_eq_true rfl) ⟨by decide, by decide, by decide, by decide⟩) (fun r2864 u2865 h2863 => ?_)
  obtain ⟨rfl, rfl⟩ := h2863
  refine z_if_eq_f (tgt := 28) b dX12_kin_11 (by decide) (by decide) ?_
  refine z_iload_n b dX12_kin_14 rfl rfl ?_
  refine z_iload_n b dX12_kin_15 rfl rfl ?_
  refine z_icmp_eq_f (tgt := 28) b dX12_kin_16 (by decide) (by decide) ?_
  refine z_iload_n b dX12_kin_19 rfl rfl ?_
  refine z_iconst (v := 0) b dX12_kin_20 (by decide) ?_
  refine z_iconst (v := 1) b dX12_kin_21 (by decide) ?_
  refine z_calli b (z_runS (As := [.int p0, .int 0, .int 1]) (st := []) b (c_X12_isIn_18 S p0 ⟨by omega, by omega⟩) cf_X12_isIn wm_X12_1 ws_X12_isIn dX12_kin_22 rfl (Nat.le_of_ble_eq_true rfl) ⟨by decide, by decide, by decide, by decide⟩) (fun r2867 u2868 h2866 => ?_)
  obtain ⟨rfl, rfl⟩ := h2866
  refine z_if_ne_f (tgt := 30) b dX12_kin_25 (by decide) (by decide) ?_
  refine z_iconst (v := 0) b dX12_kin_28 (by decide) ?_
  exact z_zret (u := S) b rfl (by decide) dX12_kin_29 ⟨rfl, rfl⟩ rfl (by decide) (by decide)

set_option maxHeartbeats 4000000 in
set_option maxRecDepth 100000 in
theorem c_X11_kin_55 {l : Launch} {D : va_G} {cy : Nat → ClassId} {T0 tB tE : Nat} {a : Nat → Nat} {rw : Nat → Option Nat} (S : GS) (p0 : Int32)  (hr_p0 : (-2147483648) ≤ p0.toInt ∧ p0.toInt ≤ (-1)) : Ct l D cy T0 tB tE yX11_kin cX11_kin 6 (some .boolean) 2 41 0 0 (cw cy tE a rw S) [.ref (a 0), .int 2, .int 0, .int p0, .int 0] (QI D (U := GS) (fun r u => 0 = r ∧ S = u) (cw cy tE a rw)) := by
  refine Ct.ofZ RX11 "kin" [(0, .ref (a 0)), (1, .int 2), (2, .int 0), (3, .int p0), (4, .int 0)] rfl rfl rfl rfl (Nat.le_of_ble_eq_true rfl) ?_
  intro p e R s m args below meth c A b
  refine z_iload_n b dX11_kin_0 rfl rfl ?_
  refine z_iload_n b dX11_kin_1 rfl rfl ?_
  refine z_calli b (z_runS (As := [.int 2, .int 0]) (st := []) b (c_X11_arePair_16 S ) cf_X11_arePair wm_X11_84 ws_X11_arePair dX11_kin_2 rfl (Nat.le_of_ble_eq_true rfl) ⟨by decide, by decide, by decide, by decide⟩) (fun r2870 u2871 h2869 => ?_)
  obtain ⟨rfl, rfl⟩ := h2869
  refine z_if_eq_f (tgt := 16) b dX11_kin_5 (by decide) (by decide) ?_
  refine z_iload_n b dX11_kin_8 rfl rfl ?_
  refine z_iconst (v := 1) b dX11_kin_9 (by decide) ?_
  refine z_calli b (z_runS (As := [.int p0, .int 1]) (st := []) b (c_X11_isWithin_10 S p0 ⟨by omega, by omega⟩) cf_X11_isWithin wm_X11_73 ws_X11_isWithin dX11_kin_10 rfl (Nat.le_of_ble_eq_true rfl) ⟨by decide, by decide, by decide, by decide⟩) (fun r2873 u2874 h2872 => ?_)
  obtain ⟨rfl, rfl⟩ := h2872
  refine z_if_ne_f (tgt := 18) b dX11_kin_13 (by decide) (by decide) ?_
  refine z_iconst (v := 0) b dX11_kin_16 (by decide) ?_
  exact z_zret (u := S) b rfl (by decide) dX11_kin_17 ⟨rfl, rfl⟩ rfl (by decide) (by decide)

set_option maxHeartbeats 4000000 in
set_option maxRecDepth 100000 in
theorem c_X12_kin_55 {l : Launch} {D : va_G} {cy : Nat → ClassId} {T0 tB tE : Nat} {a : Nat → Nat} (S : GS) (p0 : Int32)  (hr_p0 : (-2147483648) ≤ p0.toInt ∧ p0.toInt ≤ (-1)) : Ct l D cy T0 tB tE yX12_kin cX12_kin 5 (some .boolean) 2 42 0 0 (mw cy a S) [.ref (a 0), .int 2, .int 0, .int p0, .int 0] (QI D (U := GS) (fun r u => 0 = r ∧ S = u) (mw cy a)) := by
  refine Ct.ofZ RX12 "kin" [(0, .ref (a 0)), (1, .int 2), (2, .int 0), (3, .int p0), (4, .int 0)] rfl rfl rfl rfl (Nat.le_of_ble_eq_true rfl) ?_
  intro p e R s m args below meth c A b
  refine z_iload_n b dX12_kin_0 rfl rfl ?_
  refine z_calli b (z_runS (As := [.int 2]) (st := []) b (c_X12_isOne_5 S ) cf_X12_isOne wm_X12_170 ws_X12_isOne dX12_kin_1 rfl (Nat.le_of_ble_eq_true rfl) ⟨by decide, by decide, by decide, by decide⟩) (fun r2876 u2877 h2875 => ?_)
  obtain ⟨rfl, rfl⟩ := h2875
  refine z_if_eq_f (tgt := 28) b dX12_kin_4 (by decide) (by decide) ?_
  refine z_iload_n b dX12_kin_7 rfl rfl ?_
  refine z_calli b (z_runS (As := [.int 0]) (st := []) b (c_X12_isOne_3 S ) cf_X12_isOne wm_X12_170 ws_X12_isOne dX12_kin_8 rfl (Nat.le_of_ble_eq_true rfl) ⟨by decide, by decide, by decide, by decide⟩) (fun r2879 u2880 h2878 => ?_)
  obtain ⟨rfl, rfl⟩ := h2878
  refine z_if_eq_f (tgt := 28) b dX12_kin_11 (by decide) (by decide) ?_
  refine z_iload_n b dX12_kin_14 rfl rfl ?_
  refine z_iload_n b dX12_kin_15 rfl rfl ?_
  refine z_icmp_eq_f (tgt := 28) b dX12_kin_16 (by decide) (by decide) ?_
  refine z_iload_n b dX12_kin_19 rfl rfl ?_
  refine z_iconst (v := 0) b dX12_kin_20 (by decide) ?_
  refine z_iconst (v := 1) b dX12_kin_21 (by decide) ?_
  refine z_calli b (z_runS (As := [.int p0, .int 0, .int 1]) (st := []) b (c_X12_isIn_15 S p0 ⟨by omega, by omega⟩) cf_X12_isIn wm_X12_1 ws_X12_isIn dX12_kin_22 rfl (Nat.le_of_ble_eq_true rfl) ⟨by decide, by decide, by decide, by decide⟩) (fun r2882 u2883 h2881 => ?_)
  obtain ⟨rfl, rfl⟩ := h2881
  refine z_if_ne_f (tgt := 30) b dX12_kin_25 (by decide) (by decide) ?_
  refine z_iconst (v := 0) b dX12_kin_28 (by decide) ?_
  exact z_zret (u := S) b rfl (by decide) dX12_kin_29 ⟨rfl, rfl⟩ rfl (by decide) (by decide)

set_option maxHeartbeats 4000000 in
set_option maxRecDepth 100000 in
theorem c_X11_kin_56 {l : Launch} {D : va_G} {cy : Nat → ClassId} {T0 tB tE : Nat} {a : Nat → Nat} {rw : Nat → Option Nat} (S : GS) (p0 : Int32)  (hr_p0 : (-2147483648) ≤ p0.toInt ∧ p0.toInt ≤ (-1)) : Ct l D cy T0 tB tE yX11_kin cX11_kin 6 (some .boolean) 2 41 0 0 (cw cy tE a rw S) [.ref (a 0), .int 2, .int 0, .int p0, .int 1] (QI D (U := GS) (fun r u => 0 = r ∧ S = u) (cw cy tE a rw)) := by
  refine Ct.ofZ RX11 "kin" [(0, .ref (a 0)), (1, .int 2), (2, .int 0), (3, .int p0), (4, .int 1)] rfl rfl rfl rfl (Nat.le_of_ble_eq_true rfl) ?_
  intro p e R s m args below meth c A b
  refine z_iload_n b dX11_kin_0 rfl rfl ?_
  refine z_iload_n b dX11_kin_1 rfl rfl ?_
  refine z_calli b (z_runS (As := [.int 2, .int 0]) (st := []) b (c_X11_arePair_16 S ) cf_X11_arePair wm_X11_84 ws_X11_arePair dX11_kin_2 rfl (Nat.le_of_ble_eq_true rfl) ⟨by decide, by decide, by decide, by decide⟩) (fun r2885 u2886 h2884 => ?_)
  obtain ⟨rfl, rfl⟩ := h2884
  refine z_if_eq_f (tgt := 16) b dX11_kin_5 (by decide) (by decide) ?_
  refine z_iload_n b dX11_kin_8 rfl rfl ?_
  refine z_iconst (v := 1) b dX11_kin_9 (by decide) ?_
  refine z_calli b (z_runS (As := [.int p0, .int 1]) (st := []) b (c_X11_isWithin_10 S p0 ⟨by omega, by omega⟩) cf_X11_isWithin wm_X11_73 ws_X11_isWithin dX11_kin_10 rfl (Nat.le_of_ble_eq_true rfl) ⟨by decide, by decide, by decide, by decide⟩) (fun r2888 u2889 h2887 => ?_)
  obtain ⟨rfl, rfl⟩ := h2887
  refine z_if_ne_f (tgt := 18) b dX11_kin_13 (by decide) (by decide) ?_
  refine z_iconst (v := 0) b dX11_kin_16 (by decide) ?_
  exact z_zret (u := S) b rfl (by decide) dX11_kin_17 ⟨rfl, rfl⟩ rfl (by decide) (by decide)

set_option maxHeartbeats 4000000 in
set_option maxRecDepth 100000 in
theorem c_X12_kin_56 {l : Launch} {D : va_G} {cy : Nat → ClassId} {T0 tB tE : Nat} {a : Nat → Nat} (S : GS) (p0 : Int32)  (hr_p0 : (-2147483648) ≤ p0.toInt ∧ p0.toInt ≤ (-1)) : Ct l D cy T0 tB tE yX12_kin cX12_kin 5 (some .boolean) 2 42 0 0 (mw cy a S) [.ref (a 0), .int 2, .int 0, .int p0, .int 1] (QI D (U := GS) (fun r u => 0 = r ∧ S = u) (mw cy a)) := by
  refine Ct.ofZ RX12 "kin" [(0, .ref (a 0)), (1, .int 2), (2, .int 0), (3, .int p0), (4, .int 1)] rfl rfl rfl rfl (Nat.le_of_ble_eq_true rfl) ?_
  intro p e R s m args below meth c A b
  refine z_iload_n b dX12_kin_0 rfl rfl ?_
  refine z_calli b (z_runS (As := [.int 2]) (st := []) b (c_X12_isOne_5 S ) cf_X12_isOne wm_X12_170 ws_X12_isOne dX12_kin_1 rfl (Nat.le_of_ble_eq_true rfl) ⟨by decide, by decide, by decide, by decide⟩) (fun r2891 u2892 h2890 => ?_)
  obtain ⟨rfl, rfl⟩ := h2890
  refine z_if_eq_f (tgt := 28) b dX12_kin_4 (by decide) (by decide) ?_
  refine z_iload_n b dX12_kin_7 rfl rfl ?_
  refine z_calli b (z_runS (As := [.int 0]) (st := []) b (c_X12_isOne_3 S ) cf_X12_isOne wm_X12_170 ws_X12_isOne dX12_kin_8 rfl (Nat.le_of_ble_eq_true rfl) ⟨by decide, by decide, by decide, by decide⟩) (fun r2894 u2895 h2893 => ?_)
  obtain ⟨rfl, rfl⟩ := h2893
  refine z_if_eq_f (tgt := 28) b dX12_kin_11 (by decide) (by decide) ?_
  refine z_iload_n b dX12_kin_14 rfl rfl ?_
  refine z_iload_n b dX12_kin_15 rfl rfl ?_
  refine z_icmp_eq_f (tgt := 28) b dX12_kin_16 (by decide) (by decide) ?_
  refine z_iload_n b dX12_kin_19 rfl rfl ?_
  refine z_iconst (v := 0) b dX12_kin_20 (by decide) ?_
  refine z_iconst (v := 1) b dX12_kin_21 (by decide) ?_
  refine z_calli b (z_runS (As := [.int p0, .int 0, .int 1]) (st := []) b (c_X12_isIn_15 S p0 ⟨by omega, by omega⟩) cf_X12_isIn wm_X12_1 ws_X12_isIn dX12_kin_22 rfl (Nat.le_of_ble_eq_true rfl) ⟨by decide, by decide, by decide, by decide⟩) (fun r2897 u2898 h2896 => ?_)
  obtain ⟨rfl, rfl⟩ := h2896
  refine z_if_ne_f (tgt := 30) b dX12_kin_25 (by decide) (by decide) ?_
  refine z_iconst (v := 0) b dX12_kin_28 (by decide) ?_
  exact z_zret (u := S) b rfl (by decide) dX12_kin_29 ⟨rfl, rfl⟩ rfl (by decide) (by decide)

set_option maxHeartbeats 4000000 in
set_option maxRecDepth 100000 in
theorem c_X11_kin_57 {l : Launch} {D : va_G} {cy : Nat → ClassId} {T0 tB tE : Nat} {a : Nat → Nat} {rw : Nat → Option Nat} (S : GS)  (h_a_4_26 : ar S 4 26 = 0) (h_a_4_22 : ar S 4 22 = 0) (h_i_24 : fi S 24 = 0) : Ct l D cy T0 tB tE yX11_kin cX11_kin 6 (some .boolean) 2 41 0 0 (cw cy tE a rw S) [.ref (a 0), .int 2, .int 0, .int 0, .int 0] (QI D (U := GS) (fun r u => 1 = r ∧ S = u) (cw cy tE a rw)) := by
  refine Ct.ofZ RX11 "kin" [(0, .ref (a 0)), (1, .int 2), (2, .int 0), (3, .int 0), (4, .int 0)] rfl rfl rfl rfl (Nat.le_of_ble_eq_true rfl) ?_
  intro p e R s m args below meth c A b
  refine z_iload_n b dX11_kin_0 rfl rfl ?_
  refine z_iload_n b dX11_kin_1 rfl rfl ?_
  refine z_calli b (z_runS (As := [.int 2, .int 0]) (st := []) b (c_X11_arePair_16 S ) cf_X11_arePair wm_X11_84 ws_X11_arePair dX11_kin_2 rfl (Nat.le_of_ble_eq_true rfl) ⟨by decide, by decide, by decide, by decide⟩) (fun r2900 u2901 h2899 => ?_)
  obtain ⟨rfl, rfl⟩ := h2899
  refine z_if_eq_f (tgt := 16) b dX11_kin_5 (by decide) (by decide) ?_
  refine z_iload_n b dX11_kin_8 rfl rfl ?_
  refine z_iconst (v := 1) b dX11_kin_9 (by decide) ?_
  refine z_calli b (z_runS (As := [.int 0, .int 1]) (st := []) b (c_X11_isWithin_11 S ) cf_X11_isWithin wm_X11_73 ws_X11_isWithin dX11_kin_10 rfl (Nat.le_of_ble_eq_true rfl) ⟨by decide, by decide, by decide, by decide⟩) (fun r2903 u2904 h2902 => ?_)
  obtain ⟨rfl, rfl⟩ := h2902
  refine z_if_ne_t (tgt := 18) b dX11_kin_13 (by decide) (by decide) ?_
  refine z_iload b dX11_kin_18 rfl ?_
  refine z_if_eq_t (tgt := 27) b dX11_kin_20 (by decide) (by decide) ?_
  refine z_iconst (v := 0) b dX11_kin_27 (by decide) ?_
  refine z_istore (lv' := [(5, .int 0), (0, .ref (a 0)), (1, .int 2), (2, .int 0), (3, .int 0), (4, .int 0)]) b dX11_kin_28 (by decide) rfl ?_
  refine z_iload_n b dX11_kin_30 rfl rfl ?_
  refine z_if_ne_f (tgt := 71) b dX11_kin_31 (by decide) (by decide) ?_
  refine z_aload_n b dX11_kin_34 rfl rfl ?_
  refine z_get (q0 := 0) (k9 := 4) (v := .ref (a 14)) b (cw_0 cy tE a rw S) rfl in_X11 (by decide) wf_X11_34 rfl dX11_kin_35 ?_
  refine z_bipush (v := 20) b dX11_kin_38 (by decide) ?_
  refine z_iconst (v := 3) b dX11_kin_40 (by decide) ?_
  refine z_iload_n b dX11_kin_41 rfl rfl ?_
  refine z_imul (v := 6) b dX11_kin_42 (by decide) ?_
  refine z_iadd (v := 26) b dX11_kin_43 (by decide) ?_
  refine z_iload_n b dX11_kin_44 rfl rfl ?_
  refine z_iadd (v := 26) b dX11_kin_45 (by decide) ?_
  refine z_iload b dX11_kin_46 rfl ?_
  refine z_callv b (z_runV (q0 := 14) (As := [.int 26, .int 0]) (st := []) b (c_X9_set_21 S h_a_4_26) cf_X9_set (cw_14 cy tE a rw S) rfl wm_X11_77 wi_X9_set ws_X9_set dX11_kin_48 rfl (Nat.le_of_ble_eq_true rfl) ⟨by decide, by decide, by decide, by decide⟩) (fun u2907 h2905 => ?_)
  obtain rfl := h2905
  refine z_aload_n b dX11_kin_51 rfl rfl ?_
  refine z_get (q0 := 0) (k9 := 4) (v := .ref (a 14)) b (cw_0 cy tE a rw S) rfl in_X11 (by decide) wf_X11_34 rfl dX11_kin_52 ?_
  refine z_bipush (v := 20) b dX11_kin_55 (by decide) ?_
  refine z_iconst (v := 3) b dX11_kin_57 (by decide) ?_
  refine z_iload_n b dX11_kin_58 rfl rfl ?_
  refine z_imul (v := 0) b dX11_kin_59 (by decide) ?_
  refine z_iadd (v := 20) b dX11_kin_60 (by decide) ?_
  refine z_iload_n b dX11_kin_61 rfl rfl ?_
  refine z_iadd (v := 22) b dX11_kin_62 (by decide) ?_
  refine z_iload b dX11_kin_63 rfl ?_
  refine z_callv b (z_runV (q0 := 14) (As := [.int 22, .int 0]) (st := []) b (c_X9_set_20 S h_a_4_22) cf_X9_set (cw_14 cy tE a rw S) rfl wm_X11_77 wi_X9_set ws_X9_set dX11_kin_65 rfl (Nat.le_of_ble_eq_true rfl) ⟨by decide, by decide, by decide, by decide⟩) (fun u2910 h2908 => ?_)
  obtain rfl := h2908
  refine z_goto (tgt := 88) b dX11_kin_68 (by decide) ?_
  refine z_aload_n b dX11_kin_88 rfl rfl ?_
  refine z_get (q0 := 0) (k9 := 6) (v := .ref (a 25)) b (cw_0 cy tE a rw S) rfl in_X11 (by decide) wf_X11_52 rfl dX11_kin_89 ?_
  refine z_callv b (z_runV (q0 := 25) (As := []) (st := []) b (c_X8_forget S h_i_24) cf_X8_forget (cw_25 cy tE a rw S) rfl wm_X11_81 wi_X8_forget ws_X8_forget dX11_kin_92 rfl (Nat.le_of_ble_eq_true rfl) ⟨by decide, by decide, by decide, by decide⟩) (fun u2913 h2911 => ?_)
  obtain rfl := h2911
  refine z_iconst (v := 1) b dX11_kin_95 (by decide) ?_
  exact z_zret (u := S) b rfl (by decide) dX11_kin_96 ⟨rfl, rfl⟩ rfl (by decide) (by decide)

set_option maxHeartbeats 4000000 in
set_option maxRecDepth 100000 in
theorem c_X12_kin_57 {l : Launch} {D : va_G} {cy : Nat → ClassId} {T0 tB tE : Nat} {a : Nat → Nat} (S : GS)  (h_l_0 : fl S 0 = 1649317774848) (h_a_4_7 : ar S 4 7 = 0) (h_a_1_7 : ar S 1 7 = 0) (h_a_4_6 : ar S 4 6 = 0) (h_a_1_6 : ar S 1 6 = 0) (h_a_3_6 : ar S 3 6 = 0) (h_a_3_2 : ar S 3 2 = 0) (h_a_2_2 : ar S 2 2 = 3) (h_a_0_2 : ar S 0 2 = 0) (h_a_4_3 : ar S 4 3 = 0) (h_a_1_3 : ar S 1 3 = 0) (h_a_4_5 : ar S 4 5 = 0) (h_a_1_5 : ar S 1 5 = 0) (h_a_3_5 : ar S 3 5 = 0) (h_a_3_7 : ar S 3 7 = 0) (h_a_2_1 : ar S 2 1 = 3) (h_a_0_1 : ar S 0 1 = 0) (h_a_4_2 : ar S 4 2 = 0) (h_a_1_2 : ar S 1 2 = 0) (h_a_4_1 : ar S 4 1 = 0) (h_a_1_1 : ar S 1 1 = 0) (h_a_3_1 : ar S 3 1 = 0) (h_a_3_3 : ar S 3 3 = 0) (h_a_2_0 : ar S 2 0 = 3) (h_a_0_0 : ar S 0 0 = 0) (h_i_0 : fi S 0 = 0) : Ct l D cy T0 tB tE yX12_kin cX12_kin 5 (some .boolean) 3 65 0 0 (mw cy a S) [.ref (a 0), .int 2, .int 0, .int 0, .int 0] (QI D (U := GS) (fun r u => 1 = r ∧ S = u) (mw cy a)) := by
  refine Ct.ofZ RX12 "kin" [(0, .ref (a 0)), (1, .int 2), (2, .int 0), (3, .int 0), (4, .int 0)] rfl rfl rfl rfl (Nat.le_of_ble_eq_true rfl) ?_
  intro p e R s m args below meth c A b
  refine z_iload_n b dX12_kin_0 rfl rfl ?_
  refine z_calli b (z_runS (As := [.int 2]) (st := []) b (c_X12_isOne_5 S ) cf_X12_isOne wm_X12_170 ws_X12_isOne dX12_kin_1 rfl (Nat.le_of_ble_eq_true rfl) ⟨by decide, by decide, by decide, by decide⟩) (fun r2915 u2916 h2914 => ?_)
  obtain ⟨rfl, rfl⟩ := h2914
  refine z_if_eq_f (tgt := 28) b dX12_kin_4 (by decide) (by decide) ?_
  refine z_iload_n b dX12_kin_7 rfl rfl ?_
  refine z_calli b (z_runS (As := [.int 0]) (st := []) b (c_X12_isOne_3 S ) cf_X12_isOne wm_X12_170 ws_X12_isOne dX12_kin_8 rfl (Nat.le_of_ble_eq_true rfl) ⟨by decide, by decide, by decide, by decide⟩) (fun r2918 u2919 h2917 => ?_)
  obtain ⟨rfl, rfl⟩ := h2917
  refine z_if_eq_f (tgt := 28) b dX12_kin_11 (by decide) (by decide) ?_
  refine z_iload_n b dX12_kin_14 rfl rfl ?_
  refine z_iload_n b dX12_kin_15 rfl rfl ?_
  refine z_icmp_eq_f (tgt := 28) b dX12_kin_16 (by decide) (by decide) ?_
  refine z_iload_n b dX12_kin_19 rfl rfl ?_
  refine z_iconst (v := 0) b dX12_kin_20 (by decide) ?_
  refine z_iconst (v := 1) b dX12_kin_21 (by decide) ?_
  refine z_calli b (z_runS (As := [.int 0, .int 0, .int 1]) (st := []) b (c_X12_isIn_16 S ) cf_X12_isIn wm_X12_1 ws_X12_isIn dX12_kin_22 rfl (Nat.le_of_ble_eq_true rfl) ⟨by decide, by decide, by decide, by decide⟩) (fun r2921 u2922 h2920 => ?_)
  obtain ⟨rfl, rfl⟩ := h2920
  refine z_if_ne_t (tgt := 30) b dX12_kin_25 (by decide) (by decide) ?_
  refine z_aload_n b dX12_kin_30 rfl rfl ?_
  refine z_aload_n b dX12_kin_31 rfl rfl ?_
  refine z_get (q0 := 0) (k9 := 6) (v := .long (fl S 0)) b (mw_0 cy a S) rfl in_X12 (by decide) wf_X12_153 rfl dX12_kin_32 ?_
  refine z_eql h_l_0 ?_
  refine z_callv b (z_runV (q0 := 0) (As := [.long 1649317774848]) (st := []) b (c_X12_takes S h_a_4_7 h_a_1_7 h_a_4_6 h_a_1_6 h_a_3_6 h_a_3_2 h_a_2_2 h_a_0_2 h_a_4_3 h_a_1_3 h_a_4_5 h_a_1_5 h_a_3_5 h_a_3_7 h_a_2_1 h_a_0_1 h_a_4_2 h_a_1_2 h_a_4_1 h_a_1_1 h_a_3_1 h_a_3_3 h_a_2_0 h_a_0_0 h_i_0) cf_X12_takes (mw_0 cy a S) rfl wm_X12_174 wi_X12_takes ws_X12_takes dX12_kin_35 rfl (Nat.le_of_ble_eq_true rfl) ⟨by decide, by decide, by decide, by decide⟩) (fun u2925 h2923 => ?_)
  obtain rfl := h2923
  refine z_iload_n b dX12_kin_38 rfl rfl ?_
  refine z_iconst (v := 1) b dX12_kin_39 (by decide) ?_
  refine z_icmp_ne_t (tgt := 58) b dX12_kin_40 (by decide) (by decide) ?_
  refine z_aload_n b dX12_kin_58 rfl rfl ?_
  refine z_get (q0 := 0) (k9 := 3) (v := .ref (a 4)) b (mw_0 cy a S) rfl in_X12 (by decide) wf_X12_23 rfl dX12_kin_59 ?_
  refine z_iconst (v := 3) b dX12_kin_62 (by decide) ?_
  refine z_iload_n b dX12_kin_63 rfl rfl ?_
  refine z_imul (v := 6) b dX12_kin_64 (by decide) ?_
  refine z_iload_n b dX12_kin_65 rfl rfl ?_
  refine z_iadd (v := 6) b dX12_kin_66 (by decide) ?_
  refine z_iload b dX12_kin_67 rfl ?_
  refine y_zast (q0 := 4) (j := 6) b (mw_4 cy a S) (by decide) (by decide) dX12_kin_69 ((mwa_4 cy a S 6 0).trans (congrArg (mw cy a) (su_same h_a_3_6))) ?_
  refine z_aload_n b dX12_kin_70 rfl rfl ?_
  refine z_get (q0 := 0) (k9 := 3) (v := .ref (a 4)) b (mw_0 cy a S) rfl in_X12 (by decide) wf_X12_23 rfl dX12_kin_71 ?_
  refine z_iconst (v := 3) b dX12_kin_74 (by decide) ?_
  refine z_iload_n b dX12_kin_75 rfl rfl ?_
  refine z_imul (v := 0) b dX12_kin_76 (by decide) ?_
  refine z_iload_n b dX12_kin_77 rfl rfl ?_
  refine z_iadd (v := 2) b dX12_kin_78 (by decide) ?_
  refine z_iload b dX12_kin_79 rfl ?_
  refine y_zast (q0 := 4) (j := 2) b (mw_4 cy a S) (by decide) (by decide) dX12_kin_81 ((mwa_4 cy a S 2 0).trans (congrArg (mw cy a) (su_same h_a_3_2))) ?_
  refine z_aload_n b dX12_kin_82 rfl rfl ?_
  refine z_calli b (z_runV (q0 := 0) (As := []) (st := []) b (c_X12_told_14 S h_i_0 h_a_0_0 h_a_2_0 h_a_3_1 h_a_1_1 h_a_4_1 h_a_1_2 h_a_4_2 h_a_0_1 h_a_2_1 h_a_3_5 h_a_1_5 h_a_4_5 h_a_1_3 h_a_4_3 h_a_0_2 h_a_2_2 h_a_3_6 h_a_1_6 h_a_4_6 h_a_1_7 h_a_4_7 h_l_0) cf_X12_told (mw_0 cy a S) rfl wm_X12_178 wi_X12_told ws_X12_told dX12_kin_83 rfl (Nat.le_of_ble_eq_true rfl) ⟨by decide, by decide, by decide, by decide⟩) (fun r2927 u2928 h2926 => ?_)
  obtain ⟨rfl, rfl⟩ := h2926
  exact z_zret (u := S) b rfl (by decide) dX12_kin_86 ⟨rfl, rfl⟩ rfl (by decide) (by decide)

set_option maxHeartbeats 4000000 in
set_option maxRecDepth 100000 in
theorem c_X11_kin_58 {l : Launch} {D : va_G} {cy : Nat → ClassId} {T0 tB tE : Nat} {a : Nat → Nat} {rw : Nat → Option Nat} (S : GS)  (h_i_24 : fi S 24 = 0) : Ct l D cy T0 tB tE yX11_kin cX11_kin 6 (some .boolean) 2 41 0 0 (cw cy tE a rw S) [.ref (a 0), .int 2, .int 0, .int 0, .int 1] (QI D (U := GS) (fun r u => 1 = r ∧ (su (su S 4 26 1) 4 22 1) = u) (cw cy tE a rw)) := by
  refine Ct.ofZ RX11 "kin" [(0, .ref (a 0)), (1, .int 2), (2, .int 0), (3, .int 0), (4, .int 1)] rfl rfl rfl rfl (Nat.le_of_ble_eq_true rfl) ?_
  intro p e R s m args below meth c A b
  refine z_iload_n b dX11_kin_0 rfl rfl ?_
  refine z_iload_n b dX11_kin_1 rfl rfl ?_
  refine z_calli b (z_runS (As := [.int 2, .int 0]) (st := []) b (c_X11_arePair_16 S ) cf_X11_arePair wm_X11_84 ws_X11_arePair dX11_kin_2 rfl (Nat.le_of_ble_eq_true rfl) ⟨by decide, by decide, by decide, by decide⟩) (fun r2930 u2931 h2929 => ?_)
  obtain ⟨rfl, rfl⟩ := h2929
  refine z_if_eq_f (tgt := 16) b dX11_kin_5 (by decide) (by decide) ?_
  refine z_iload_n b dX11_kin_8 rfl rfl ?_
  refine z_iconst (v := 1) b dX11_kin_9 (by decide) ?_
  refine z_calli b (z_runS (As := [.int 0, .int 1]) (st := []) b (c_X11_isWithin_11 S ) cf_X11_isWithin wm_X11_73 ws_X11_isWithin dX11_kin_10 rfl (Nat.le_of_ble_eq_true rfl) ⟨by decide, by decide, by decide, by decide⟩) (fun r2933 u2934 h2932 => ?_)
  obtain ⟨rfl, rfl⟩ := h2932
  refine z_if_ne_t (tgt := 18) b dX11_kin_13 (by decide) (by decide) ?_
  refine z_iload b dX11_kin_18 rfl ?_
  refine z_if_eq_f (tgt := 27) b dX11_kin_20 (by decide) (by decide) ?_
  refine z_iconst (v := 1) b dX11_kin_23 (by decide) ?_
  refine z_goto (tgt := 28) b dX11_kin_24 (by decide) ?_
  refine z_istore (lv' := [(5, .int 1), (0, .ref (a 0)), (1, .int 2), (2, .int 0), (3, .int 0), (4, .int 1)]) b dX11_kin_28 (by decide) rfl ?_
  refine z_iload_n b dX11_kin_30 rfl rfl ?_
  refine z_if_ne_f (tgt := 71) b dX11_kin_31 (by decide) (by decide) ?_
  refine z_aload_n b dX11_kin_34 rfl rfl ?_
  refine z_get (q0 := 0) (k9 := 4) (v := .ref (a 14)) b (cw_0 cy tE a rw S) rfl in_X11 (by decide) wf_X11_34 rfl dX11_kin_35 ?_
  refine z_bipush (v := 20) b dX11_kin_38 (by decide) ?_
  refine z_iconst (v := 3) b dX11_kin_40 (by decide) ?_
  refine z_iload_n b dX11_kin_41 rfl rfl ?_
  refine z_imul (v := 6) b dX11_kin_42 (by decide) ?_
  refine z_iadd (v := 26) b dX11_kin_43 (by decide) ?_
  refine z_iload_n b dX11_kin_44 rfl rfl ?_
  refine z_iadd (v := 26) b dX11_kin_45 (by decide) ?_
  refine z_iload b dX11_kin_46 rfl ?_
  refine z_callv b (z_runV (q0 := 14) (As := [.int 26, .int 1]) (st := []) b (c_X9_set_23 S ) cf_X9_set (cw_14 cy tE a rw S) rfl wm_X11_77 wi_X9_set ws_X9_set dX11_kin_48 rfl (Nat.le_of_ble_eq_true rfl) ⟨by decide, by decide, by decide, by decide⟩) (fun u2937 h2935 => ?_)
  obtain rfl := h2935
  refine z_aload_n b dX11_kin_51 rfl rfl ?_
  refine z_get (q0 := 0) (k9 := 4) (v := .ref (a 14)) b (cw_0 cy tE a rw (su S 4 26 1)) rfl in_X11 (by decide) wf_X11_34 rfl dX11_kin_52 ?_
  refine z_bipush (v := 20) b dX11_kin_55 (by decide) ?_
  refine z_iconst (v := 3) b dX11_kin_57 (by decide) ?_
  refine z_iload_n b dX11_kin_58 rfl rfl ?_
  refine z_imul (v := 0) b dX11_kin_59 (by decide) ?_
  refine z_iadd (v := 20) b dX11_kin_60 (by decide) ?_
  refine z_iload_n b dX11_kin_61 rfl rfl ?_
  refine z_iadd (v := 22) b dX11_kin_62 (by decide) ?_
  refine z_iload b dX11_kin_63 rfl ?_
  refine z_callv b (z_runV (q0 := 14) (As := [.int 22, .int 1]) (st := []) b (c_X9_set_22 (su S 4 26 1) ) cf_X9_set (cw_14 cy tE a rw (su S 4 26 1)) rfl wm_X11_77 wi_X9_set ws_X9_set dX11_kin_65 rfl (Nat.le_of_ble_eq_true rfl) ⟨by decide, by decide, by decide, by decide⟩) (fun u2940 h2938 => ?_)
  obtain rfl := h2938
  refine z_goto (tgt := 88) b dX11_kin_68 (by decide) ?_
  refine z_aload_n b dX11_kin_88 rfl rfl ?_
  refine z_get (q0 := 0) (k9 := 6) (v := .ref (a 25)) b (cw_0 cy tE a rw (su (su S 4 26 1) 4 22 1)) rfl in_X11 (by decide) wf_X11_52 rfl dX11_kin_89 ?_
  refine z_callv b (z_runV (q0 := 25) (As := []) (st := []) b (c_X8_forget (su (su S 4 26 1) 4 22 1) h_i_24) cf_X8_forget (cw_25 cy tE a rw (su (su S 4 26 1) 4 22 1)) rfl wm_X11_81 wi_X8_forget ws_X8_forget dX11_kin_92 rfl (Nat.le_of_ble_eq_true rfl) ⟨by decide, by decide, by decide, by decide⟩) (fun u2943 h2941 => ?_)
  obtain rfl := h2941
  refine z_iconst (v := 1) b dX11_kin_95 (by decide) ?_
  exact z_zret (u := (su (su S 4 26 1) 4 22 1)) b rfl (by decide) dX11_kin_96 ⟨rfl, rfl⟩ rfl (by decide) (by decide)

set_option maxHeartbeats 4000000 in
set_option maxRecDepth 100000 in
theorem c_X12_kin_58 {l : Launch} {D : va_G} {cy : Nat → ClassId} {T0 tB tE : Nat} {a : Nat → Nat} (S : GS)  (h_l_0 : fl S 0 = 1649317774848) (h_a_4_7 : ar S 4 7 = 0) (h_a_1_7 : ar S 1 7 = 0) (h_a_4_6 : ar S 4 6 = 0) (h_a_1_6 : ar S 1 6 = 0) (h_a_3_6 : ar S 3 6 = 0) (h_a_3_2 : ar S 3 2 = 0) (h_a_2_2 : ar S 2 2 = 3) (h_a_0_2 : ar S 0 2 = 0) (h_a_4_3 : ar S 4 3 = 0) (h_a_1_3 : ar S 1 3 = 0) (h_a_4_5 : ar S 4 5 = 0) (h_a_1_5 : ar S 1 5 = 0) (h_a_3_5 : ar S 3 5 = 0) (h_a_3_7 : ar S 3 7 = 0) (h_a_2_1 : ar S 2 1 = 3) (h_a_0_1 : ar S 0 1 = 0) (h_a_4_2 : ar S 4 2 = 0) (h_a_1_2 : ar S 1 2 = 0) (h_a_4_1 : ar S 4 1 = 0) (h_a_1_1 : ar S 1 1 = 0) (h_a_3_1 : ar S 3 1 = 0) (h_a_3_3 : ar S 3 3 = 0) (h_a_2_0 : ar S 2 0 = 3) (h_a_0_0 : ar S 0 0 = 0) (h_i_0 : fi S 0 = 0) : Ct l D cy T0 tB tE yX12_kin cX12_kin 5 (some .boolean) 3 65 0 0 (mw cy a S) [.ref (a 0), .int 2, .int 0, .int 0, .int 1] (QI D (U := GS) (fun r u => 1 = r ∧ sl (su (su S 3 6 1) 3 2 1) 0 1649317775104 = u) (mw cy a)) := by
  refine Ct.ofZ RX12 "kin" [(0, .ref (a 0)), (1, .int 2), (2, .int 0), (3, .int 0), (4, .int 1)] rfl rfl rfl rfl (Nat.le_of_ble_eq_true rfl) ?_
  intro p e R s m args below meth c A b
  refine z_iload_n b dX12_kin_0 rfl rfl ?_
  refine z_calli b (z_runS (As := [.int 2]) (st := []) b (c_X12_isOne_5 S ) cf_X12_isOne wm_X12_170 ws_X12_isOne dX12_kin_1 rfl (Nat.le_of_ble_eq_true rfl) ⟨by decide, by decide, by decide, by decide⟩) (fun r2945 u2946 h2944 => ?_)
  obtain ⟨rfl, rfl⟩ := h2944
  refine z_if_eq_f (tgt := 28) b dX12_kin_4 (by decide) (by decide) ?_
  refine z_iload_n b dX12_kin_7 rfl rfl ?_
  refine z_calli b (z_runS (As := [.int 0]) (st := []) b (c_X12_isOne_3 S ) cf_X12_isOne wm_X12_170 ws_X12_isOne dX12_kin_8 rfl (Nat.le_of_ble_eq_true rfl) ⟨by decide, by decide, by decide, by decide⟩) (fun r2948 u2949 h2947 => ?_)
  obtain ⟨rfl, rfl⟩ := h2947
  refine z_if_eq_f (tgt := 28) b dX12_kin_11 (by decide) (by decide) ?_
  refine z_iload_n b dX12_kin_14 rfl rfl ?_
  refine z_iload_n b dX12_kin_15 rfl rfl ?_
  refine z_icmp_eq_f (tgt := 28) b dX12_kin_16 (by decide) (by decide) ?_
  refine z_iload_n b dX12_kin_19 rfl rfl ?_
  refine z_iconst (v := 0) b dX12_kin_20 (by decide) ?_
  refine z_iconst (v := 1) b dX12_kin_21 (by decide) ?_
  refine z_calli b (z_runS (As := [.int 0, .int 0, .int 1]) (st := []) b (c_X12_isIn_16 S ) cf_X12_isIn wm_X12_1 ws_X12_isIn dX12_kin_22 rfl (Nat.le_of_ble_eq_true rfl) ⟨by decide, by decide, by decide, by decide⟩) (fun r2951 u2952 h2950 => ?_)
  obtain ⟨rfl, rfl⟩ := h2950
  refine z_if_ne_t (tgt := 30) b dX12_kin_25 (by decide) (by decide) ?_
  refine z_aload_n b dX12_kin_30 rfl rfl ?_
  refine z_aload_n b dX12_kin_31 rfl rfl ?_
  refine z_get (q0 := 0) (k9 := 6) (v := .long (fl S 0)) b (mw_0 cy a S) rfl in_X12 (by decide) wf_X12_153 rfl dX12_kin_32 ?_
  refine z_eql h_l_0 ?_
  refine z_callv b (z_runV (q0 := 0) (As := [.long 1649317774848]) (st := []) b (c_X12_takes S h_a_4_7 h_a_1_7 h_a_4_6 h_a_1_6 h_a_3_6 h_a_3_2 h_a_2_2 h_a_0_2 h_a_4_3 h_a_1_3 h_a_4_5 h_a_1_5 h_a_3_5 h_a_3_7 h_a_2_1 h_a_0_1 h_a_4_2 h_a_1_2 h_a_4_1 h_a_1_1 h_a_3_1 h_a_3_3 h_a_2_0 h_a_0_0 h_i_0) cf_X12_takes (mw_0 cy a S) rfl wm_X12_174 wi_X12_takes ws_X12_takes dX12_kin_35 rfl (Nat.le_of_ble_eq_true rfl) ⟨by decide, by decide, by decide, by decide⟩) (fun u2955 h2953 => ?_)
  obtain rfl := h2953
  refine z_iload_n b dX12_kin_38 rfl rfl ?_
  refine z_iconst (v := 1) b dX12_kin_39 (by decide) ?_
  refine z_icmp_ne_t (tgt := 58) b dX12_kin_40 (by decide) (by decide) ?_
  refine z_aload_n b dX12_kin_58 rfl rfl ?_
  refine z_get (q0 := 0) (k9 := 3) (v := .ref (a 4)) b (mw_0 cy a S) rfl in_X12 (by decide) wf_X12_23 rfl dX12_kin_59 ?_
  refine z_iconst (v := 3) b dX12_kin_62 (by decide) ?_
  refine z_iload_n b dX12_kin_63 rfl rfl ?_
  refine z_imul (v := 6) b dX12_kin_64 (by decide) ?_
  refine z_iload_n b dX12_kin_65 rfl rfl ?_
  refine z_iadd (v := 6) b dX12_kin_66 (by decide) ?_
  refine z_iload b dX12_kin_67 rfl ?_
  refine y_zast (q0 := 4) (j := 6) b (mw_4 cy a S) (by decide) (by decide) dX12_kin_69 (mwa_4 cy a S 6 1) ?_
  refine z_aload_n b dX12_kin_70 rfl rfl ?_
  refine z_get (q0 := 0) (k9 := 3) (v := .ref (a 4)) b (mw_0 cy a (su S 3 6 1)) rfl in_X12 (by decide) wf_X12_23 rfl dX12_kin_71 ?_
  refine z_iconst (v := 3) b dX12_kin_74 (by decide) ?_
  refine z_iload_n b dX12_kin_75 rfl rfl ?_
  refine z_imul (v := 0) b dX12_kin_76 (by decide) ?_
  refine z_iload_n b dX12_kin_77 rfl rfl ?_
  refine z_iadd (v := 2) b dX12_kin_78 (by decide) ?_
  refine z_iload b dX12_kin_79 rfl ?_
  refine y_zast (q0 := 4) (j := 2) b (mw_4 cy a (su S 3 6 1)) (by decide) (by decide) dX12_kin_81 (mwa_4 cy a (su S 3 6 1) 2 1) ?_
  refine z_aload_n b dX12_kin_82 rfl rfl ?_
  refine z_calli b (z_runV (q0 := 0) (As := []) (st := []) b (c_X12_told_17 (su (su S 3 6 1) 3 2 1) h_i_0 h_a_0_0 h_a_2_0 h_a_3_1 h_a_1_1 h_a_4_1 h_a_1_2 h_a_4_2 h_a_0_1 h_a_2_1 h_a_3_5 h_a_1_5 h_a_4_5 h_a_1_3 h_a_4_3 h_a_0_2 h_a_2_2 rfl h_a_1_6 h_a_4_6 h_a_1_7 h_a_4_7) cf_X12_told (mw_0 cy a (su (su S 3 6 1) 3 2 1)) rfl wm_X12_178 wi_X12_told ws_X12_told dX12_kin_83 rfl (Nat.le_of_ble_eq_true rfl) ⟨by decide, by decide, by decide, by decide⟩) (fun r2957 u2958 h2956 => ?_)
  obtain ⟨rfl, rfl⟩ := h2956
  exact z_zret (u := (sl (su (su S 3 6 1) 3 2 1) 0 1649317775104)) b rfl (by decide) dX12_kin_86 ⟨rfl, rfl⟩ rfl (by decide) (by decide)

set_option maxHeartbeats 4000000 in
set_option maxRecDepth 100000 in
theorem c_X9_set_34 {l : Launch} {D : va_G} {cy : Nat → ClassId} {T0 tB tE : Nat} {a : Nat → Nat} {rw : Nat → Option Nat} (S : GS)  (h_a_4_36 : ar S 4 36 = 0) : Ct l D cy T0 tB tE yX9_set cX9_set 3 none 0 0 0 0 (cw cy tE a rw S) [.ref (a 14), .int 36, .int 0] (QV D (U := GS) (fun u => S = u) (cw cy tE a rw)) := by
  refine Ct.ofZ RX9 "set" [(0, .ref (a 14)), (1, .int 36), (2, .int 0)] rfl rfl rfl rfl (Nat.le_of_ble_eq_true rfl) ?_
  intro p e R s m args below meth c A b
  refine z_iload_n b dX9_set_0 rfl rfl ?_
  refine z_if_lt_f (tgt := 20) b dX9_set_1 (by decide) (by decide) ?_
  refine z_iload_n b dX9_set_4 rfl rfl ?_
  refine z_aload_n b dX9_set_5 rfl rfl ?_
  refine z_get (q0 := 14) (k9 := 0) (v := .ref (a 15)) b (cw_14 cy tE a rw S) rfl in_X9 (by decide) wf_X9_11 rfl dX9_set_6 ?_
  refine z_alen (q0 := 15) (t0 := 0) (v := 51) b (cw_15 cy tE a rw S) rfl rfl dX9_set_9 ?_
  refine z_icmp_ge_f (tgt := 20) b dX9_set_10 (by decide) (by decide) ?_
  refine z_aload_n b dX9_set_13 rfl rfl ?_
  refine z_get (q0 := 14) (k9 := 0) (v := .ref (a 15)) b (cw_14 cy tE a rw S) rfl in_X9 (by decide) wf_X9_11 rfl dX9_set_14 ?_
  refine z_iload_n b dX9_set_17 rfl rfl ?_
  refine z_iload_n b dX9_set_18 rfl rfl ?_
  refine y_iast (q0 := 15) (j := 36) b (cw_15 cy tE a rw S) (by decide) dX9_set_19 ((cwa_15 cy tE a rw S 36 0).trans (congrArg (cw cy tE a rw) (su_same h_a_4_36))) ?_
  exact z_vret (u := S) b rfl dX9_set_20 rfl rfl (by decide) (by decide)

set_option maxHeartbeats 4000000 in
set_option maxRecDepth 100000 in
theorem c_X11_kin_59 {l : Launch} {D : va_G} {cy : Nat → ClassId} {T0 tB tE : Nat} {a : Nat → Nat} {rw : Nat → Option Nat} (S : GS)  (h_a_4_36 : ar S 4 36 = 0) (h_i_24 : fi S 24 = 0) : Ct l D cy T0 tB tE yX11_kin cX11_kin 6 (some .boolean) 2 41 0 0 (cw cy tE a rw S) [.ref (a 0), .int 2, .int 0, .int 1, .int 0] (QI D (U := GS) (fun r u => 1 = r ∧ S = u) (cw cy tE a rw)) := by
  refine Ct.ofZ RX11 "kin" [(0, .ref (a 0)), (1, .int 2), (2, .int 0), (3, .int 1), (4, .int 0)] rfl rfl rfl rfl (Nat.le_of_ble_eq_true rfl) ?_
  intro p e R s m args below meth c A b
  refine z_iload_n b dX11_kin_0 rfl rfl ?_
  refine z_iload_n b dX11_kin_1 rfl rfl ?_
  refine z_calli b (z_runS (As := [.int 2, .int 0]) (st := []) b (c_X11_arePair_16 S ) cf_X11_arePair wm_X11_84 ws_X11_arePair dX11_kin_2 rfl (Nat.le_of_ble_eq_true rfl) ⟨by decide, by decide, by decide, by decide⟩) (fun r2960 u2961 h2959 => ?_)
  obtain ⟨rfl, rfl⟩ := h2959
  refine z_if_eq_f (tgt := 16) b dX11_kin_5 (by decide) (by decide) ?_
  refine z_iload_n b dX11_kin_8 rfl rfl ?_
  refine z_iconst (v := 1) b dX11_kin_9 (by decide) ?_
  refine z_calli b (z_runS (As := [.int 1, .int 1]) (st := []) b (c_X11_isWithin_12 S ) cf_X11_isWithin wm_X11_73 ws_X11_isWithin dX11_kin_10 rfl (Nat.le_of_ble_eq_true rfl) ⟨by decide, by decide, by decide, by decide⟩) (fun r2963 u2964 h2962 => ?_)
  obtain ⟨rfl, rfl⟩ := h2962
  refine z_if_ne_t (tgt := 18) b dX11_kin_13 (by decide) (by decide) ?_
  refine z_iload b dX11_kin_18 rfl ?_
  refine z_if_eq_t (tgt := 27) b dX11_kin_20 (by decide) (by decide) ?_
  refine z_iconst (v := 0) b dX11_kin_27 (by decide) ?_
  refine z_istore (lv' := [(5, .int 0), (0, .ref (a 0)), (1, .int 2), (2, .int 0), (3, .int 1), (4, .int 0)]) b dX11_kin_28 (by decide) rfl ?_
  refine z_iload_n b dX11_kin_30 rfl rfl ?_
  refine z_if_ne_t (tgt := 71) b dX11_kin_31 (by decide) (by decide) ?_
  refine z_aload_n b dX11_kin_71 rfl rfl ?_
  refine z_get (q0 := 0) (k9 := 4) (v := .ref (a 14)) b (cw_0 cy tE a rw S) rfl in_X11 (by decide) wf_X11_34 rfl dX11_kin_72 ?_
  refine z_bipush (v := 30) b dX11_kin_75 (by decide) ?_
  refine z_iconst (v := 3) b dX11_kin_77 (by decide) ?_
  refine z_iload_n b dX11_kin_78 rfl rfl ?_
  refine z_imul (v := 6) b dX11_kin_79 (by decide) ?_
  refine z_iadd (v := 36) b dX11_kin_80 (by decide) ?_
  refine z_iload_n b dX11_kin_81 rfl rfl ?_
  refine z_iadd (v := 36) b dX11_kin_82 (by decide) ?_
  refine z_iload b dX11_kin_83 rfl ?_
  refine z_callv b (z_runV (q0 := 14) (As := [.int 36, .int 0]) (st := []) b (c_X9_set_34 S h_a_4_36) cf_X9_set (cw_14 cy tE a rw S) rfl wm_X11_77 wi_X9_set ws_X9_set dX11_kin_85 rfl (Nat.le_of_ble_eq_true rfl) ⟨by decide, by decide, by decide, by decide⟩) (fun u2967 h2965 => ?_)
  obtain rfl := h2965
  refine z_aload_n b dX11_kin_88 rfl rfl ?_
  refine z_get (q0 := 0) (k9 := 6) (v := .ref (a 25)) b (cw_0 cy tE a rw S) rfl in_X11 (by decide) wf_X11_52 rfl dX11_kin_89 ?_
  refine z_callv b (z_runV (q0 := 25) (As := []) (st := []) b (c_X8_forget S h_i_24) cf_X8_forget (cw_25 cy tE a rw S) rfl wm_X11_81 wi_X8_forget ws_X8_forget dX11_kin_92 rfl (Nat.le_of_ble_eq_true rfl) ⟨by decide, by decide, by decide, by decide⟩) (fun u2970 h2968 => ?_)
  obtain rfl := h2968
  refine z_iconst (v := 1) b dX11_kin_95 (by decide) ?_
  exact z_zret (u := S) b rfl (by decide) dX11_kin_96 ⟨rfl, rfl⟩ rfl (by decide) (by decide)

set_option maxHeartbeats 4000000 in
set_option maxRecDepth 100000 in
theorem c_X12_kin_59 {l : Launch} {D : va_G} {cy : Nat → ClassId} {T0 tB tE : Nat} {a : Nat → Nat} (S : GS)  (h_l_0 : fl S 0 = 1649317774848) (h_a_4_7 : ar S 4 7 = 0) (h_a_1_7 : ar S 1 7 = 0) (h_a_4_6 : ar S 4 6 = 0) (h_a_1_6 : ar S 1 6 = 0) (h_a_3_6 : ar S 3 6 = 0) (h_a_3_2 : ar S 3 2 = 0) (h_a_2_2 : ar S 2 2 = 3) (h_a_0_2 : ar S 0 2 = 0) (h_a_4_3 : ar S 4 3 = 0) (h_a_1_3 : ar S 1 3 = 0) (h_a_4_5 : ar S 4 5 = 0) (h_a_1_5 : ar S 1 5 = 0) (h_a_3_5 : ar S 3 5 = 0) (h_a_3_7 : ar S 3 7 = 0) (h_a_2_1 : ar S 2 1 = 3) (h_a_0_1 : ar S 0 1 = 0) (h_a_4_2 : ar S 4 2 = 0) (h_a_1_2 : ar S 1 2 = 0) (h_a_4_1 : ar S 4 1 = 0) (h_a_1_1 : ar S 1 1 = 0) (h_a_3_1 : ar S 3 1 = 0) (h_a_3_3 : ar S 3 3 = 0) (h_a_2_0 : ar S 2 0 = 3) (h_a_0_0 : ar S 0 0 = 0) (h_i_0 : fi S 0 = 0) : Ct l D cy T0 tB tE yX12_kin cX12_kin 5 (some .boolean) 3 65 0 0 (mw cy a S) [.ref (a 0), .int 2, .int 0, .int 1, .int 0] (QI D (U := GS) (fun r u => 1 = r ∧ S = u) (mw cy a)) := by
  refine Ct.ofZ RX12 "kin" [(0, .ref (a 0)), (1, .int 2), (2, .int 0), (3, .int 1), (4, .int 0)] rfl rfl rfl rfl (Nat.le_of_ble_eq_true rfl) ?_
  intro p e R s m args below meth c A b
  refine z_iload_n b dX12_kin_0 rfl rfl ?_
  refine z_calli b (z_runS (As := [.int 2]) (st := []) b (c_X12_isOne_5 S ) cf_X12_isOne wm_X12_170 ws_X12_isOne dX12_kin_1 rfl (Nat.le_of_ble_eq_true rfl) ⟨by decide, by decide, by decide, by decide⟩) (fun r2972 u2973 h2971 => ?_)
  obtain ⟨rfl, rfl⟩ := h2971
  refine z_if_eq_f (tgt := 28) b dX12_kin_4 (by decide) (by decide) ?_
  refine z_iload_n b dX12_kin_7 rfl rfl ?_
  refine z_calli b (z_runS (As := [.int 0]) (st := []) b (c_X12_isOne_3 S ) cf_X12_isOne wm_X12_170 ws_X12_isOne dX12_kin_8 rfl (Nat.le_of_ble_eq_true rfl) ⟨by decide, by decide, by decide, by decide⟩) (fun r2975 u2976 h2974 => ?_)
  obtain ⟨rfl, rfl⟩ := h2974
  refine z_if_eq_f (tgt := 28) b dX12_kin_11 (by decide) (by decide) ?_
  refine z_iload_n b dX12_kin_14 rfl rfl ?_
  refine z_iload_n b dX12_kin_15 rfl rfl ?_
  refine z_icmp_eq_f (tgt := 28) b dX12_kin_16 (by decide) (by decide) ?_
  refine z_iload_n b dX12_kin_19 rfl rfl ?_
  refine z_iconst (v := 0) b dX12_kin_20 (by decide) ?_
  refine z_iconst (v := 1) b dX12_kin_21 (by decide) ?_
  refine z_calli b (z_runS (As := [.int 1, .int 0, .int 1]) (st := []) b (c_X12_isIn_17 S ) cf_X12_isIn wm_X12_1 ws_X12_isIn dX12_kin_22 rfl (Nat.le_of_ble_eq_true rfl) ⟨by decide, by decide, by decide, by decide⟩) (fun r2978 u2979 h2977 => ?_)
  obtain ⟨rfl, rfl⟩ := h2977
  refine z_if_ne_t (tgt := 30) b dX12_kin_25 (by decide) (by decide) ?_
  refine z_aload_n b dX12_kin_30 rfl rfl ?_
  refine z_aload_n b dX12_kin_31 rfl rfl ?_
  refine z_get (q0 := 0) (k9 := 6) (v := .long (fl S 0)) b (mw_0 cy a S) rfl in_X12 (by decide) wf_X12_153 rfl dX12_kin_32 ?_
  refine z_eql h_l_0 ?_
  refine z_callv b (z_runV (q0 := 0) (As := [.long 1649317774848]) (st := []) b (c_X12_takes S h_a_4_7 h_a_1_7 h_a_4_6 h_a_1_6 h_a_3_6 h_a_3_2 h_a_2_2 h_a_0_2 h_a_4_3 h_a_1_3 h_a_4_5 h_a_1_5 h_a_3_5 h_a_3_7 h_a_2_1 h_a_0_1 h_a_4_2 h_a_1_2 h_a_4_1 h_a_1_1 h_a_3_1 h_a_3_3 h_a_2_0 h_a_0_0 h_i_0) cf_X12_takes (mw_0 cy a S) rfl wm_X12_174 wi_X12_takes ws_X12_takes dX12_kin_35 rfl (Nat.le_of_ble_eq_true rfl) ⟨by decide, by decide, by decide, by decide⟩) (fun u2982 h2980 => ?_)
  obtain rfl := h2980
  refine z_iload_n b dX12_kin_38 rfl rfl ?_
  refine z_iconst (v := 1) b dX12_kin_39 (by decide) ?_
  refine z_icmp_ne_f (tgt := 58) b dX12_kin_40 (by decide) (by decide) ?_
  refine z_aload_n b dX12_kin_43 rfl rfl ?_
  refine z_get (q0 := 0) (k9 := 4) (v := .ref (a 5)) b (mw_0 cy a S) rfl in_X12 (by decide) wf_X12_27 rfl dX12_kin_44 ?_
  refine z_iconst (v := 3) b dX12_kin_47 (by decide) ?_
  refine z_iload_n b dX12_kin_48 rfl rfl ?_
  refine z_imul (v := 6) b dX12_kin_49 (by decide) ?_
  refine z_iload_n b dX12_kin_50 rfl rfl ?_
  refine z_iadd (v := 6) b dX12_kin_51 (by decide) ?_
  refine z_iload b dX12_kin_52 rfl ?_
  refine y_zast (q0 := 5) (j := 6) b (mw_5 cy a S) (by decide) (by decide) dX12_kin_54 ((mwa_5 cy a S 6 0).trans (congrArg (mw cy a) (su_same h_a_4_6))) ?_
  refine z_goto (tgt := 82) b dX12_kin_55 (by decide) ?_
  refine z_aload_n b dX12_kin_82 rfl rfl ?_
  refine z_calli b (z_runV (q0 := 0) (As := []) (st := []) b (c_X12_told_14 S h_i_0 h_a_0_0 h_a_2_0 h_a_3_1 h_a_1_1 h_a_4_1 h_a_1_2 h_a_4_2 h_a_0_1 h_a_2_1 h_a_3_5 h_a_1_5 h_a_4_5 h_a_1_3 h_a_4_3 h_a_0_2 h_a_2_2 h_a_3_6 h_a_1_6 h_a_4_6 h_a_1_7 h_a_4_7 h_l_0) cf_X12_told (mw_0 cy a S) rfl wm_X12_178 wi_X12_told ws_X12_told dX12_kin_83 rfl (Nat.le_of_ble_eq_true rfl) ⟨by decide, by decide, by decide, by decide⟩) (fun r2984 u2985 h2983 => ?_)
  obtain ⟨rfl, rfl⟩ := h2983
  exact z_zret (u := S) b rfl (by decide) dX12_kin_86 ⟨rfl, rfl⟩ rfl (by decide) (by decide)

set_option maxHeartbeats 4000000 in
set_option maxRecDepth 100000 in
theorem c_X9_set_35 {l : Launch} {D : va_G} {cy : Nat → ClassId} {T0 tB tE : Nat} {a : Nat → Nat} {rw : Nat → Option Nat} (S : GS)   : Ct l D cy T0 tB tE yX9_set cX9_set 3 none 0 0 0 0 (cw cy tE a rw S) [.ref (a 14), .int 36, .int 1] (QV D (U := GS) (fun u => su S 4 36 1 = u) (cw cy tE a rw)) := by
  refine Ct.ofZ RX9 "set" [(0, .ref (a 14)), (1, .int 36), (2, .int 1)] rfl rfl rfl rfl (Nat.le_of_ble_eq_true rfl) ?_
  intro p e R s m args below meth c A b
  refine z_iload_n b dX9_set_0 rfl rfl ?_
  refine z_if_lt_f (tgt := 20) b dX9_set_1 (by decide) (by decide) ?_
  refine z_iload_n b dX9_set_4 rfl rfl ?_
  refine z_aload_n b dX9_set_5 rfl rfl ?_
  refine z_get (q0 := 14) (k9 := 0) (v := .ref (a 15)) b (cw_14 cy tE a rw S) rfl in_X9 (by decide) wf_X9_11 rfl dX9_set_6 ?_
  refine z_alen (q0 := 15) (t0 := 0) (v := 51) b (cw_15 cy tE a rw S) rfl rfl dX9_set_9 ?_
  refine z_icmp_ge_f (tgt := 20) b dX9_set_10 (by decide) (by decide) ?_
  refine z_aload_n b dX9_set_13 rfl rfl ?_
  refine z_get (q0 := 14) (k9 := 0) (v := .ref (a 15)) b (cw_14 cy tE a rw S) rfl in_X9 (by decide) wf_X9_11 rfl dX9_set_14 ?_
  refine z_iload_n b dX9_set_17 rfl rfl ?_
  refine z_iload_n b dX9_set_18 rfl rfl ?_
  refine y_iast (q0 := 15) (j := 36) b (cw_15 cy tE a rw S) (by decide) dX9_set_19 (cwa_15 cy tE a rw S 36 1) ?_
  exact z_vret (u := (su S 4 36 1)) b rfl dX9_set_20 rfl rfl (by decide) (by decide)

set_option maxHeartbeats 4000000 in
set_option maxRecDepth 100000 in
theorem c_X11_kin_60 {l : Launch} {D : va_G} {cy : Nat → ClassId} {T0 tB tE : Nat} {a : Nat → Nat} {rw : Nat → Option Nat} (S : GS)  (h_i_24 : fi S 24 = 0) : Ct l D cy T0 tB tE yX11_kin cX11_kin 6 (some .boolean) 2 41 0 0 (cw cy tE a rw S) [.ref (a 0), .int 2, .int 0, .int 1, .int 1] (QI D (U := GS) (fun r u => 1 = r ∧ (su S 4 36 1) = u) (cw cy tE a rw)) := by
  refine Ct.ofZ RX11 "kin" [(0, .ref (a 0)), (1, .int 2), (2, .int 0), (3, .int 1), (4, .int 1)] rfl rfl rfl rfl (Nat.le_of_ble_eq_true rfl) ?_
  intro p e R s m args below meth c A b
  refine z_iload_n b dX11_kin_0 rfl rfl ?_
  refine z_iload_n b dX11_kin_1 rfl rfl ?_
  refine z_calli b (z_runS (As := [.int 2, .int 0]) (st := []) b (c_X11_arePair_16 S ) cf_X11_arePair wm_X11_84 ws_X11_arePair dX11_kin_2 rfl (Nat.le_of_ble_eq_true rfl) ⟨by decide, by decide, by decide, by decide⟩) (fun r2987 u2988 h2986 => ?_)
  obtain ⟨rfl, rfl⟩ := h2986
  refine z_if_eq_f (tgt := 16) b dX11_kin_5 (by decide) (by decide) ?_
  refine z_iload_n b dX11_kin_8 rfl rfl ?_
  refine z_iconst (v := 1) b dX11_kin_9 (by decide) ?_
  refine z_calli b (z_runS (As := [.int 1, .int 1]) (st := []) b (c_X11_isWithin_12 S ) cf_X11_isWithin wm_X11_73 ws_X11_isWithin dX11_kin_10 rfl (Nat.le_of_ble_eq_true rfl) ⟨by decide, by decide, by decide, by decide⟩) (fun r2990 u2991 h2989 => ?_)
  obtain ⟨rfl, rfl⟩ := h2989
  refine z_if_ne_t (tgt := 18) b dX11_kin_13 (by decide) (by decide) ?_
  refine z_iload b dX11_kin_18 rfl ?_
  refine z_if_eq_f (tgt := 27) b dX11_kin_20 (by decide) (by decide) ?_
  refine z_iconst (v := 1) b dX11_kin_23 (by decide) ?_
  refine z_goto (tgt := 28) b dX11_kin_24 (by decide) ?_
  refine z_istore (lv' := [(5, .int 1), (0, .ref (a 0)), (1, .int 2), (2, .int 0), (3, .int 1), (4, .int 1)]) b dX11_kin_28 (by decide) rfl ?_
  refine z_iload_n b dX11_kin_30 rfl rfl ?_
  refine z_if_ne_t (tgt := 71) b dX11_kin_31 (by decide) (by decide) ?_
  refine z_aload_n b dX11_kin_71 rfl rfl ?_
  refine z_get (q0 := 0) (k9 := 4) (v := .ref (a 14)) b (cw_0 cy tE a rw S) rfl in_X11 (by decide) wf_X11_34 rfl dX11_kin_72 ?_
  refine z_bipush (v := 30) b dX11_kin_75 (by decide) ?_
  refine z_iconst (v := 3) b dX11_kin_77 (by decide) ?_
  refine z_iload_n b dX11_kin_78 rfl rfl ?_
  refine z_imul (v := 6) b dX11_kin_79 (by decide) ?_
  refine z_iadd (v := 36) b dX11_kin_80 (by decide) ?_
  refine z_iload_n b dX11_kin_81 rfl rfl ?_
  refine z_iadd (v := 36) b dX11_kin_82 (by decide) ?_
  refine z_iload b dX11_kin_83 rfl ?_
  refine z_callv b (z_runV (q0 := 14) (As := [.int 36, .int 1]) (st := []) b (c_X9_set_35 S ) cf_X9_set (cw_14 cy tE a rw S) rfl wm_X11_77 wi_X9_set ws_X9_set dX11_kin_85 rfl (Nat.le_of_ble_eq_true rfl) ⟨by decide, by decide, by decide, by decide⟩) (fun u2994 h2992 => ?_)
  obtain rfl := h2992
  refine z_aload_n b dX11_kin_88 rfl rfl ?_
  refine z_get (q0 := 0) (k9 := 6) (v := .ref (a 25)) b (cw_0 cy tE a rw (su S 4 36 1)) rfl in_X11 (by decide) wf_X11_52 rfl dX11_kin_89 ?_
  refine z_callv b (z_runV (q0 := 25) (As := []) (st := []) b (c_X8_forget (su S 4 36 1) h_i_24) cf_X8_forget (cw_25 cy tE a rw (su S 4 36 1)) rfl wm_X11_81 wi_X8_forget ws_X8_forget dX11_kin_92 rfl (Nat.le_of_ble_eq_true rfl) ⟨by decide, by decide, by decide, by decide⟩) (fun u2997 h2995 => ?_)
  obtain rfl := h2995
  refine z_iconst (v := 1) b dX11_kin_95 (by decide) ?_
  exact z_zret (u := (su S 4 36 1)) b rfl (by decide) dX11_kin_96 ⟨rfl, rfl⟩ rfl (by decide) (by decide)

set_option maxHeartbeats 4000000 in
set_option maxRecDepth 100000 in
theorem ch_X12_packs_46 {p : Program} {l : Launch} {e : Env} {R : Room} {s : State} {m : MethodId} {args : Array Value} {below : List Frame} {meth : Method} {c : Code} {D : va_G} {cy : Nat → ClassId} {T0 tB tE : Nat} {A : Nat → Prop} {Q : State → Prop} {a : Nat → Nat} (S : GS)  (h_a_0_0 : ar S 0 0 = 0) (h_a_1_1 : ar S 1 1 = 0) (h_a_1_2 : ar S 1 2 = 0) (h_a_2_0 : ar S 2 0 = 3) (h_a_3_1 : ar S 3 1 = 0) (h_a_4_1 : ar S 4 1 = 0) (h_a_4_2 : ar S 4 2 = 0) (h_i_0 : fi S 0 = 0) (b : Bz p R s m args meth c D cy T0 tB tE A 5 cX12_packs RX12 (some .long) "packs" 1 21 0 0) (k : Z p l e R s m args below meth c D A 5 Q 0 0 (mw cy a S) [(3, .int 1), (4, .int 2), (1, .long 1536), (0, .ref (a 0))] 21 [.int 1, .ref (a 1), .long 24576]) : Z p l e R s m args below meth c D A 5 Q 0 0 (mw cy a S) [(0, .ref (a 0))] 0 [] := by
  refine z_aload_n b dX12_packs_0 rfl rfl ?_
  refine z_get (q0 := 0) (k9 := 5) (v := .int (fi S 0)) b (mw_0 cy a S) rfl in_X12 (by decide) wf_X12_157 rfl dX12_packs_1 ?_
  refine z_eqi h_i_0 ?_
  refine z_i2l (v := 0) b dX12_packs_4 (by decide) ?_
  refine z_lstore_n (lv' := [(1, .long 0), (0, .ref (a 0))]) b dX12_packs_5 rfl (by decide) rfl ?_
  refine z_iconst (v := 0) b dX12_packs_6 (by decide) ?_
  refine z_istore_n (lv' := [(3, .int 0), (1, .long 0), (0, .ref (a 0))]) b dX12_packs_7 rfl (by decide) rfl ?_
  refine z_iload_n b dX12_packs_8 rfl rfl ?_
  refine z_iconst (v := 3) b dX12_packs_9 (by decide) ?_
  refine z_icmp_ge_f (tgt := 134) b dX12_packs_10 (by decide) (by decide) ?_
  refine z_lload_n b dX12_packs_13 rfl rfl ?_
  refine z_iconst (v := 4) b dX12_packs_14 (by decide) ?_
  refine z_lshl (v := 0) b dX12_packs_15 (by decide) ?_
  refine z_aload_n b dX12_packs_16 rfl rfl ?_
  refine z_get (q0 := 0) (k9 := 0) (v := .ref (a 1)) b (mw_0 cy a S) rfl in_X12 (by decide) wf_X12_13 rfl dX12_packs_17 ?_
  refine z_iload_n b dX12_packs_20 rfl rfl ?_
  refine y_iald (q0 := 1) (j := 0) (v := (ar S 0 0)) b (mw_1 cy a S) (by decide) rfl dX12_packs_21 ?_
  refine z_eqi h_a_0_0 ?_
  refine z_i2l (v := 0) b dX12_packs_22 (by decide) ?_
  refine z_lor (v := 0) b dX12_packs_23 (by decide) ?_
  refine z_lstore_n (lv' := [(1, .long 0), (3, .int 0), (0, .ref (a 0))]) b dX12_packs_24 rfl (by decide) rfl ?_
  refine z_lload_n b dX12_packs_25 rfl rfl ?_
  refine z_iconst (v := 2) b dX12_packs_26 (by decide) ?_
  refine z_lshl (v := 0) b dX12_packs_27 (by decide) ?_
  refine z_aload_n b dX12_packs_28 rfl rfl ?_
  refine z_get (q0 := 0) (k9 := 2) (v := .ref (a 3)) b (mw_0 cy a S) rfl in_X12 (by decide) wf_X12_20 rfl dX12_packs_29 ?_
  refine z_iload_n b dX12_packs_32 rfl rfl ?_
  refine y_iald (q0 := 3) (j := 0) (v := (ar S 2 0)) b (mw_3 cy a S) (by decide) rfl dX12_packs_33 ?_
  refine z_eqi h_a_2_0 ?_
  refine z_i2l (v := 3) b dX12_packs_34 (by decide) ?_
  refine z_lor (v := 3) b dX12_packs_35 (by decide) ?_
  refine z_lstore_n (lv' := [(1, .long 3), (3, .int 0), (0, .ref (a 0))]) b dX12_packs_36 rfl (by decide) rfl ?_
  refine z_lload_n b dX12_packs_37 rfl rfl ?_
  refine z_iconst (v := 1) b dX12_packs_38 (by decide) ?_
  refine z_lshl (v := 6) b dX12_packs_39 (by decide) ?_
  refine z_aload_n b dX12_packs_40 rfl rfl ?_
  refine z_get (q0 := 0) (k9 := 3) (v := .ref (a 4)) b (mw_0 cy a S) rfl in_X12 (by decide) wf_X12_23 rfl dX12_packs_41 ?_
  refine z_iconst (v := 3) b dX12_packs_44 (by decide) ?_
  refine z_iload_n b dX12_packs_45 rfl rfl ?_
  refine z_imul (v := 0) b dX12_packs_46 (by decide) ?_
  refine z_iload_n b dX12_packs_47 rfl rfl ?_
  refine z_iconst (v := 0) b dX12_packs_48 (by decide) ?_
  refine z_calli b (z_runS (As := [.int 0, .int 0]) (st := [.int 0, .ref (a 4), .long 6]) b (c_X12_other_6 S ) cf_X12_other wm_X12_160 ws_X12_other dX12_packs_49 rfl (Nat.le_of_ble_eq_true rfl) ⟨by decide, by decide, by decide, by decide⟩) (fun r3011 u3012 h3010 => ?_)
  obtain ⟨rfl, rfl⟩ := h3010
  refine z_iadd (v := 1) b dX12_packs_52 (by decide) ?_
  refine y_zald (q0 := 4) (j := 1) (v := (ar S 3 1)) b (mw_4 cy a S) (by decide) rfl dX12_packs_53 ?_
  refine z_eqi h_a_3_1 ?_
  refine z_if_eq_t (tgt := 61) b dX12_packs_54 (by decide) (by decide) ?_
  refine z_lconst (v := 0) b dX12_packs_61 (by decide) ?_
  refine z_lor (v := 6) b dX12_packs_62 (by decide) ?_
  refine z_lstore_n (lv' := [(1, .long 6), (3, .int 0), (0, .ref (a 0))]) b dX12_packs_63 rfl (by decide) rfl ?_
  refine z_iconst (v := 0) b dX12_packs_64 (by decide) ?_
  refine z_istore (lv' := [(4, .int 0), (1, .long 6), (3, .int 0), (0, .ref (a 0))]) b dX12_packs_65 (by decide) rfl ?_
  refine z_iload b dX12_packs_67 rfl ?_
  refine z_iconst (v := 2) b dX12_packs_69 (by decide) ?_
  refine z_icmp_ge_f (tgt := 128) b dX12_packs_70 (by decide) (by decide) ?_
  refine z_lload_n b dX12_packs_73 rfl rfl ?_
  refine z_iconst (v := 3) b dX12_packs_74 (by decide) ?_
  refine z_lshl (v := 48) b dX12_packs_75 (by decide) ?_
  refine z_aload_n b dX12_packs_76 rfl rfl ?_
  refine z_get (q0 := 0) (k9 := 1) (v := .ref (a 2)) b (mw_0 cy a S) rfl in_X12 (by decide) wf_X12_17 rfl dX12_packs_77 ?_
  refine z_iconst (v := 3) b dX12_packs_80 (by decide) ?_
  refine z_iload_n b dX12_packs_81 rfl rfl ?_
  refine z_imul (v := 0) b dX12_packs_82 (by decide) ?_
  refine z_iload_n b dX12_packs_83 rfl rfl ?_
  refine z_iload b dX12_packs_84 rfl ?_
  refine z_calli b (z_runS (As := [.int 0, .int 0]) (st := [.int 0, .ref (a 2), .long 48]) b (c_X12_other_6 S ) cf_X12_other wm_X12_160 ws_X12_other dX12_packs_86 rfl (Nat.le_of_ble_eq_true rfl) ⟨by decide, by decide, by decide, by decide⟩) (fun r3014 u3015 h3013 => ?_)
  obtain ⟨rfl, rfl⟩ := h3013
  refine z_iadd (v := 1) b dX12_packs_89 (by decide) ?_
  refine y_iald (q0 := 2) (j := 1) (v := (ar S 1 1)) b (mw_2 cy a S) (by decide) rfl dX12_packs_90 ?_
  refine z_eqi h_a_1_1 ?_
  refine z_i2l (v := 0) b dX12_packs_91 (by decide) ?_
  refine z_lor (v := 48) b dX12_packs_92 (by decide) ?_
  refine z_lstore_n (lv' := [(1, .long 48), (4, .int 0), (3, .int 0), (0, .ref (a 0))]) b dX12_packs_93 rfl (by decide) rfl ?_
  refine z_lload_n b dX12_packs_94 rfl rfl ?_
  refine z_iconst (v := 1) b dX12_packs_95 (by decide) ?_
  refine z_lshl (v := 96) b dX12_packs_96 (by decide) ?_
  refine z_aload_n b dX12_packs_97 rfl rfl ?_
  refine z_get (q0 := 0) (k9 := 4) (v := .ref (a 5)) b (mw_0 cy a S) rfl in_X12 (by decide) wf_X12_27 rfl dX12_packs_98 ?_
  refine z_iconst (v := 3) b dX12_packs_101 (by decide) ?_
  refine z_iload_n b dX12_packs_102 rfl rfl ?_
  refine z_imul (v := 0) b dX12_packs_103 (by decide) ?_
  refine z_iload_n b dX12_packs_104 rfl rfl ?_
  refine z_iload b dX12_packs_105 rfl ?_
  refine z_calli b (z_runS (As := [.int 0, .int 0]) (st := [.int 0, .ref (a 5), .long 96]) b (c_X12_other_6 S ) cf_X12_other wm_X12_160 ws_X12_other dX12_packs_107 rfl (Nat.le_of_ble_eq_true rfl) ⟨by decide, by decide, by decide, by decide⟩) (fun r3017 u3018 h3016 => ?_)
  obtain ⟨rfl, rfl⟩ := h3016
  refine z_iadd (v := 1) b dX12_packs_110 (by decide) ?_
  refine y_zald (q0 := 5) (j := 1) (v := (ar S 4 1)) b (mw_5 cy a S) (by decide) rfl dX12_packs_111 ?_
  refine z_eqi h_a_4_1 ?_
  refine z_if_eq_t (tgt := 119) b dX12_packs_112 (by decide) (by decide) ?_
  refine z_lconst (v := 0) b dX12_packs_119 (by decide) ?_
  refine z_lor (v := 96) b dX12_packs_120 (by decide) ?_
  refine z_lstore_n (lv' := [(1, .long 96), (4, .int 0), (3, .int 0), (0, .ref (a 0))]) b dX12_packs_121 rfl (by decide) rfl ?_
  refine z_iinc (k9 := 1) (v := 1) (lv' := [(4, .int 1), (1, .long 96), (3, .int 0), (0, .ref (a 0))]) b dX12_packs_122 rfl (by decide) (by decide) rfl ?_
  refine z_goto (tgt := 67) b dX12_packs_125 (by decide) ?_
  refine z_iload b dX12_packs_67 rfl ?_
  refine z_iconst (v := 2) b dX12_packs_69 (by decide) ?_
  refine z_icmp_ge_f (tgt := 128) b dX12_packs_70 (by decide) (by decide) ?_
  refine z_lload_n b dX12_packs_73 rfl rfl ?_
  refine z_iconst (v := 3) b dX12_packs_74 (by decide) ?_
  refine z_lshl (v := 768) b dX12_packs_75 (by decide) ?_
  refine z_aload_n b dX12_packs_76 rfl rfl ?_
  refine z_get (q0 := 0) (k9 := 1) (v := .ref (a 2)) b (mw_0 cy a S) rfl in_X12 (by decide) wf_X12_17 rfl dX12_packs_77 ?_
  refine z_iconst (v := 3) b dX12_packs_80 (by decide) ?_
  refine z_iload_n b dX12_packs_81 rfl rfl ?_
  refine z_imul (v := 0) b dX12_packs_82 (by decide) ?_
  refine z_iload_n b dX12_packs_83 rfl rfl ?_
  refine z_iload b dX12_packs_84 rfl ?_
  refine z_calli b (z_runS (As := [.int 0, .int 1]) (st := [.int 0, .ref (a 2), .long 768]) b (c_X12_other_5 S ) cf_X12_other wm_X12_160 ws_X12_other dX12_packs_86 rfl (Nat.le_of_ble_eq_true rfl) ⟨by decide, by decide, by decide, by decide⟩) (fun r3020 u3021 h3019 => ?_)
  obtain ⟨rfl, rfl⟩ := h3019
  refine z_iadd (v := 2) b dX12_packs_89 (by decide) ?_
  refine y_iald (q0 := 2) (j := 2) (v := (ar S 1 2)) b (mw_2 cy a S) (by decide) rfl dX12_packs_90 ?_
  refine z_eqi h_a_1_2 ?_
  refine z_i2l (v := 0) b dX12_packs_91 (by decide) ?_
  refine z_lor (v := 768) b dX12_packs_92 (by decide) ?_
  refine z_lstore_n (lv' := [(1, .long 768), (4, .int 1), (3, .int 0), (0, .ref (a 0))]) b dX12_packs_93 rfl (by decide) rfl ?_
  refine z_lload_n b dX12_packs_94 rfl rfl ?_
  refine z_iconst (v := 1) b dX12_packs_95 (by decide) ?_
  refine z_lshl (v := 1536) b dX12_packs_96 (by decide) ?_
  refine z_aload_n b dX12_packs_97 rfl rfl ?_
  refine z_get (q0 := 0) (k9 := 4) (v := .ref (a 5)) b (mw_0 cy a S) rfl in_X12 (by decide) wf_X12_27 rfl dX12_packs_98 ?_
  refine z_iconst (v := 3) b dX12_packs_101 (by decide) ?_
  refine z_iload_n b dX12_packs_102 rfl rfl ?_
  refine z_imul (v := 0) b dX12_packs_103 (by decide) ?_
  refine z_iload_n b dX12_packs_104 rfl rfl ?_
  refine z_iload b dX12_packs_105 rfl ?_
  refine z_calli b (z_runS (As := [.int 0, .int 1]) (st := [.int 0, .ref (a 5), .long 1536]) b (c_X12_other_5 S ) cf_X12_other wm_X12_160 ws_X12_other dX12_packs_107 rfl (Nat.le_of_ble_eq_true rfl) ⟨by decide, by decide, by decide, by decide⟩) (fun r3023 u3024 h3022 => ?_)
  obtain ⟨rfl, rfl⟩ := h3022
  refine z_iadd (v := 2) b dX12_packs_110 (by decide) ?_
  refine y_zald (q0 := 5) (j := 2) (v := (ar S 4 2)) b (mw_5 cy a S) (by decide) rfl dX12_packs_111 ?_
  refine z_eqi h_a_4_2 ?_
  refine z_if_eq_t (tgt := 119) b dX12_packs_112 (by decide) (by decide) ?_
  refine z_lconst (v := 0) b dX12_packs_119 (by decide) ?_
  refine z_lor (v := 1536) b dX12_packs_120 (by decide) ?_
  refine z_lstore_n (lv' := [(1, .long 1536), (4, .int 1), (3, .int 0), (0, .ref (a 0))]) b dX12_packs_121 rfl (by decide) rfl ?_
  refine z_iinc (k9 := 1) (v := 2) (lv' := [(4, .int 2), (1, .long 1536), (3, .int 0), (0, .ref (a 0))]) b dX12_packs_122 rfl (by decide) (by decide) rfl ?_
  refine z_goto (tgt := 67) b dX12_packs_125 (by decide) ?_
  refine z_iload b dX12_packs_67 rfl ?_
  refine z_iconst (v := 2) b dX12_packs_69 (by decide) ?_
  refine z_icmp_ge_t (tgt := 128) b dX12_packs_70 (by decide) (by decide) ?_
  refine z_iinc (k9 := 2) (v := 1) (lv' := [(3, .int 1), (4, .int 2), (1, .long 1536), (0, .ref (a 0))]) b dX12_packs_128 rfl (by decide) (by decide) rfl ?_
  refine z_goto (tgt := 8) b dX12_packs_131 (by decide) ?_
  refine z_iload_n b dX12_packs_8 rfl rfl ?_
  refine z_iconst (v := 3) b dX12_packs_9 (by decide) ?_
  refine z_icmp_ge_f (tgt := 134) b dX12_packs_10 (by decide) (by decide) ?_
  refine z_lload_n b dX12_packs_13 rfl rfl ?_
  refine z_iconst (v := 4) b dX12_packs_14 (by decide) ?_
  refine z_lshl (v := 24576) b dX12_packs_15 (by decide) ?_
  refine z_aload_n b dX12_packs_16 rfl rfl ?_
  refine z_get (q0 := 0) (k9 := 0) (v := .ref (a 1)) b (mw_0 cy a S) rfl in_X12 (by decide) wf_X12_13 rfl dX12_packs_17 ?_
  refine z_iload_n b dX12_packs_20 rfl rfl ?_
  exact k

set_option maxHeartbeats 4000000 in
set_option maxRecDepth 100000 in
theorem ch_X12_packs_47 {p : Program} {l : Launch} {e : Env} {R : Room} {s : State} {m : MethodId} {args : Array Value} {below : List Frame} {meth : Method} {c : Code} {D : va_G} {cy : Nat → ClassId} {T0 tB tE : Nat} {A : Nat → Prop} {Q : State → Prop} {a : Nat → Nat} (S : GS)  (h_a_0_1 : ar S 0 1 = 0) (h_a_0_2 : ar S 0 2 = 0) (h_a_1_3 : ar S 1 3 = 0) (h_a_1_5 : ar S 1 5 = 0) (h_a_2_1 : ar S 2 1 = 3) (h_a_2_2 : ar S 2 2 = 3) (h_a_3_5 : ar S 3 5 = 0) (h_a_4_3 : ar S 4 3 = 0) (h_a_4_5 : ar S 4 5 = 0) (b : Bz p R s m args meth c D cy T0 tB tE A 5 cX12_packs RX12 (some .long) "packs" 1 21 0 0) (k : Z p l e R s m args below meth c D A 5 Q 0 0 (mw cy a S) [(1, .long 3221323779), (3, .int 2), (4, .int 2), (0, .ref (a 0))] 37 []) : Z p l e R s m args below meth c D A 5 Q 0 0 (mw cy a S) [(3, .int 1), (4, .int 2), (1, .long 1536), (0, .ref (a 0))] 21 [.int 1, .ref (a 1), .long 24576] := by
  refine y_iald (q0 := 1) (j := 1) (v := (ar S 0 1)) b (mw_1 cy a S) (by decide) rfl dX12_packs_21 ?_
  refine z_eqi h_a_0_1 ?_
  refine z_i2l (v := 0) b dX12_packs_22 (by decide) ?_
  refine z_lor (v := 24576) b dX12_packs_23 (by decide) ?_
  refine z_lstore_n (lv' := [(1, .long 24576), (3, .int 1), (4, .int 2), (0, .ref (a 0))]) b dX12_packs_24 rfl (by decide) rfl ?_
  refine z_lload_n b dX12_packs_25 rfl rfl ?_
  refine z_iconst (v := 2) b dX12_packs_26 (by decide) ?_
  refine z_lshl (v := 98304) b dX12_packs_27 (by decide) ?_
  refine z_aload_n b dX12_packs_28 rfl rfl ?_
  refine z_get (q0 := 0) (k9 := 2) (v := .ref (a 3)) b (mw_0 cy a S) rfl in_X12 (by decide) wf_X12_20 rfl dX12_packs_29 ?_
  refine z_iload_n b dX12_packs_32 rfl rfl ?_
  refine y_iald (q0 := 3) (j := 1) (v := (ar S 2 1)) b (mw_3 cy a S) (by decide) rfl dX12_packs_33 ?_
  refine z_eqi h_a_2_1 ?_
  refine z_i2l (v := 3) b dX12_packs_34 (by decide) ?_
  refine z_lor (v := 98307) b dX12_packs_35 (by decide) ?_
  refine z_lstore_n (lv' := [(1, .long 98307), (3, .int 1), (4, .int 2), (0, .ref (a 0))]) b dX12_packs_36 rfl (by decide) rfl ?_
  refine z_lload_n b dX12_packs_37 rfl rfl ?_
  refine z_iconst (v := 1) b dX12_packs_38 (by decide) ?_
  refine z_lshl (v := 196614) b dX12_packs_39 (by decide) ?_
  refine z_aload_n b dX12_packs_40 rfl rfl ?_
  refine z_get (q0 := 0) (k9 := 3) (v := .ref (a 4)) b (mw_0 cy a S) rfl in_X12 (by decide) wf_X12_23 rfl dX12_packs_41 ?_
  refine z_iconst (v := 3) b dX12_packs_44 (by decide) ?_
  refine z_iload_n b dX12_packs_45 rfl rfl ?_
  refine z_imul (v := 3) b dX12_packs_46 (by decide) ?_
  refine z_iload_n b dX12_packs_47 rfl rfl ?_
  refine z_iconst (v := 0) b dX12_packs_48 (by decide) ?_
  refine z_calli b (z_runS (As := [.int 1, .int 0]) (st := [.int 3, .ref (a 4), .long 196614]) b (c_X12_other_4 S ) cf_X12_other wm_X12_160 ws_X12_other dX12_packs_49 rfl (Nat.le_of_ble_eq_true rfl) ⟨by decide, by decide, by decide, by decide⟩) (fun r3026 u3027 h3025 => ?_)
  obtain ⟨rfl, rfl⟩ := h3025
  refine z_iadd (v := 5) b dX12_packs_52 (by decide) ?_
  refine y_zald (q0 := 4) (j := 5) (v := (ar S 3 5)) b (mw_4 cy a S) (by decide) rfl dX12_packs_53 ?_
  refine z_eqi h_a_3_5 ?_
  refine z_if_eq_t (tgt := 61) b dX12_packs_54 (by decide) (by decide) ?_
  refine z_lconst (v := 0) b dX12_packs_61 (by decide) ?_
  refine z_lor (v := 196614) b dX12_packs_62 (by decide) ?_
  refine z_lstore_n (lv' := [(1, .long 196614), (3, .int 1), (4, .int 2), (0, .ref (a 0))]) b dX12_packs_63 rfl (by decide) rfl ?_
  refine z_iconst (v := 0) b dX12_packs_64 (by decide) ?_
  refine z_istore (lv' := [(4, .int 0), (1, .long 196614), (3, .int 1), (0, .ref (a 0))]) b dX12_packs_65 (by decide) rfl ?_
  refine z_iload b dX12_packs_67 rfl ?_
  refine z_iconst (v := 2) b dX12_packs_69 (by decide) ?_
  refine z_icmp_ge_f (tgt := 128) b dX12_packs_70 (by decide) (by decide) ?_
  refine z_lload_n b dX12_packs_73 rfl rfl ?_
  refine z_iconst (v := 3) b dX12_packs_74 (by decide) ?_
  refine z_lshl (v := 1572912) b dX12_packs_75 (by decide) ?_
  refine z_aload_n b dX12_packs_76 rfl rfl ?_
  refine z_get (q0 := 0) (k9 := 1) (v := .ref (a 2)) b (mw_0 cy a S) rfl in_X12 (by decide) wf_X12_17 rfl dX12_packs_77 ?_
  refine z_iconst (v := 3) b dX12_packs_80 (by decide) ?_
  refine z_iload_n b dX12_packs_81 rfl rfl ?_
  refine z_imul (v := 3) b dX12_packs_82 (by decide) ?_
  refine z_iload_n b dX12_packs_83 rfl rfl ?_
  refine z_iload b dX12_packs_84 rfl ?_
  refine z_calli b (z_runS (As := [.int 1, .int 0]) (st := [.int 3, .ref (a 2), .long 1572912]) b (c_X12_other_4 S ) cf_X12_other wm_X12_160 ws_X12_other dX12_packs_86 rfl (Nat.le_of_ble_eq_true rfl) ⟨by decide, by decide, by decide, by decide⟩) (fun r3029 u3030 h3028 => ?_)
  obtain ⟨rfl, rfl⟩ := h3028
  refine z_iadd (v := 5) b dX12_packs_89 (by decide) ?_
  refine y_iald (q0 := 2) (j := 5) (v := (ar S 1 5)) b (mw_2 cy a S) (by decide) rfl dX12_packs_90 ?_
  refine z_eqi h_a_1_5 ?_
  refine z_i2l (v := 0) b dX12_packs_91 (by decide) ?_
  refine z_lor (v := 1572912) b dX12_packs_92 (by decide) ?_
  refine z_lstore_n (lv' := [(1, .long 1572912), (4, .int 0), (3, .int 1), (0, .ref (a 0))]) b dX12_packs_93 rfl (by decide) rfl ?_
  refine z_lload_n b dX12_packs_94 rfl rfl ?_
  refine z_iconst (v := 1) b dX12_packs_95 (by decide) ?_
  refine z_lshl (v := 3145824) b dX12_packs_96 (by decide) ?_
  refine z_aload_n b dX12_packs_97 rfl rfl ?_
  refine z_get (q0 := 0) (k9 := 4) (v := .ref (a 5)) b (mw_0 cy a S) rfl in_X12 (by decide) wf_X12_27 rfl dX12_packs_98 ?_
  refine z_iconst (v := 3) b dX12_packs_101 (by decide) ?_
  refine z_iload_n b dX12_packs_102 rfl rfl ?_
  refine z_imul (v := 3) b dX12_packs_103 (by decide) ?_
  refine z_iload_n b dX12_packs_104 rfl rfl ?_
  refine z_iload b dX12_packs_105 rfl ?_
  refine z_calli b (z_runS (As := [.int 1, .int 0]) (st := [.int 3, .ref (a 5), .long 3145824]) b (c_X12_other_4 S ) cf_X12_other wm_X12_160 ws_X12_other dX12_packs_107 rfl (Nat.le_of_ble_eq_true rfl) ⟨by decide, by decide, by decide, by decide⟩) (fun r3032 u3033 h3031 => ?_)
  obtain ⟨rfl, rfl⟩ := h3031
  refine z_iadd (v := 5) b dX12_packs_110 (by decide) ?_
  refine y_zald (q0 := 5) (j := 5) (v := (ar S 4 5)) b (mw_5 cy a S) (by decide) rfl dX12_packs_111 ?_
  refine z_eqi h_a_4_5 ?_
  refine z_if_eq_t (tgt := 119) b dX12_packs_112 (by decide) (by decide) ?_
  refine z_lconst (v := 0) b dX12_packs_119 (by decide) ?_
  refine z_lor (v := 3145824) b dX12_packs_120 (by decide) ?_
  refine z_lstore_n (lv' := [(1, .long 3145824), (4, .int 0), (3, .int 1), (0, .ref (a 0))]) b dX12_packs_121 rfl (by decide) rfl ?_
  refine z_iinc (k9 := 1) (v := 1) (lv' := [(4, .int 1), (1, .long 3145824), (3, .int 1), (0, .ref (a 0))]) b dX12_packs_122 rfl (by decide) (by decide) rfl ?_
  refine z_goto (tgt := 67) b dX12_packs_125 (by decide) ?_
  refine z_iload b dX12_packs_67 rfl ?_
  refine z_iconst (v := 2) b dX12_packs_69 (by decide) ?_
  refine z_icmp_ge_f (tgt := 128) b dX12_packs_70 (by decide) (by decide) ?_
  refine z_lload_n b dX12_packs_73 rfl rfl ?_
  refine z_iconst (v := 3) b dX12_packs_74 (by decide) ?_
  refine z_lshl (v := 25166592) b dX12_packs_75 (by decide) ?_
  refine z_aload_n b dX12_packs_76 rfl rfl ?_
  refine z_get (q0 := 0) (k9 := 1) (v := .ref (a 2)) b (mw_0 cy a S) rfl in_X12 (by decide) wf_X12_17 rfl dX12_packs_77 ?_
  refine z_iconst (v := 3) b dX12_packs_80 (by decide) ?_
  refine z_iload_n b dX12_packs_81 rfl rfl ?_
  refine z_imul (v := 3) b dX12_packs_82 (by decide) ?_
  refine z_iload_n b dX12_packs_83 rfl rfl ?_
  refine z_iload b dX12_packs_84 rfl ?_
  refine z_calli b (z_runS (As := [.int 1, .int 1]) (st := [.int 3, .ref (a 2), .long 25166592]) b (c_X12_other_3 S ) cf_X12_other wm_X12_160 ws_X12_other dX12_packs_86 rfl (Nat.le_of_ble_eq_true rfl) ⟨by decide, by decide, by decide, by decide⟩) (fun r3035 u3036 h3034 => ?_)
  obtain ⟨rfl, rfl⟩ := h3034
  refine z_iadd (v := 3) b dX12_packs_89 (by decide) ?_
  refine y_iald (q0 := 2) (j := 3) (v := (ar S 1 3)) b (mw_2 cy a S) (by decide) rfl dX12_packs_90 ?_
  refine z_eqi h_a_1_3 ?_
  refine z_i2l (v := 0) b dX12_packs_91 (by decide) ?_
  refine z_lor (v := 25166592) b dX12_packs_92 (by decide) ?_
  refine z_lstore_n (lv' := [(1, .long 25166592), (4, .int 1), (3, .int 1), (0, .ref (a 0))]) b dX12_packs_93 rfl (by decide) rfl ?_
  refine z_lload_n b dX12_packs_94 rfl rfl ?_
  refine z_iconst (v := 1) b dX12_packs_95 (by decide) ?_
  refine z_lshl (v := 50333184) b dX12_packs_96 (by decide) ?_
  refine z_aload_n b dX12_packs_97 rfl rfl ?_
  refine z_get (q0 := 0) (k9 := 4) (v := .ref (a 5)) b (mw_0 cy a S) rfl in_X12 (by decide) wf_X12_27 rfl dX12_packs_98 ?_
  refine z_iconst (v := 3) b dX12_packs_101 (by decide) ?_
  refine z_iload_n b dX12_packs_102 rfl rfl ?_
  refine z_imul (v := 3) b dX12_packs_103 (by decide) ?_
  refine z_iload_n b dX12_packs_104 rfl rfl ?_
  refine z_iload b dX12_packs_105 rfl ?_
  refine z_calli b (z_runS (As := [.int 1, .int 1]) (st := [.int 3, .ref (a 5), .long 50333184]) b (c_X12_other_3 S ) cf_X12_other wm_X12_160 ws_X12_other dX12_packs_107 rfl (Nat.le_of_ble_eq_true rfl) ⟨by decide, by decide, by decide, by decide⟩) (fun r3038 u3039 h3037 => ?_)
  obtain ⟨rfl, rfl⟩ := h3037
  refine z_iadd (v := 3) b dX12_packs_110 (by decide) ?_
  refine y_zald (q0 := 5) (j := 3) (v := (ar S 4 3)) b (mw_5 cy a S) (by decide) rfl dX12_packs_111 ?_
  refine z_eqi h_a_4_3 ?_
  refine z_if_eq_t (tgt := 119) b dX12_packs_112 (by decide) (by decide) ?_
  refine z_lconst (v := 0) b dX12_packs_119 (by decide) ?_
  refine z_lor (v := 50333184) b dX12_packs_120 (by decide) ?_
  refine z_lstore_n (lv' := [(1, .long 50333184), (4, .int 1), (3, .int 1), (0, .ref (a 0))]) b dX12_packs_121 rfl (by decide) rfl ?_
  refine z_iinc (k9 := 1) (v := 2) (lv' := [(4, .int 2), (1, .long 50333184), (3, .int 1), (0, .ref (a 0))]) b dX12_packs_122 rfl (by decide) (by decide) rfl ?_
  refine z_goto (tgt := 67) b dX12_packs_125 (by decide) ?_
  refine z_iload b dX12_packs_67 rfl ?_
  refine z_iconst (v := 2) b dX12_packs_69 (by decide) ?_
  refine z_icmp_ge_t (tgt := 128) b dX12_packs_70 (by decide) (by decide) ?_
  refine z_iinc (k9 := 2) (v := 2) (lv' := [(3, .int 2), (4, .int 2), (1, .long 50333184), (0, .ref (a 0))]) b dX12_packs_128 rfl (by decide) (by decide) rfl ?_
  refine z_goto (tgt := 8) b dX12_packs_131 (by decide) ?_
  refine z_iload_n b dX12_packs_8 rfl rfl ?_
  refine z_iconst (v := 3) b dX12_packs_9 (by decide) ?_
  refine z_icmp_ge_f (tgt := 134) b dX12_packs_10 (by decide) (by decide) ?_
  refine z_lload_n b dX12_packs_13 rfl rfl ?_
  refine z_iconst (v := 4) b dX12_packs_14 (by decide) ?_
  refine z_lshl (v := 805330944) b dX12_packs_15 (by decide) ?_
  refine z_aload_n b dX12_packs_16 rfl rfl ?_
  refine z_get (q0 := 0) (k9 := 0) (v := .ref (a 1)) b (mw_0 cy a S) rfl in_X12 (by decide) wf_X12_13 rfl dX12_packs_17 ?_
  refine z_iload_n b dX12_packs_20 rfl rfl ?_
  refine y_iald (q0 := 1) (j := 2) (v := (ar S 0 2)) b (mw_1 cy a S) (by decide) rfl dX12_packs_21 ?_
  refine z_eqi h_a_0_2 ?_
  refine z_i2l (v := 0) b dX12_packs_22 (by decide) ?_
  refine z_lor (v := 805330944) b dX12_packs_23 (by decide) ?_
  refine z_lstore_n (lv' := [(1, .long 805330944), (3, .int 2), (4, .int 2), (0, .ref (a 0))]) b dX12_packs_24 rfl (by decide) rfl ?_
  refine z_lload_n b dX12_packs_25 rfl rfl ?_
  refine z_iconst (v := 2) b dX12_packs_26 (by decide) ?_
  refine z_lshl (v := 3221323776) b dX12_packs_27 (by decide) ?_
  refine z_aload_n b dX12_packs_28 rfl rfl ?_
  refine z_get (q0 := 0) (k9 := 2) (v := .ref (a 3)) b (mw_0 cy a S) rfl in_X12 (by decide) wf_X12_20 rfl dX12_packs_29 ?_
  refine z_iload_n b dX12_packs_32 rfl rfl ?_
  refine y_iald (q0 := 3) (j := 2) (v := (ar S 2 2)) b (mw_3 cy a S) (by decide) rfl dX12_packs_33 ?_
  refine z_eqi h_a_2_2 ?_
  refine z_i2l (v := 3) b dX12_packs_34 (by decide) ?_
  refine z_lor (v := 3221323779) b dX12_packs_35 (by decide) ?_
  refine z_lstore_n (lv' := [(1, .long 3221323779), (3, .int 2), (4, .int 2), (0, .ref (a 0))]) b dX12_packs_36 rfl (by decide) rfl ?_
  exact k

set_option maxHeartbeats 4000000 in
set_option maxRecDepth 100000 in
theorem c_X12_packs_22 {l : Launch} {D : va_G} {cy : Nat → ClassId} {T0 tB tE : Nat} {a : Nat → Nat} (S : GS)  (h_i_0 : fi S 0 = 0) (h_a_0_0 : ar S 0 0 = 0) (h_a_2_0 : ar S 2 0 = 3) (h_a_3_1 : ar S 3 1 = 0) (h_a_1_1 : ar S 1 1 = 0) (h_a_4_1 : ar S 4 1 = 0) (h_a_1_2 : ar S 1 2 = 0) (h_a_4_2 : ar S 4 2 = 0) (h_a_0_1 : ar S 0 1 = 0) (h_a_2_1 : ar S 2 1 = 3) (h_a_3_5 : ar S 3 5 = 0) (h_a_1_5 : ar S 1 5 = 0) (h_a_4_5 : ar S 4 5 = 0) (h_a_1_3 : ar S 1 3 = 0) (h_a_4_3 : ar S 4 3 = 0) (h_a_0_2 : ar S 0 2 = 0) (h_a_2_2 : ar S 2 2 = 3) (h_a_3_6 : ar S 3 6 = 0) (h_a_1_6 : ar S 1 6 = 0) (h_a_4_6 : ar S 4 6 = 1) (h_a_1_7 : ar S 1 7 = 0) (h_a_4_7 : ar S 4 7 = 0) : Ct l D cy T0 tB tE yX12_packs cX12_packs 5 (some .long) 1 21 0 0 (mw cy a S) [.ref (a 0)] (QL D (U := GS) (fun r u => 1649317774864 = r ∧ S = u) (mw cy a)) := by
  refine Ct.ofZ RX12 "packs" [(0, .ref (a 0))] rfl rfl rfl rfl (Nat.le_of_ble_eq_true rfl) ?_
  intro p e R s m args below meth c A b
  refine ch_X12_packs_46 S  h_a_0_0 h_a_1_1 h_a_1_2 h_a_2_0 h_a_3_1 h_a_4_1 h_a_4_2 h_i_0  b ?_
  refine ch_X12_packs_47 S  h_a_0_1 h_a_0_2 h_a_1_3 h_a_1_5 h_a_2_1 h_a_2_2 h_a_3_5 h_a_4_3 h_a_4_5  b ?_
  refine z_lload_n b dX12_packs_37 rfl rfl ?_
  refine z_iconst (v := 1) b dX12_packs_38 (by decide) ?_
  refine z_lshl (v := 6442647558) b dX12_packs_39 (by decide) ?_
  refine z_aload_n b dX12_packs_40 rfl rfl ?_
  refine z_get (q0 := 0) (k9 := 3) (v := .ref (a 4)) b (mw_0 cy a S) rfl in_X12 (by decide) wf_X12_23 rfl dX12_packs_41 ?_
  refine z_iconst (v := 3) b dX12_packs_44 (by decide) ?_
  refine z_iload_n b dX12_packs_45 rfl rfl ?_
  refine z_imul (v := 6) b dX12_packs_46 (by decide) ?_
  refine z_iload_n b dX12_packs_47 rfl rfl ?_
  refine z_iconst (v := 0) b dX12_packs_48 (by decide) ?_
  refine z_calli b (z_runS (As := [.int 2, .int 0]) (st := [.int 6, .ref (a 4), .long 6442647558]) b (c_X12_other_2 S ) cf_X12_other wm_X12_160 ws_X12_other dX12_packs_49 rfl (Nat.le_of_ble_eq_true rfl) ⟨by decide, by decide, by decide, by decide⟩) (fun r3041 u3042 h3040 => ?_)
  obtain ⟨rfl, rfl⟩ := h3040
  refine z_iadd (v := 6) b dX12_packs_52 (by decide) ?_
  refine y_zald (q0 := 4) (j := 6) (v := (ar S 3 6)) b (mw_4 cy a S) (by decide) rfl dX12_packs_53 ?_
  refine z_eqi h_a_3_6 ?_
  refine z_if_eq_t (tgt := 61) b dX12_packs_54 (by decide) (by decide) ?_
  refine z_lconst (v := 0) b dX12_packs_61 (by decide) ?_
  refine z_lor (v := 6442647558) b dX12_packs_62 (by decide) ?_
  refine z_lstore_n (lv' := [(1, .long 6442647558), (3, .int 2), (4, .int 2), (0, .ref (a 0))]) b dX12_packs_63 rfl (by decide) rfl ?_
  refine z_iconst (v := 0) b dX12_packs_64 (by decide) ?_
  refine z_istore (lv' := [(4, .int 0), (1, .long 6442647558), (3, .int 2), (0, .ref (a 0))]) b dX12_packs_65 (by decide) rfl ?_
  refine z_iload b dX12_packs_67 rfl ?_
  refine z_iconst (v := 2) b dX12_packs_69 (by decide) ?_
  refine z_icmp_ge_f (tgt := 128) b dX12_packs_70 (by decide) (by decide) ?_
  refine z_lload_n b dX12_packs_73 rfl rfl ?_
  refine z_iconst (v := 3) b dX12_packs_74 (by decide) ?_
  refine z_lshl (v := 51541180464) b dX12_packs_75 (by decide) ?_
  refine z_aload_n b dX12_packs_76 rfl rfl ?_
  refine z_get (q0 := 0) (k9 := 1) (v := .ref (a 2)) b (mw_0 cy a S) rfl in_X12 (by decide) wf_X12_17 rfl dX12_packs_77 ?_
  refine z_iconst (v := 3) b dX12_packs_80 (by decide) ?_
  refine z_iload_n b dX12_packs_81 rfl rfl ?_
  refine z_imul (v := 6) b dX12_packs_82 (by decide) ?_
  refine z_iload_n b dX12_packs_83 rfl rfl ?_
  refine z_iload b dX12_packs_84 rfl ?_
  refine z_calli b (z_runS (As := [.int 2, .int 0]) (st := [.int 6, .ref (a 2), .long 51541180464]) b (c_X12_other_2 S ) cf_X12_other wm_X12_160 ws_X12_other dX12_packs_86 rfl (Nat.le_of_ble_eq_true rfl) ⟨by decide, by decide, by decide, by decide⟩) (fun r3044 u3045 h3043 => ?_)
  obtain ⟨rfl, rfl⟩ := h3043
  refine z_iadd (v := 6) b dX12_packs_89 (by decide) ?_
  refine y_iald (q0 := 2) (j := 6) (v := (ar S 1 6)) b (mw_2 cy a S) (by decide) rfl dX12_packs_90 ?_
  refine z_eqi h_a_1_6 ?_
  refine z_i2l (v := 0) b dX12_packs_91 (by decide) ?_
  refine z_lor (v := 51541180464) b dX12_packs_92 (by decide) ?_
  refine z_lstore_n (lv' := [(1, .long 51541180464), (4, .int 0), (3, .int 2), (0, .ref (a 0))]) b dX12_packs_93 rfl (by decide) rfl ?_
  refine z_lload_n b dX12_packs_94 rfl rfl ?_
  refine z_iconst (v := 1) b dX12_packs_95 (by decide) ?_
  refine z_lshl (v := 103082360928) b dX12_packs_96 (by decide) ?_
  refine z_aload_n b dX12_packs_97 rfl rfl ?_
  refine z_get (q0 := 0) (k9 := 4) (v := .ref (a 5)) b (mw_0 cy a S) rfl in_X12 (by decide) wf_X12_27 rfl dX12_packs_98 ?_
  refine z_iconst (v := 3) b dX12_packs_101 (by decide) ?_
  refine z_iload_n b dX12_packs_102 rfl rfl ?_
  refine z_imul (v := 6) b dX12_packs_103 (by decide) ?_
  refine z_iload_n b dX12_packs_104 rfl rfl ?_
  refine z_iload b dX12_packs_105 rfl ?_
  refine z_calli b (z_runS (As := [.int 2, .int 0]) (st := [.int 6, .ref (a 5), .long 103082360928]) b (c_X12_other_2 S ) cf_X12_other wm_X12_160 ws_X12_other dX12_packs_107 rfl (Nat.le_of_ble_eq_true rfl) ⟨by decide, by decide, by decide, by decide⟩) (fun r3047 u3048 h3046 => ?_)
  obtain ⟨rfl, rfl⟩ := h3046
  refine z_iadd (v := 6) b dX12_packs_110 (by decide) ?_
  refine y_zald (q0 := 5) (j := 6) (v := (ar S 4 6)) b (mw_5 cy a S) (by decide) rfl dX12_packs_111 ?_
  refine z_eqi h_a_4_6 ?_
  refine z_if_eq_f (tgt := 119) b dX12_packs_112 (by decide) (by decide) ?_
  refine z_lconst (v := 1) b dX12_packs_115 (by decide) ?_
  refine z_goto (tgt := 120) b dX12_packs_116 (by decide) ?_
  refine z_lor (v := 103082360929) b dX12_packs_120 (by decide) ?_
  refine z_lstore_n (lv' := [(1, .long 103082360929), (4, .int 0), (3, .int 2), (0, .ref (a 0))]) b dX12_packs_121 rfl (by decide) rfl ?_
  refine z_iinc (k9 := 1) (v := 1) (lv' := [(4, .int 1), (1, .long 103082360929), (3, .int 2), (0, .ref (a 0))]) b dX12_packs_122 rfl (by decide) (by decide) rfl ?_
  refine z_goto (tgt := 67) b dX12_packs_125 (by decide) ?_
  refine z_iload b dX12_packs_67 rfl ?_
  refine z_iconst (v := 2) b dX12_packs_69 (by decide) ?_
  refine z_icmp_ge_f (tgt := 128) b dX12_packs_70 (by decide) (by decide) ?_
  refine z_lload_n b dX12_packs_73 rfl rfl ?_
  refine z_iconst (v := 3) b dX12_packs_74 (by decide) ?_
  refine z_lshl (v := 824658887432) b dX12_packs_75 (by decide) ?_
  refine z_aload_n b dX12_packs_76 rfl rfl ?_
  refine z_get (q0 := 0) (k9 := 1) (v := .ref (a 2)) b (mw_0 cy a S) rfl in_X12 (by decide) wf_X12_17 rfl dX12_packs_77 ?_
  refine z_iconst (v := 3) b dX12_packs_80 (by decide) ?_
  refine z_iload_n b dX12_packs_81 rfl rfl ?_
  refine z_imul (v := 6) b dX12_packs_82 (by decide) ?_
  refine z_iload_n b dX12_packs_83 rfl rfl ?_
  refine z_iload b dX12_packs_84 rfl ?_
  refine z_calli b (z_runS (As := [.int 2, .int 1]) (st := [.int 6, .ref (a 2), .long 824658887432]) b (c_X12_other S ) cf_X12_other wm_X12_160 ws_X12_other dX12_packs_86 rfl (Nat.le_of_ble_eq_true rfl) ⟨by decide, by decide, by decide, by decide⟩) (fun r3050 u3051 h3049 => ?_)
  obtain ⟨rfl, rfl⟩ := h3049
  refine z_iadd (v := 7) b dX12_packs_89 (by decide) ?_
  refine y_iald (q0 := 2) (j := 7) (v := (ar S 1 7)) b (mw_2 cy a S) (by decide) rfl dX12_packs_90 ?_
  refine z_eqi h_a_1_7 ?_
  refine z_i2l (v := 0) b dX12_packs_91 (by decide) ?_
  refine z_lor (v := 824658887432) b dX12_packs_92 (by decide) ?_
  refine z_lstore_n (lv' := [(1, .long 824658887432), (4, .int 1), (3, .int 2), (0, .ref (a 0))]) b dX12_packs_93 rfl (by decide) rfl ?_
  refine z_lload_n b dX12_packs_94 rfl rfl ?_
  refine z_iconst (v := 1) b dX12_packs_95 (by decide) ?_
  refine z_lshl (v := 1649317774864) b dX12_packs_96 (by decide) ?_
  refine z_aload_n b dX12_packs_97 rfl rfl ?_
  refine z_get (q0 := 0) (k9 := 4) (v := .ref (a 5)) b (mw_0 cy a S) rfl in_X12 (by decide) wf_X12_27 rfl dX12_packs_98 ?_
  refine z_iconst (v := 3) b dX12_packs_101 (by decide) ?_
  refine z_iload_n b dX12_packs_102 rfl rfl ?_
  refine z_imul (v := 6) b dX12_packs_103 (by decide) ?_
  refine z_iload_n b dX12_packs_104 rfl rfl ?_
  refine z_iload b dX12_packs_105 rfl ?_
  refine z_calli b (z_runS (As := [.int 2, .int 1]) (st := [.int 6, .ref (a 5), .long 1649317774864]) b (c_X12_other S ) cf_X12_other wm_X12_160 ws_X12_other dX12_packs_107 rfl (Nat.le_of_ble_eq_true rfl) ⟨by decide, by decide, by decide, by decide⟩) (fun r3053 u3054 h3052 => ?_)
  obtain ⟨rfl, rfl⟩ := h3052
  refine z_iadd (v := 7) b dX12_packs_110 (by decide) ?_
  refine y_zald (q0 := 5) (j := 7) (v := (ar S 4 7)) b (mw_5 cy a S) (by decide) rfl dX12_packs_111 ?_
  refine z_eqi h_a_4_7 ?_
  refine z_if_eq_t (tgt := 119) b dX12_packs_112 (by decide) (by decide) ?_
  refine z_lconst (v := 0) b dX12_packs_119 (by decide) ?_
  refine z_lor (v := 1649317774864) b dX12_packs_120 (by decide) ?_
  refine z_lstore_n (lv' := [(1, .long 1649317774864), (4, .int 1), (3, .int 2), (0, .ref (a 0))]) b dX12_packs_121 rfl (by decide) rfl ?_
  refine z_iinc (k9 := 1) (v := 2) (lv' := [(4, .int 2), (1, .long 1649317774864), (3, .int 2), (0, .ref (a 0))]) b dX12_packs_122 rfl (by decide) (by decide) rfl ?_
  refine z_goto (tgt := 67) b dX12_packs_125 (by decide) ?_
  refine z_iload b dX12_packs_67 rfl ?_
  refine z_iconst (v := 2) b dX12_packs_69 (by decide) ?_
  refine z_icmp_ge_t (tgt := 128) b dX12_packs_70 (by decide) (by decide) ?_
  refine z_iinc (k9 := 2) (v := 3) (lv' := [(3, .int 3), (4, .int 2), (1, .long 1649317774864), (0, .ref (a 0))]) b dX12_packs_128 rfl (by decide) (by decide) rfl ?_
  refine z_goto (tgt := 8) b dX12_packs_131 (by decide) ?_
  refine z_iload_n b dX12_packs_8 rfl rfl ?_
  refine z_iconst (v := 3) b dX12_packs_9 (by decide) ?_
  refine z_icmp_ge_t (tgt := 134) b dX12_packs_10 (by decide) (by decide) ?_
  refine z_lload_n b dX12_packs_134 rfl rfl ?_
  exact z_lret (u := S) b rfl dX12_packs_135 ⟨rfl, rfl⟩ rfl (by decide) (by decide)

set_option maxHeartbeats 4000000 in
set_option maxRecDepth 100000 in
theorem c_X12_told_22 {l : Launch} {D : va_G} {cy : Nat → ClassId} {T0 tB tE : Nat} {a : Nat → Nat} (S : GS)  (h_i_0 : fi S 0 = 0) (h_a_0_0 : ar S 0 0 = 0) (h_a_2_0 : ar S 2 0 = 3) (h_a_3_1 : ar S 3 1 = 0) (h_a_1_1 : ar S 1 1 = 0) (h_a_4_1 : ar S 4 1 = 0) (h_a_1_2 : ar S 1 2 = 0) (h_a_4_2 : ar S 4 2 = 0) (h_a_0_1 : ar S 0 1 = 0) (h_a_2_1 : ar S 2 1 = 3) (h_a_3_5 : ar S 3 5 = 0) (h_a_1_5 : ar S 1 5 = 0) (h_a_4_5 : ar S 4 5 = 0) (h_a_1_3 : ar S 1 3 = 0) (h_a_4_3 : ar S 4 3 = 0) (h_a_0_2 : ar S 0 2 = 0) (h_a_2_2 : ar S 2 2 = 3) (h_a_3_6 : ar S 3 6 = 0) (h_a_1_6 : ar S 1 6 = 0) (h_a_4_6 : ar S 4 6 = 1) (h_a_1_7 : ar S 1 7 = 0) (h_a_4_7 : ar S 4 7 = 0) : Ct l D cy T0 tB tE yX12_told cX12_told 1 (some .boolean) 2 45 0 0 (mw cy a S) [.ref (a 0)] (QI D (U := GS) (fun r u => 1 = r ∧ sl S 0 1649317774864 = u) (mw cy a)) := by
  refine Ct.ofZ RX12 "told" [(0, .ref (a 0))] rfl rfl rfl rfl (Nat.le_of_ble_eq_true rfl) ?_
  intro p e R s m args below meth c A b
  refine z_aload_n b dX12_told_0 rfl rfl ?_
  refine z_aload_n b dX12_told_1 rfl rfl ?_
  refine z_calll b (z_runV (q0 := 0) (As := []) (st := [.ref (a 0)]) b (c_X12_packs_22 S h_i_0 h_a_0_0 h_a_2_0 h_a_3_1 h_a_1_1 h_a_4_1 h_a_1_2 h_a_4_2 h_a_0_1 h_a_2_1 h_a_3_5 h_a_1_5 h_a_4_5 h_a_1_3 h_a_4_3 h_a_0_2 h_a_2_2 h_a_3_6 h_a_1_6 h_a_4_6 h_a_1_7 h_a_4_7) cf_X12_packs (mw_0 cy a S) rfl wm_X12_149 wi_X12_packs ws_X12_packs dX12_told_2 rfl (Nat.le_of_ble_eq_true rfl) ⟨by decide, by decide, by decide, by decide⟩) (fun r3056 u3057 h3055 => ?_)
  obtain ⟨rfl, rfl⟩ := h3055
  refine z_put (q0 := 0) (k9 := 6) tyX12 b (mw_0 cy a S) rfl in_X12 tyX12_ok nmX12 (by decide) wf_X12_153 rfl rfl rfl rfl (Nat.le_of_ble_eq_true rfl) dX12_told_5 (mwp_0_6 cy a S 1649317774864) ?_
  refine z_iconst (v := 1) b dX12_told_8 (by decide) ?_
  exact z_zret (u := (sl S 0 1649317774864)) b rfl (by decide) dX12_told_9 ⟨rfl, rfl⟩ rfl (by decide) (by decide)

set_option maxHeartbeats 4000000 in
set_option maxRecDepth 100000 in
theorem c_X12_kin_60 {l : Launch} {D : va_G} {cy : Nat → ClassId} {T0 tB tE : Nat} {a : Nat → Nat} (S : GS)  (h_l_0 : fl S 0 = 1649317774848) (h_a_4_7 : ar S 4 7 = 0) (h_a_1_7 : ar S 1 7 = 0) (h_a_4_6 : ar S 4 6 = 0) (h_a_1_6 : ar S 1 6 = 0) (h_a_3_6 : ar S 3 6 = 0) (h_a_3_2 : ar S 3 2 = 0) (h_a_2_2 : ar S 2 2 = 3) (h_a_0_2 : ar S 0 2 = 0) (h_a_4_3 : ar S 4 3 = 0) (h_a_1_3 : ar S 1 3 = 0) (h_a_4_5 : ar S 4 5 = 0) (h_a_1_5 : ar S 1 5 = 0) (h_a_3_5 : ar S 3 5 = 0) (h_a_3_7 : ar S 3 7 = 0) (h_a_2_1 : ar S 2 1 = 3) (h_a_0_1 : ar S 0 1 = 0) (h_a_4_2 : ar S 4 2 = 0) (h_a_1_2 : ar S 1 2 = 0) (h_a_4_1 : ar S 4 1 = 0) (h_a_1_1 : ar S 1 1 = 0) (h_a_3_1 : ar S 3 1 = 0) (h_a_3_3 : ar S 3 3 = 0) (h_a_2_0 : ar S 2 0 = 3) (h_a_0_0 : ar S 0 0 = 0) (h_i_0 : fi S 0 = 0) : Ct l D cy T0 tB tE yX12_kin cX12_kin 5 (some .boolean) 3 65 0 0 (mw cy a S) [.ref (a 0), .int 2, .int 0, .int 1, .int 1] (QI D (U := GS) (fun r u => 1 = r ∧ sl (su S 4 6 1) 0 1649317774864 = u) (mw cy a)) := by
  refine Ct.ofZ RX12 "kin" [(0, .ref (a 0)), (1, .int 2), (2, .int 0), (3, .int 1), (4, .int 1)] rfl rfl rfl rfl (Nat.le_of_ble_eq_true rfl) ?_
  intro p e R s m args below meth c A b
  refine z_iload_n b dX12_kin_0 rfl rfl ?_
  refine z_calli b (z_runS (As := [.int 2]) (st := []) b (c_X12_isOne_5 S ) cf_X12_isOne wm_X12_170 ws_X12_isOne dX12_kin_1 rfl (Nat.le_of_ble_eq_true rfl) ⟨by decide, by decide, by decide, by decide⟩) (fun r2999 u3000 h2998 => ?_)
  obtain ⟨rfl, rfl⟩ := h2998
  refine z_if_eq_f (tgt := 28) b dX12_kin_4 (by decide) (by decide) ?_
  refine z_iload_n b dX12_kin_7 rfl rfl ?_
  refine z_calli b (z_runS (As := [.int 0]) (st := []) b (c_X12_isOne_3 S ) cf_X12_isOne wm_X12_170 ws_X12_isOne dX12_kin_8 rfl (Nat.le_of_ble_eq_true rfl) ⟨by decide, by decide, by decide, by decide⟩) (fun r3002 u3003 h3001 => ?_)
  obtain ⟨rfl, rfl⟩ := h3001
  refine z_if_eq_f (tgt := 28) b dX12_kin_11 (by decide) (by decide) ?_
  refine z_iload_n b dX12_kin_14 rfl rfl ?_
  refine z_iload_n b dX12_kin_15 rfl rfl ?_
  refine z_icmp_eq_f (tgt := 28) b dX12_kin_16 (by decide) (by decide) ?_
  refine z_iload_n b dX12_kin_19 rfl rfl ?_
  refine z_iconst (v := 0) b dX12_kin_20 (by decide) ?_
  refine z_iconst (v := 1) b dX12_kin_21 (by decide) ?_
  refine z_calli b (z_runS (As := [.int 1, .int 0, .int 1]) (st := []) b (c_X12_isIn_17 S ) cf_X12_isIn wm_X12_1 ws_X12_isIn dX12_kin_22 rfl (Nat.le_of_ble_eq_true rfl) ⟨by decide, by decide, by decide, by decide⟩) (fun r3005 u3006 h3004 => ?_)
  obtain ⟨rfl, rfl⟩ := h3004
  refine z_if_ne_t (tgt := 30) b dX12_kin_25 (by decide) (by decide) ?_
  refine z_aload_n b dX12_kin_30 rfl rfl ?_
  refine z_aload_n b dX12_kin_31 rfl rfl ?_
  refine z_get (q0 := 0) (k9 := 6) (v := .long (fl S 0)) b (mw_0 cy a S) rfl in_X12 (by decide) wf_X12_153 rfl dX12_kin_32 ?_
  refine z_eql h_l_0 ?_
  refine z_callv b (z_runV (q0 := 0) (As := [.long 1649317774848]) (st := []) b (c_X12_takes S h_a_4_7 h_a_1_7 h_a_4_6 h_a_1_6 h_a_3_6 h_a_3_2 h_a_2_2 h_a_0_2 h_a_4_3 h_a_1_3 h_a_4_5 h_a_1_5 h_a_3_5 h_a_3_7 h_a_2_1 h_a_0_1 h_a_4_2 h_a_1_2 h_a_4_1 h_a_1_1 h_a_3_1 h_a_3_3 h_a_2_0 h_a_0_0 h_i_0) cf_X12_takes (mw_0 cy a S) rfl wm_X12_174 wi_X12_takes ws_X12_takes dX12_kin_35 rfl (Nat.le_of_ble_eq_true rfl) ⟨by decide, by decide, by decide, by decide⟩) (fun u3009 h3007 => ?_)
  obtain rfl := h3007
  refine z_iload_n b dX12_kin_38 rfl rfl ?_
  refine z_iconst (v := 1) b dX12_kin_39 (by decide) ?_
  refine z_icmp_ne_f (tgt := 58) b dX12_kin_40 (by decide) (by decide) ?_
  refine z_aload_n b dX12_kin_43 rfl rfl ?_
  refine z_get (q0 := 0) (k9 := 4) (v := .ref (a 5)) b (mw_0 cy a S) rfl in_X12 (by decide) wf_X12_27 rfl dX12_kin_44 ?_
  refine z_iconst (v := 3) b dX12_kin_47 (by decide) ?_
  refine z_iload_n b dX12_kin_48 rfl rfl ?_
  refine z_imul (v := 6) b dX12_kin_49 (by decide) ?_
  refine z_iload_n b dX12_kin_50 rfl rfl ?_
  refine z_iadd (v := 6) b dX12_kin_51 (by decide) ?_
  refine z_iload b dX12_kin_52 rfl ?_
  refine y_zast (q0 := 5) (j := 6) b (mw_5 cy a S) (by decide) (by decide) dX12_kin_54 (mwa_5 cy a S 6 1) ?_
  refine z_goto (tgt := 82) b dX12_kin_55 (by decide) ?_
  refine z_aload_n b dX12_kin_82 rfl rfl ?_
  refine z_calli b (z_runV (q0 := 0) (As := []) (st := []) b (c_X12_told_22 (su S 4 6 1) h_i_0 h_a_0_0 h_a_2_0 h_a_3_1 h_a_1_1 h_a_4_1 h_a_1_2 h_a_4_2 h_a_0_1 h_a_2_1 h_a_3_5 h_a_1_5 h_a_4_5 h_a_1_3 h_a_4_3 h_a_0_2 h_a_2_2 h_a_3_6 h_a_1_6 rfl h_a_1_7 h_a_4_7) cf_X12_told (mw_0 cy a (su S 4 6 1)) rfl wm_X12_178 wi_X12_told ws_X12_told dX12_kin_83 rfl (Nat.le_of_ble_eq_true rfl) ⟨by decide, by decide, by decide, by decide⟩) (fun r3059 u3060 h3058 => ?_)
  obtain ⟨rfl, rfl⟩ := h3058
  exact z_zret (u := (sl (su S 4 6 1) 0 1649317774864)) b rfl (by decide) dX12_kin_86 ⟨rfl, rfl⟩ rfl (by decide) (by decide)

set_option maxHeartbeats 4000000 in
set_option maxRecDepth 100000 in
theorem c_X11_kin_61 {l : Launch} {D : va_G} {cy : Nat → ClassId} {T0 tB tE : Nat} {a : Nat → Nat} {rw : Nat → Option Nat} (S : GS) (p0 : Int32)  (hr_p0 : 2 ≤ p0.toInt ∧ p0.toInt ≤ 2147483647) : Ct l D cy T0 tB tE yX11_kin cX11_kin 6 (some .boolean) 2 41 0 0 (cw cy tE a rw S) [.ref (a 0), .int 2, .int 0, .int p0, .int 0] (QI D (U := GS) (fun r u => 0 = r ∧ S = u) (cw cy tE a rw)) := by
  refine Ct.ofZ RX11 "kin" [(0, .ref (a 0)), (1, .int 2), (2, .int 0), (3, .int p0), (4, .int 0)] rfl rfl rfl rfl (Nat.le_of_ble_eq_true rfl) ?_
  intro p e R s m args below meth c A b
  refine z_iload_n b dX11_kin_0 rfl rfl ?_
  refine z_iload_n b dX11_kin_1 rfl rfl ?_
  refine z_calli b (z_runS (As := [.int 2, .int 0]) (st := []) b (c_X11_arePair_16 S ) cf_X11_arePair wm_X11_84 ws_X11_arePair dX11_kin_2 rfl (Nat.le_of_ble_eq_true rfl) ⟨by decide, by decide, by decide, by decide⟩) (fun r3062 u3063 h3061 => ?_)
  obtain ⟨rfl, rfl⟩ := h3061
  refine z_if_eq_f (tgt := 16) b dX11_kin_5 (by decide) (by decide) ?_
  refine z_iload_n b dX11_kin_8 rfl rfl ?_
  refine z_iconst (v := 1) b dX11_kin_9 (by decide) ?_
  refine z_calli b (z_runS (As := [.int p0, .int 1]) (st := []) b (c_X11_isWithin_13 S p0 ⟨by omega, by omega⟩) cf_X11_isWithin wm_X11_73 ws_X11_isWithin dX11_kin_10 rfl (Nat.le_of_ble_eq_true rfl) ⟨by decide, by decide, by decide, by decide⟩) (fun r3065 u3066 h3064 => ?_)
  obtain ⟨rfl, rfl⟩ := h3064
  refine z_if_ne_f (tgt := 18) b dX11_kin_13 (by decide) (by decide) ?_
  refine z_iconst (v := 0) b dX11_kin_16 (by decide) ?_
  exact z_zret (u := S) b rfl (by decide) dX11_kin_17 ⟨rfl, rfl⟩ rfl (by decide) (by decide)

set_option maxHeartbeats 4000000 in
set_option maxRecDepth 100000 in
theorem c_X12_kin_61 {l : Launch} {D : va_G} {cy : Nat → ClassId} {T0 tB tE : Nat} {a : Nat → Nat} (S : GS) (p0 : Int32)  (hr_p0 : 2 ≤ p0.toInt ∧ p0.toInt ≤ 2147483647) : Ct l D cy T0 tB tE yX12_kin cX12_kin 5 (some .boolean) 2 42 0 0 (mw cy a S) [.ref (a 0), .int 2, .int 0, .int p0, .int 0] (QI D (U := GS) (fun r u => 0 = r ∧ S = u) (mw cy a)) := by
  refine Ct.ofZ RX12 "kin" [(0, .ref (a 0)), (1, .int 2), (2, .int 0), (3, .int p0), (4, .int 0)] rfl rfl rfl rfl (Nat.le_of_ble_eq_true rfl) ?_
  intro p e R s m args below meth c A b
  refine z_iload_n b dX12_kin_0 rfl rfl ?_
  refine z_calli b (z_runS (As := [.int 2]) (st := []) b (c_X12_isOne_5 S ) cf_X12_isOne wm_X12_170 ws_X12_isOne dX12_kin_1 rfl (Nat.le_of_ble_eq_true rfl) ⟨by decide, by decide, by decide, by decide⟩) (fun r3068 u3069 h3067 => ?_)
  obtain ⟨rfl, rfl⟩ := h3067
  refine z_if_eq_f (tgt := 28) b dX12_kin_4 (by decide) (by decide) ?_
  refine z_iload_n b dX12_kin_7 rfl rfl ?_
  refine z_calli b (z_runS (As := [.int 0]) (st := []) b (c_X12_isOne_3 S ) cf_X12_isOne wm_X12_170 ws_X12_isOne dX12_kin_8 rfl (Nat.le_of_ble_eq_true rfl) ⟨by decide, by decide, by decide, by decide⟩) (fun r3071 u3072 h3070 => ?_)
  obtain ⟨rfl, rfl⟩ := h3070
  refine z_if_eq_f (tgt := 28) b dX12_kin_11 (by decide) (by decide) ?_
  refine z_iload_n b dX12_kin_14 rfl rfl ?_
  refine z_iload_n b dX12_kin_15 rfl rfl ?_
  refine z_icmp_eq_f (tgt := 28) b dX12_kin_16 (by decide) (by decide) ?_
  refine z_iload_n b dX12_kin_19 rfl rfl ?_
  refine z_iconst (v := 0) b dX12_kin_20 (by decide) ?_
  refine z_iconst (v := 1) b dX12_kin_21 (by decide) ?_
  refine z_calli b (z_runS (As := [.int p0, .int 0, .int 1]) (st := []) b (c_X12_isIn_18 S p0 ⟨by omega, by omega⟩) cf_X12_isIn wm_X12_1 ws_X12_isIn dX12_kin_22 rfl (Nat.le_of_ble_eq_true rfl) ⟨by decide, by decide, by decide, by decide⟩) (fun r3074 u3075 h3073 => ?_)
  obtain ⟨rfl, rfl⟩ := h3073
  refine z_if_ne_f (tgt := 30) b dX12_kin_25 (by decide) (by decide) ?_
  refine z_iconst (v := 0) b dX12_kin_28 (by decide) ?_
  exact z_zret (u := S) b rfl (by decide) dX12_kin_29 ⟨rfl, rfl⟩ rfl (by decide) (by decide)

set_option maxHeartbeats 4000000 in
set_option maxRecDepth 100000 in
theorem c_X11_kin_62 {l : Launch} {D : va_G} {cy : Nat → ClassId} {T0 tB tE : Nat} {a : Nat → Nat} {rw : Nat → Option Nat} (S : GS) (p0 : Int32)  (hr_p0 : 2 ≤ p0.toInt ∧ p0.toInt ≤ 2147483647) : Ct l D cy T0 tB tE yX11_kin cX11_kin 6 (some .boolean) 2 41 0 0 (cw cy tE a rw S) [.ref (a 0), .int 2, .int 0, .int p0, .int 1] (QI D (U := GS) (fun r u => 0 = r ∧ S = u) (cw cy tE a rw)) := by
  refine Ct.ofZ RX11 "kin" [(0, .ref (a 0)), (1, .int 2), (2, .int 0), (3, .int p0), (4, .int 1)] rfl rfl rfl rfl (Nat.le_of_ble_eq_true rfl) ?_
  intro p e R s m args below meth c A b
  refine z_iload_n b dX11_kin_0 rfl rfl ?_
  refine z_iload_n b dX11_kin_1 rfl rfl ?_
  refine z_calli b (z_runS (As := [.int 2, .int 0]) (st := []) b (c_X11_arePair_16 S ) cf_X11_arePair wm_X11_84 ws_X11_arePair dX11_kin_2 rfl (Nat.le_of_ble_eq_true rfl) ⟨by decide, by decide, by decide, by decide⟩) (fun r3077 u3078 h3076 => ?_)
  obtain ⟨rfl, rfl⟩ := h3076
  refine z_if_eq_f (tgt := 16) b dX11_kin_5 (by decide) (by decide) ?_
  refine z_iload_n b dX11_kin_8 rfl rfl ?_
  refine z_iconst (v := 1) b dX11_kin_9 (by decide) ?_
  refine z_calli b (z_runS (As := [.int p0, .int 1]) (st := []) b (c_X11_isWithin_13 S p0 ⟨by omega, by omega⟩) cf_X11_isWithin wm_X11_73 ws_X11_isWithin dX11_kin_10 rfl (Nat.le_of_ble_eq_true rfl) ⟨by decide, by decide, by decide, by decide⟩) (fun r3080 u3081 h3079 => ?_)
  obtain ⟨rfl, rfl⟩ := h3079
  refine z_if_ne_f (tgt := 18) b dX11_kin_13 (by decide) (by decide) ?_
  refine z_iconst (v := 0) b dX11_kin_16 (by decide) ?_
  exact z_zret (u := S) b rfl (by decide) dX11_kin_17 ⟨rfl, rfl⟩ rfl (by decide) (by decide)

set_option maxHeartbeats 4000000 in
set_option maxRecDepth 100000 in
theorem c_X12_kin_62 {l : Launch} {D : va_G} {cy : Nat → ClassId} {T0 tB tE : Nat} {a : Nat → Nat} (S : GS) (p0 : Int32)  (hr_p0 : 2 ≤ p0.toInt ∧ p0.toInt ≤ 2147483647) : Ct l D cy T0 tB tE yX12_kin cX12_kin 5 (some .boolean) 2 42 0 0 (mw cy a S) [.ref (a 0), .int 2, .int 0, .int p0, .int 1] (QI D (U := GS) (fun r u => 0 = r ∧ S = u) (mw cy a)) := by
  refine Ct.ofZ RX12 "kin" [(0, .ref (a 0)), (1, .int 2), (2, .int 0), (3, .int p0), (4, .int 1)] rfl rfl rfl rfl (Nat.le_of_ble_eq_true rfl) ?_
  intro p e R s m args below meth c A b
  refine z_iload_n b dX12_kin_0 rfl rfl ?_
  refine z_calli b (z_runS (As := [.int 2]) (st := []) b (c_X12_isOne_5 S ) cf_X12_isOne wm_X12_170 ws_X12_isOne dX12_kin_1 rfl (Nat.le_of_ble_eq_true rfl) ⟨by decide, by decide, by decide, by decide⟩) (fun r3083 u3084 h3082 => ?_)
  obtain ⟨rfl, rfl⟩ := h3082
  refine z_if_eq_f (tgt := 28) b dX12_kin_4 (by decide) (by decide) ?_
  refine z_iload_n b dX12_kin_7 rfl rfl ?_
  refine z_calli b (z_runS (As := [.int 0]) (st := []) b (c_X12_isOne_3 S ) cf_X12_isOne wm_X12_170 ws_X12_isOne dX12_kin_8 rfl (Nat.le_of_ble_eq_true rfl) ⟨by decide, by decide, by decide, by decide⟩) (fun r3086 u3087 h3085 => ?_)
  obtain ⟨rfl, rfl⟩ := h3085
  refine z_if_eq_f (tgt := 28) b dX12_kin_11 (by decide) (by decide) ?_
  refine z_iload_n b dX12_kin_14 rfl rfl ?_
  refine z_iload_n b dX12_kin_15 rfl rfl ?_
  refine z_icmp_eq_f (tgt := 28) b dX12_kin_16 (by decide) (by decide) ?_
  refine z_iload_n b dX12_kin_19 rfl rfl ?_
  refine z_iconst (v := 0) b dX12_kin_20 (by decide) ?_
  refine z_iconst (v := 1) b dX12_kin_21 (by decide) ?_
  refine z_calli b (z_runS (As := [.int p0, .int 0, .int 1]) (st := []) b (c_X12_isIn_18 S p0 ⟨by omega, by omega⟩) cf_X12_isIn wm_X12_1 ws_X12_isIn dX12_kin_22 rfl (Nat.le_of_ble_eq_true rfl) ⟨by decide, by decide, by decide, by decide⟩) (fun r3089 u3090 h3088 => ?_)
  obtain ⟨rfl, rfl⟩ := h3088
  refine z_if_ne_f (tgt := 30) b dX12_kin_25 (by decide) (by decide) ?_
  refine z_iconst (v := 0) b dX12_kin_28 (by decide) ?_
  exact z_zret (u := S) b rfl (by decide) dX12_kin_29 ⟨rfl, rfl⟩ rfl (by decide) (by decide)

set_option maxHeartbeats 4000000 in
set_option maxRecDepth 100000 in
theorem c_X11_kin_63 {l : Launch} {D : va_G} {cy : Nat → ClassId} {T0 tB tE : Nat} {a : Nat → Nat} {rw : Nat → Option Nat} (S : GS) (p0 : Int32)  (hr_p0 : (-2147483648) ≤ p0.toInt ∧ p0.toInt ≤ (-1)) : Ct l D cy T0 tB tE yX11_kin cX11_kin 6 (some .boolean) 2 41 0 0 (cw cy tE a rw S) [.ref (a 0), .int 2, .int 1, .int p0, .int 0] (QI D (U := GS) (fun r u => 0 = r ∧ S = u) (cw cy tE a rw)) := by
  refine Ct.ofZ RX11 "kin" [(0, .ref (a 0)), (1, .int 2), (2, .int 1), (3, .int p0), (4, .int 0)] rfl rfl rfl rfl (Nat.le_of_ble_eq_true rfl) ?_
  intro p e R s m args below meth c A b
  refine z_iload_n b dX11_kin_0 rfl rfl ?_
  refine z_iload_n b dX11_kin_1 rfl rfl ?_
  refine z_calli b (z_runS (As := [.int 2, .int 1]) (st := []) b (c_X11_arePair_17 S ) cf_X11_arePair wm_X11_84 ws_X11_arePair dX11_kin_2 rfl (Nat.le_of_ble_eq_true rfl) ⟨by decide, by decide, by decide, by decide⟩) (fun r3092 u3093 h3091 => ?_)
  obtain ⟨rfl, rfl⟩ := h3091
  refine z_if_eq_f (tgt := 16) b dX11_kin_5 (by decide) (by decide) ?_
  refine z_iload_n b dX11_kin_8 rfl rfl ?_
  refine z_iconst (v := 1) b dX11_kin_9 (by decide) ?_
  refine z_calli b (z_runS (As := [.int p0, .int 1]) (st := []) b (c_X11_isWithin_10 S p0 ⟨by omega, by omega⟩) cf_X11_isWithin wm_X11_73 ws_X11_isWithin dX11_kin_10 rfl (Nat.le_of_ble_eq_true rfl) ⟨by decide, by decide, by decide, by decide⟩) (fun r3095 u3096 h3094 => ?_)
  obtain ⟨rfl, rfl⟩ := h3094
  refine z_if_ne_f (tgt := 18) b dX11_kin_13 (by decide) (by decide) ?_
  refine z_iconst (v := 0) b dX11_kin_16 (by decide) ?_
  exact z_zret (u := S) b rfl (by decide) dX11_kin_17 ⟨rfl, rfl⟩ rfl (by decide) (by decide)

set_option maxHeartbeats 4000000 in
set_option maxRecDepth 100000 in
theorem c_X12_kin_63 {l : Launch} {D : va_G} {cy : Nat → ClassId} {T0 tB tE : Nat} {a : Nat → Nat} (S : GS) (p0 : Int32)  (hr_p0 : (-2147483648) ≤ p0.toInt ∧ p0.toInt ≤ (-1)) : Ct l D cy T0 tB tE yX12_kin cX12_kin 5 (some .boolean) 2 42 0 0 (mw cy a S) [.ref (a 0), .int 2, .int 1, .int p0, .int 0] (QI D (U := GS) (fun r u => 0 = r ∧ S = u) (mw cy a)) := by
  refine Ct.ofZ RX12 "kin" [(0, .ref (a 0)), (1, .int 2), (2, .int 1), (3, .int p0), (4, .int 0)] rfl rfl rfl rfl (Nat.le_of_ble_eq_true rfl) ?_
  intro p e R s m args below meth c A b
  refine z_iload_n b dX12_kin_0 rfl rfl ?_
  refine z_calli b (z_runS (As := [.int 2]) (st := []) b (c_X12_isOne_5 S ) cf_X12_isOne wm_X12_170 ws_X12_isOne dX12_kin_1 rfl (Nat.le_of_ble_eq_true rfl) ⟨by decide, by decide, by decide, by decide⟩) (fun r3098 u3099 h3097 => ?_)
  obtain ⟨rfl, rfl⟩ := h3097
  refine z_if_eq_f (tgt := 28) b dX12_kin_4 (by decide) (by decide) ?_
  refine z_iload_n b dX12_kin_7 rfl rfl ?_
  refine z_calli b (z_runS (As := [.int 1]) (st := []) b (c_X12_isOne_4 S ) cf_X12_isOne wm_X12_170 ws_X12_isOne dX12_kin_8 rfl (Nat.le_of_ble_eq_true rfl) ⟨by decide, by decide, by decide, by decide⟩) (fun r3101 u3102 h3100 => ?_)
  obtain ⟨rfl, rfl⟩ := h3100
  refine z_if_eq_f (tgt := 28) b dX12_kin_11 (by decide) (by decide) ?_
  refine z_iload_n b dX12_kin_14 rfl rfl ?_
  refine z_iload_n b dX12_kin_15 rfl rfl ?_
  refine z_icmp_eq_f (tgt := 28) b dX12_kin_16 (by decide) (by decide) ?_
  refine z_iload_n b dX12_kin_19 rfl rfl ?_
  refine z_iconst (v := 0) b dX12_kin_20 (by decide) ?_
  refine z_iconst (v := 1) b dX12_kin_21 (by decide) ?_
  refine z_calli b (z_runS (As := [.int p0, .int 0, .int 1]) (st := []) b (c_X12_isIn_15 S p0 ⟨by omega, by omega⟩) cf_X12_isIn wm_X12_1 ws_X12_isIn dX12_kin_22 rfl (Nat.le_of_ble_eq_true rfl) ⟨by decide, by decide, by decide, by decide⟩) (fun r3104 u3105 h3103 => ?_)
  obtain ⟨rfl, rfl⟩ := h3103
  refine z_if_ne_f (tgt := 30) b dX12_kin_25 (by decide) (by decide) ?_
  refine z_iconst (v := 0) b dX12_kin_28 (by decide) ?_
  exact z_zret (u := S) b rfl (by decide) dX12_kin_29 ⟨rfl, rfl⟩ rfl (by decide) (by decide)

set_option maxHeartbeats 4000000 in
set_option maxRecDepth 100000 in
theorem c_X11_kin_64 {l : Launch} {D : va_G} {cy : Nat → ClassId} {T0 tB tE : Nat} {a : Nat → Nat} {rw : Nat → Option Nat} (S : GS) (p0 : Int32)  (hr_p0 : (-2147483648) ≤ p0.toInt ∧ p0.toInt ≤ (-1)) : Ct l D cy T0 tB tE yX11_kin cX11_kin 6 (some .boolean) 2 41 0 0 (cw cy tE a rw S) [.ref (a 0), .int 2, .int 1, .int p0, .int 1] (QI D (U := GS) (fun r u => 0 = r ∧ S = u) (cw cy tE a rw)) := by
  refine Ct.ofZ RX11 "kin" [(0, .ref (a 0)), (1, .int 2), (2, .int 1), (3, .int p0), (4, .int 1)] rfl rfl rfl rfl (Nat.le_of_ble_eq_true rfl) ?_
  intro p e R s m args below meth c A b
  refine z_iload_n b dX11_kin_0 rfl rfl ?_
  refine z_iload_n b dX11_kin_1 rfl rfl ?_
  refine z_calli b (z_runS (As := [.int 2, .int 1]) (st := []) b (c_X11_arePair_17 S ) cf_X11_arePair wm_X11_84 ws_X11_arePair dX11_kin_2 rfl (Nat.le_of_ble_eq_true rfl) ⟨by decide, by decide, by decide, by decide⟩) (fun r3107 u3108 h3106 => ?_)
  obtain ⟨rfl, rfl⟩ := h3106
  refine z_if_eq_f (tgt := 16) b dX11_kin_5 (by decide) (by decide) ?_
  refine z_iload_n b dX11_kin_8 rfl rfl ?_
  refine z_iconst (v := 1) b dX11_kin_9 (by decide) ?_
  refine z_calli b (z_runS (As := [.int p0, .int 1]) (st := []) b (c_X11_isWithin_10 S p0 ⟨by omega, by omega⟩) cf_X11_isWithin wm_X11_73 ws_X11_isWithin dX11_kin_10 rfl (Nat.le_of_ble_eq_true rfl) ⟨by decide, by decide, by decide, by decide⟩) (fun r3110 u3111 h3109 => ?_)
  obtain ⟨rfl, rfl⟩ := h3109
  refine z_if_ne_f (tgt := 18) b dX11_kin_13 (by decide) (by decide) ?_
  refine z_iconst (v := 0) b dX11_kin_16 (by decide) ?_
  exact z_zret (u := S) b rfl (by decide) dX11_kin_17 ⟨rfl, rfl⟩ rfl (by decide) (by decide)

set_option maxHeartbeats 4000000 in
set_option maxRecDepth 100000 in
theorem c_X12_kin_64 {l : Launch} {D : va_G} {cy : Nat → ClassId} {T0 tB tE : Nat} {a : Nat → Nat} (S : GS) (p0 : Int32)  (hr_p0 : (-2147483648) ≤ p0.toInt ∧ p0.toInt ≤ (-1)) : Ct l D cy T0 tB tE yX12_kin cX12_kin 5 (some .boolean) 2 42 0 0 (mw cy a S) [.ref (a 0), .int 2, .int 1, .int p0, .int 1] (QI D (U := GS) (fun r u => 0 = r ∧ S = u) (mw cy a)) := by
  refine Ct.ofZ RX12 "kin" [(0, .ref (a 0)), (1, .int 2), (2, .int 1), (3, .int p0), (4, .int 1)] rfl rfl rfl rfl (Nat.le_of_ble_eq_true rfl) ?_
  intro p e R s m args below meth c A b
  refine z_iload_n b dX12_kin_0 rfl rfl ?_
  refine z_calli b (z_runS (As := [.int 2]) (st := []) b (c_X12_isOne_5 S ) cf_X12_isOne wm_X12_170 ws_X12_isOne dX12_kin_1 rfl (Nat.le_of_ble_eq_true rfl) ⟨by decide, by decide, by decide, by decide⟩) (fun r3113 u3114 h3112 => ?_)
  obtain ⟨rfl, rfl⟩ := h3112
  refine z_if_eq_f (tgt := 28) b dX12_kin_4 (by decide) (by decide) ?_
  refine z_iload_n b dX12_kin_7 rfl rfl ?_
  refine z_calli b (z_runS (As := [.int 1]) (st := []) b (c_X12_isOne_4 S ) cf_X12_isOne wm_X12_170 ws_X12_isOne dX12_kin_8 rfl (Nat.le_of_ble_eq_true rfl) ⟨by decide, by decide, by decide, by decide⟩) (fun r3116 u3117 h3115 => ?_)
  obtain ⟨rfl, rfl⟩ := h3115
  refine z_if_eq_f (tgt := 28) b dX12_kin_11 (by decide) (by decide) ?_
  refine z_iload_n b dX12_kin_14 rfl rfl ?_
  refine z_iload_n b dX12_kin_15 rfl rfl ?_
  refine z_icmp_eq_f (tgt := 28) b dX12_kin_16 (by decide) (by decide) ?_
  refine z_iload_n b dX12_kin_19 rfl rfl ?_
  refine z_iconst (v := 0) b dX12_kin_20 (by decide) ?_
  refine z_iconst (v := 1) b dX12_kin_21 (by decide) ?_
  refine z_calli b (z_runS (As := [.int p0, .int 0, .int 1]) (st := []) b (c_X12_isIn_15 S p0 ⟨by omega, by omega⟩) cf_X12_isIn wm_X12_1 ws_X12_isIn dX12_kin_22 rfl (Nat.le_of_ble_eq_true rfl) ⟨by decide, by decide, by decide, by decide⟩) (fun r3119 u3120 h3118 => ?_)
  obtain ⟨rfl, rfl⟩ := h3118
  refine z_if_ne_f (tgt := 30) b dX12_kin_25 (by decide) (by decide) ?_
  refine z_iconst (v := 0) b dX12_kin_28 (by decide) ?_
  exact z_zret (u := S) b rfl (by decide) dX12_kin_29 ⟨rfl, rfl⟩ rfl (by decide) (by decide)

set_option maxHeartbeats 4000000 in
set_option maxRecDepth 100000 in
theorem c_X11_kin_65 {l : Launch} {D : va_G} {cy : Nat → ClassId} {T0 tB tE : Nat} {a : Nat → Nat} {rw : Nat → Option Nat} (S : GS)  (h_a_4_27 : ar S 4 27 = 0) (h_a_4_25 : ar S 4 25 = 0) (h_i_24 : fi S 24 = 0) : Ct l D cy T0 tB tE yX11_kin cX11_kin 6 (some .boolean) 2 41 0 0 (cw cy tE a rw S) [.ref (a 0), .int 2, .int 1, .int 0, .int 0] (QI D (U := GS) (fun r u => 1 = r ∧ S = u) (cw cy tE a rw)) := by
  refine Ct.ofZ RX11 "kin" [(0, .ref (a 0)), (1, .int 2), (2, .int 1), (3, .int 0), (4, .int 0)] rfl rfl rfl rfl (Nat.le_of_ble_eq_true rfl) ?_
  intro p e R s m args below meth c A b
  refine z_iload_n b dX11_kin_0 rfl rfl ?_
  refine z_iload_n b dX11_kin_1 rfl rfl ?_
  refine z_calli b (z_runS (As := [.int 2, .int 1]) (st := []) b (c_X11_arePair_17 S ) cf_X11_arePair wm_X11_84 ws_X11_arePair dX11_kin_2 rfl (Nat.le_of_ble_eq_true rfl) ⟨by decide, by decide, by decide, by decide⟩) (fun r3122 u3123 h3121 => ?_)
  obtain ⟨rfl, rfl⟩ := h3121
  refine z_if_eq_f (tgt := 16) b dX11_kin_5 (by decide) (by decide) ?_
  refine z_iload_n b dX11_kin_8 rfl rfl ?_
  refine z_iconst (v := 1) b dX11_kin_9 (by decide) ?_
  refine z_calli b (z_runS (As := [.int 0, .int 1]) (st := []) b (c_X11_isWithin_11 S ) cf_X11_isWithin wm_X11_73 ws_X11_isWithin dX11_kin_10 rfl (Nat.le_of_ble_eq_true rfl) ⟨by decide, by decide, by decide, by decide⟩) (fun r3125 u3126 h3124 => ?_)
  obtain ⟨rfl, rfl⟩ := h3124
  refine z_if_ne_t (tgt := 18) b dX11_kin_13 (by decide) (by decide) ?_
  refine z_iload b dX11_kin_18 rfl ?_
  refine z_if_eq_t (tgt := 27) b dX11_kin_20 (by decide) (by decide) ?_
  refine z_iconst (v := 0) b dX11_kin_27 (by decide) ?_
  refine z_istore (lv' := [(5, .int 0), (0, .ref (a 0)), (1, .int 2), (2, .int 1), (3, .int 0), (4, .int 0)]) b dX11_kin_28 (by decide) rfl ?_
  refine z_iload_n b dX11_kin_30 rfl rfl ?_
  refine z_if_ne_f (tgt := 71) b dX11_kin_31 (by decide) (by decide) ?_
  refine z_aload_n b dX11_kin_34 rfl rfl ?_
  refine z_get (q0 := 0) (k9 := 4) (v := .ref (a 14)) b (cw_0 cy tE a rw S) rfl in_X11 (by decide) wf_X11_34 rfl dX11_kin_35 ?_
  refine z_bipush (v := 20) b dX11_kin_38 (by decide) ?_
  refine z_iconst (v := 3) b dX11_kin_40 (by decide) ?_
  refine z_iload_n b dX11_kin_41 rfl rfl ?_
  refine z_imul (v := 6) b dX11_kin_42 (by decide) ?_
  refine z_iadd (v := 26) b dX11_kin_43 (by decide) ?_
  refine z_iload_n b dX11_kin_44 rfl rfl ?_
  refine z_iadd (v := 27) b dX11_kin_45 (by decide) ?_
  refine z_iload b dX11_kin_46 rfl ?_
  refine z_callv b (z_runV (q0 := 14) (As := [.int 27, .int 0]) (st := []) b (c_X9_set_29 S h_a_4_27) cf_X9_set (cw_14 cy tE a rw S) rfl wm_X11_77 wi_X9_set ws_X9_set dX11_kin_48 rfl (Nat.le_of_ble_eq_true rfl) ⟨by decide, by decide, by decide, by decide⟩) (fun u3129 h3127 => ?_)
  obtain rfl := h3127
  refine z_aload_n b dX11_kin_51 rfl rfl ?_
  refine z_get (q0 := 0) (k9 := 4) (v := .ref (a 14)) b (cw_0 cy tE a rw S) rfl in_X11 (by decide) wf_X11_34 rfl dX11_kin_52 ?_
  refine z_bipush (v := 20) b dX11_kin_55 (by decide) ?_
  refine z_iconst (v := 3) b dX11_kin_57 (by decide) ?_
  refine z_iload_n b dX11_kin_58 rfl rfl ?_
  refine z_imul (v := 3) b dX11_kin_59 (by decide) ?_
  refine z_iadd (v := 23) b dX11_kin_60 (by decide) ?_
  refine z_iload_n b dX11_kin_61 rfl rfl ?_
  refine z_iadd (v := 25) b dX11_kin_62 (by decide) ?_
  refine z_iload b dX11_kin_63 rfl ?_
  refine z_callv b (z_runV (q0 := 14) (As := [.int 25, .int 0]) (st := []) b (c_X9_set_28 S h_a_4_25) cf_X9_set (cw_14 cy tE a rw S) rfl wm_X11_77 wi_X9_set ws_X9_set dX11_kin_65 rfl (Nat.le_of_ble_eq_true rfl) ⟨by decide, by decide, by decide, by decide⟩) (fun u3132 h3130 => ?_)
  obtain rfl := h3130
  refine z_goto (tgt := 88) b dX11_kin_68 (by decide) ?_
  refine z_aload_n b dX11_kin_88 rfl rfl ?_
  refine z_get (q0 := 0) (k9 := 6) (v := .ref (a 25)) b (cw_0 cy tE a rw S) rfl in_X11 (by decide) wf_X11_52 rfl dX11_kin_89 ?_
  refine z_callv b (z_runV (q0 := 25) (As := []) (st := []) b (c_X8_forget S h_i_24) cf_X8_forget (cw_25 cy tE a rw S) rfl wm_X11_81 wi_X8_forget ws_X8_forget dX11_kin_92 rfl (Nat.le_of_ble_eq_true rfl) ⟨by decide, by decide, by decide, by decide⟩) (fun u3135 h3133 => ?_)
  obtain rfl := h3133
  refine z_iconst (v := 1) b dX11_kin_95 (by decide) ?_
  exact z_zret (u := S) b rfl (by decide) dX11_kin_96 ⟨rfl, rfl⟩ rfl (by decide) (by decide)

set_option maxHeartbeats 4000000 in
set_option maxRecDepth 100000 in
theorem c_X12_kin_65 {l : Launch} {D : va_G} {cy : Nat → ClassId} {T0 tB tE : Nat} {a : Nat → Nat} (S : GS)  (h_l_0 : fl S 0 = 1649317774848) (h_a_4_7 : ar S 4 7 = 0) (h_a_1_7 : ar S 1 7 = 0) (h_a_4_6 : ar S 4 6 = 0) (h_a_1_6 : ar S 1 6 = 0) (h_a_3_6 : ar S 3 6 = 0) (h_a_3_2 : ar S 3 2 = 0) (h_a_2_2 : ar S 2 2 = 3) (h_a_0_2 : ar S 0 2 = 0) (h_a_4_3 : ar S 4 3 = 0) (h_a_1_3 : ar S 1 3 = 0) (h_a_4_5 : ar S 4 5 = 0) (h_a_1_5 : ar S 1 5 = 0) (h_a_3_5 : ar S 3 5 = 0) (h_a_3_7 : ar S 3 7 = 0) (h_a_2_1 : ar S 2 1 = 3) (h_a_0_1 : ar S 0 1 = 0) (h_a_4_2 : ar S 4 2 = 0) (h_a_1_2 : ar S 1 2 = 0) (h_a_4_1 : ar S 4 1 = 0) (h_a_1_1 : ar S 1 1 = 0) (h_a_3_1 : ar S 3 1 = 0) (h_a_3_3 : ar S 3 3 = 0) (h_a_2_0 : ar S 2 0 = 3) (h_a_0_0 : ar S 0 0 = 0) (h_i_0 : fi S 0 = 0) : Ct l D cy T0 tB tE yX12_kin cX12_kin 5 (some .boolean) 3 65 0 0 (mw cy a S) [.ref (a 0), .int 2, .int 1, .int 0, .int 0] (QI D (U := GS) (fun r u => 1 = r ∧ S = u) (mw cy a)) := by
  refine Ct.ofZ RX12 "kin" [(0, .ref (a 0)), (1, .int 2), (2, .int 1), (3, .int 0), (4, .int 0)] rfl rfl rfl rfl (Nat.le_of_ble_eq_true rfl) ?_
  intro p e R s m args below meth c A b
  refine z_iload_n b dX12_kin_0 rfl rfl ?_
  refine z_calli b (z_runS (As := [.int 2]) (st := []) b (c_X12_isOne_5 S ) cf_X12_isOne wm_X12_170 ws_X12_isOne dX12_kin_1 rfl (Nat.le_of_ble_eq_true rfl) ⟨by decide, by decide, by decide, by decide⟩) (fun r3137 u3138 h3136 => ?_)
  obtain ⟨rfl, rfl⟩ := h3136
  refine z_if_eq_f (tgt := 28) b dX12_kin_4 (by decide) (by decide) ?_
  refine z_iload_n b dX12_kin_7 rfl rfl ?_
  refine z_calli b (z_runS (As := [.int 1]) (st := []) b (c_X12_isOne_4 S ) cf_X12_isOne wm_X12_170 ws_X12_isOne dX12_kin_8 rfl (Nat.le_of_ble_eq_true rfl) ⟨by decide, by decide, by decide, by decide⟩) (fun r3140 u3141 h3139 => ?_)
  obtain ⟨rfl, rfl⟩ := h3139
  refine z_if_eq_f (tgt := 28) b dX12_kin_11 (by decide) (by decide) ?_
  refine z_iload_n b dX12_kin_14 rfl rfl ?_
  refine z_iload_n b dX12_kin_15 rfl rfl ?_
  refine z_icmp_eq_f (tgt := 28) b dX12_kin_16 (by decide) (by decide) ?_
  refine z_iload_n b dX12_kin_19 rfl rfl ?_
  refine z_iconst (v := 0) b dX12_kin_20 (by decide) ?_
  refine z_iconst (v := 1) b dX12_kin_21 (by decide) ?_
  refine z_calli b (z_runS (As := [.int 0, .int 0, .int 1]) (st := []) b (c_X12_isIn_16 S ) cf_X12_isIn wm_X12_1 ws_X12_isIn dX12_kin_22 rfl (Nat.le_of_ble_eq_true rfl) ⟨by decide, by decide, by decide, by decide⟩) (fun r3143 u3144 h3142 => ?_)
  obtain ⟨rfl, rfl⟩ := h3142
  refine z_if_ne_t (tgt := 30) b dX12_kin_25 (by decide) (by decide) ?_
  refine z_aload_n b dX12_kin_30 rfl rfl ?_
  refine z_aload_n b dX12_kin_31 rfl rfl ?_
  refine z_get (q0 := 0) (k9 := 6) (v := .long (fl S 0)) b (mw_0 cy a S) rfl in_X12 (by decide) wf_X12_153 rfl dX12_kin_32 ?_
  refine z_eql h_l_0 ?_
  refine z_callv b (z_runV (q0 := 0) (As := [.long 1649317774848]) (st := []) b (c_X12_takes S h_a_4_7 h_a_1_7 h_a_4_6 h_a_1_6 h_a_3_6 h_a_3_2 h_a_2_2 h_a_0_2 h_a_4_3 h_a_1_3 h_a_4_5 h_a_1_5 h_a_3_5 h_a_3_7 h_a_2_1 h_a_0_1 h_a_4_2 h_a_1_2 h_a_4_1 h_a_1_1 h_a_3_1 h_a_3_3 h_a_2_0 h_a_0_0 h_i_0) cf_X12_takes (mw_0 cy a S) rfl wm_X12_174 wi_X12_takes ws_X12_takes dX12_kin_35 rfl (Nat.le_of_ble_eq_true rfl) ⟨by decide, by decide, by decide, by decide⟩) (fun u3147 h3145 => ?_)
  obtain rfl := h3145
  refine z_iload_n b dX12_kin_38 rfl rfl ?_
  refine z_iconst (v := 1) b dX12_kin_39 (by decide) ?_
  refine z_icmp_ne_t (tgt := 58) b dX12_kin_40 (by decide) (by decide) ?_
  refine z_aload_n b dX12_kin_58 rfl rfl ?_
  refine z_get (q0 := 0) (k9 := 3) (v := .ref (a 4)) b (mw_0 cy a S) rfl in_X12 (by decide) wf_X12_23 rfl dX12_kin_59 ?_
  refine z_iconst (v := 3) b dX12_kin_62 (by decide) ?_
  refine z_iload_n b dX12_kin_63 rfl rfl ?_
  refine z_imul (v := 6) b dX12_kin_64 (by decide) ?_
  refine z_iload_n b dX12_kin_65 rfl rfl ?_
  refine z_iadd (v := 7) b dX12_kin_66 (by decide) ?_
  refine z_iload b dX12_kin_67 rfl ?_
  refine y_zast (q0 := 4) (j := 7) b (mw_4 cy a S) (by decide) (by decide) dX12_kin_69 ((mwa_4 cy a S 7 0).trans (congrArg (mw cy a) (su_same h_a_3_7))) ?_
  refine z_aload_n b dX12_kin_70 rfl rfl ?_
  refine z_get (q0 := 0) (k9 := 3) (v := .ref (a 4)) b (mw_0 cy a S) rfl in_X12 (by decide) wf_X12_23 rfl dX12_kin_71 ?_
  refine z_iconst (v := 3) b dX12_kin_74 (by decide) ?_
  refine z_iload_n b dX12_kin_75 rfl rfl ?_
  refine z_imul (v := 3) b dX12_kin_76 (by decide) ?_
  refine z_iload_n b dX12_kin_77 rfl rfl ?_
  refine z_iadd (v := 5) b dX12_kin_78 (by decide) ?_
  refine z_iload b dX12_kin_79 rfl ?_
  refine y_zast (q0 := 4) (j := 5) b (mw_4 cy a S) (by decide) (by decide) dX12_kin_81 ((mwa_4 cy a S 5 0).trans (congrArg (mw cy a) (su_same h_a_3_5))) ?_
  refine z_aload_n b dX12_kin_82 rfl rfl ?_
  refine z_calli b (z_runV (q0 := 0) (As := []) (st := []) b (c_X12_told_14 S h_i_0 h_a_0_0 h_a_2_0 h_a_3_1 h_a_1_1 h_a_4_1 h_a_1_2 h_a_4_2 h_a_0_1 h_a_2_1 h_a_3_5 h_a_1_5 h_a_4_5 h_a_1_3 h_a_4_3 h_a_0_2 h_a_2_2 h_a_3_6 h_a_1_6 h_a_4_6 h_a_1_7 h_a_4_7 h_l_0) cf_X12_told (mw_0 cy a S) rfl wm_X12_178 wi_X12_told ws_X12_told dX12_kin_83 rfl (Nat.le_of_ble_eq_true rfl) ⟨by decide, by decide, by decide, by decide⟩) (fun r3149 u3150 h3148 => ?_)
  obtain ⟨rfl, rfl⟩ := h3148
  exact z_zret (u := S) b rfl (by decide) dX12_kin_86 ⟨rfl, rfl⟩ rfl (by decide) (by decide)

set_option maxHeartbeats 4000000 in
set_option maxRecDepth 100000 in
theorem c_X11_kin_66 {l : Launch} {D : va_G} {cy : Nat → ClassId} {T0 tB tE : Nat} {a : Nat → Nat} {rw : Nat → Option Nat} (S : GS)  (h_i_24 : fi S 24 = 0) : Ct l D cy T0 tB tE yX11_kin cX11_kin 6 (some .boolean) 2 41 0 0 (cw cy tE a rw S) [.ref (a 0), .int 2, .int 1, .int 0, .int 1] (QI D (U := GS) (fun r u => 1 = r ∧ (su (su S 4 27 1) 4 25 1) = u) (cw cy tE a rw)) := by
  refine Ct.ofZ RX11 "kin" [(0, .ref (a 0)), (1, .int 2), (2, .int 1), (3, .int 0), (4, .int 1)] rfl rfl rfl rfl (Nat.le_of_ble_eq_true rfl) ?_
  intro p e R s m args below meth c A b
  refine z_iload_n b dX11_kin_0 rfl rfl ?_
  refine z_iload_n b dX11_kin_1 rfl rfl ?_
  refine z_calli b (z_runS (As := [.int 2, .int 1]) (st := []) b (c_X11_arePair_17 S ) cf_X11_arePair wm_X11_84 ws_X11_arePair dX11_kin_2 rfl (Nat.le_of_ble_eq_true rfl) ⟨by decide, by decide, by decide, by decide⟩) (fun r3152 u3153 h3151 => ?_)
  obtain ⟨rfl, rfl⟩ := h3151
  refine z_if_eq_f (tgt := 16) b dX11_kin_5 (by decide) (by decide) ?_
  refine z_iload_n b dX11_kin_8 rfl rfl ?_
  refine z_iconst (v := 1) b dX11_kin_9 (by decide) ?_
  refine z_calli b (z_runS (As := [.int 0, .int 1]) (st := []) b (c_X11_isWithin_11 S ) cf_X11_isWithin wm_X11_73 ws_X11_isWithin dX11_kin_10 rfl (Nat.le_of_ble_eq_true rfl) ⟨by decide, by decide, by decide, by decide⟩) (fun r3155 u3156 h3154 => ?_)
  obtain ⟨rfl, rfl⟩ := h3154
  refine z_if_ne_t (tgt := 18) b dX11_kin_13 (by decide) (by decide) ?_
  refine z_iload b dX11_kin_18 rfl ?_
  refine z_if_eq_f (tgt := 27) b dX11_kin_20 (by decide) (by decide) ?_
  refine z_iconst (v := 1) b dX11_kin_23 (by decide) ?_
  refine z_goto (tgt := 28) b dX11_kin_24 (by decide) ?_
  refine z_istore (lv' := [(5, .int 1), (0, .ref (a 0)), (1, .int 2), (2, .int 1), (3, .int 0), (4, .int 1)]) b dX11_kin_28 (by decide) rfl ?_
  refine z_iload_n b dX11_kin_30 rfl rfl ?_
  refine z_if_ne_f (tgt := 71) b dX11_kin_31 (by decide) (by decide) ?_
  refine z_aload_n b dX11_kin_34 rfl rfl ?_
  refine z_get (q0 := 0) (k9 := 4) (v := .ref (a 14)) b (cw_0 cy tE a rw S) rfl in_X11 (by decide) wf_X11_34 rfl dX11_kin_35 ?_
  refine z_bipush (v := 20) b dX11_kin_38 (by decide) ?_
  refine z_iconst (v := 3) b dX11_kin_40 (by decide) ?_
  refine z_iload_n b dX11_kin_41 rfl rfl ?_
  refine z_imul (v := 6) b dX11_kin_42 (by decide) ?_
  refine z_iadd (v := 26) b dX11_kin_43 (by decide) ?_
  refine z_iload_n b dX11_kin_44 rfl rfl ?_
  refine z_iadd (v := 27) b dX11_kin_45 (by decide) ?_
  refine z_iload b dX11_kin_46 rfl ?_
  refine z_callv b (z_runV (q0 := 14) (As := [.int 27, .int 1]) (st := []) b (c_X9_set_31 S ) cf_X9_set (cw_14 cy tE a rw S) rfl wm_X11_77 wi_X9_set ws_X9_set dX11_kin_48 rfl (Nat.le_of_ble_eq_true rfl) ⟨by decide, by decide, by decide, by decide⟩) (fun u3159 h3157 => ?_)
  obtain rfl := h3157
  refine z_aload_n b dX11_kin_51 rfl rfl ?_
  refine z_get (q0 := 0) (k9 := 4) (v := .ref (a 14)) b (cw_0 cy tE a rw (su S 4 27 1)) rfl in_X11 (by decide) wf_X11_34 rfl dX11_kin_52 ?_
  refine z_bipush (v := 20) b dX11_kin_55 (by decide) ?_
  refine z_iconst (v := 3) b dX11_kin_57 (by decide) ?_
  refine z_iload_n b dX11_kin_58 rfl rfl ?_
  refine z_imul (v := 3) b dX11_kin_59 (by decide) ?_
  refine z_iadd (v := 23) b dX11_kin_60 (by decide) ?_
  refine z_iload_n b dX11_kin_61 rfl rfl ?_
  refine z_iadd (v := 25) b dX11_kin_62 (by decide) ?_
  refine z_iload b dX11_kin_63 rfl ?_
  refine z_callv b (z_runV (q0 := 14) (As := [.int 25, .int 1]) (st := []) b (c_X9_set_30 (su S 4 27 1) ) cf_X9_set (cw_14 cy tE a rw (su S 4 27 1)) rfl wm_X11_77 wi_X9_set ws_X9_set dX11_kin_65 rfl (Nat.le_of_ble_eq_true rfl) ⟨by decide, by decide, by decide, by decide⟩) (fun u3162 h3160 => ?_)
  obtain rfl := h3160
  refine z_goto (tgt := 88) b dX11_kin_68 (by decide) ?_
  refine z_aload_n b dX11_kin_88 rfl rfl ?_
  refine z_get (q0 := 0) (k9 := 6) (v := .ref (a 25)) b (cw_0 cy tE a rw (su (su S 4 27 1) 4 25 1)) rfl in_X11 (by decide) wf_X11_52 rfl dX11_kin_89 ?_
  refine z_callv b (z_runV (q0 := 25) (As := []) (st := []) b (c_X8_forget (su (su S 4 27 1) 4 25 1) h_i_24) cf_X8_forget (cw_25 cy tE a rw (su (su S 4 27 1) 4 25 1)) rfl wm_X11_81 wi_X8_forget ws_X8_forget dX11_kin_92 rfl (Nat.le_of_ble_eq_true rfl) ⟨by decide, by decide, by decide, by decide⟩) (fun u3165 h3163 => ?_)
  obtain rfl := h3163
  refine z_iconst (v := 1) b dX11_kin_95 (by decide) ?_
  exact z_zret (u := (su (su S 4 27 1) 4 25 1)) b rfl (by decide) dX11_kin_96 ⟨rfl, rfl⟩ rfl (by decide) (by decide)

set_option maxHeartbeats 4000000 in
set_option maxRecDepth 100000 in
theorem c_X12_kin_66 {l : Launch} {D : va_G} {cy : Nat → ClassId} {T0 tB tE : Nat} {a : Nat → Nat} (S : GS)  (h_l_0 : fl S 0 = 1649317774848) (h_a_4_7 : ar S 4 7 = 0) (h_a_1_7 : ar S 1 7 = 0) (h_a_4_6 : ar S 4 6 = 0) (h_a_1_6 : ar S 1 6 = 0) (h_a_3_6 : ar S 3 6 = 0) (h_a_3_2 : ar S 3 2 = 0) (h_a_2_2 : ar S 2 2 = 3) (h_a_0_2 : ar S 0 2 = 0) (h_a_4_3 : ar S 4 3 = 0) (h_a_1_3 : ar S 1 3 = 0) (h_a_4_5 : ar S 4 5 = 0) (h_a_1_5 : ar S 1 5 = 0) (h_a_3_5 : ar S 3 5 = 0) (h_a_3_7 : ar S 3 7 = 0) (h_a_2_1 : ar S 2 1 = 3) (h_a_0_1 : ar S 0 1 = 0) (h_a_4_2 : ar S 4 2 = 0) (h_a_1_2 : ar S 1 2 = 0) (h_a_4_1 : ar S 4 1 = 0) (h_a_1_1 : ar S 1 1 = 0) (h_a_3_1 : ar S 3 1 = 0) (h_a_3_3 : ar S 3 3 = 0) (h_a_2_0 : ar S 2 0 = 3) (h_a_0_0 : ar S 0 0 = 0) (h_i_0 : fi S 0 = 0) : Ct l D cy T0 tB tE yX12_kin cX12_kin 5 (some .boolean) 3 65 0 0 (mw cy a S) [.ref (a 0), .int 2, .int 1, .int 0, .int 1] (QI D (U := GS) (fun r u => 1 = r ∧ sl (su (su S 3 7 1) 3 5 1) 0 1649326163456 = u) (mw cy a)) := by
  refine Ct.ofZ RX12 "kin" [(0, .ref (a 0)), (1, .int 2), (2, .int 1), (3, .int 0), (4, .int 1)] rfl rfl rfl rfl (Nat.le_of_ble_eq_true rfl) ?_
  intro p e R s m args below meth c A b
  refine z_iload_n b dX12_kin_0 rfl rfl ?_
  refine z_calli b (z_runS (As := [.int 2]) (st := []) b (c_X12_isOne_5 S ) cf_X12_isOne wm_X12_170 ws_X12_isOne dX12_kin_1 rfl (Nat.le_of_ble_eq_true rfl) ⟨by decide, by decide, by decide, by decide⟩) (fun r3167 u3168 h3166 => ?_)
  obtain ⟨rfl, rfl⟩ := h3166
  refine z_if_eq_f (tgt := 28) b dX12_kin_4 (by decide) (by decide) ?_
  refine z_iload_n b dX12_kin_7 rfl rfl ?_
  refine z_calli b (z_runS (As := [.int 1]) (st := []) b (c_X12_isOne_4 S ) cf_X12_isOne wm_X12_170 ws_X12_isOne dX12_kin_8 rfl (Nat.le_of_ble_eq_true rfl) ⟨by decide, by decide, by decide, by decide⟩) (fun r3170 u3171 h3169 => ?_)
  obtain ⟨rfl, rfl⟩ := h3169
  refine z_if_eq_f (tgt := 28) b dX12_kin_11 (by decide) (by decide) ?_
  refine z_iload_n b dX12_kin_14 rfl rfl ?_
  refine z_iload_n b dX12_kin_15 rfl rfl ?_
  refine z_icmp_eq_f (tgt := 28) b dX12_kin_16 (by decide) (by decide) ?_
  refine z_iload_n b dX12_kin_19 rfl rfl ?_
  refine z_iconst (v := 0) b dX12_kin_20 (by decide) ?_
  refine z_iconst (v := 1) b dX12_kin_21 (by decide) ?_
  refine z_calli b (z_runS (As := [.int 0, .int 0, .int 1]) (st := []) b (c_X12_isIn_16 S ) cf_X12_isIn wm_X12_1 ws_X12_isIn dX12_kin_22 rfl (Nat.le_of_ble_eq_true rfl) ⟨by decide, by decide, by decide, by decide⟩) (fun r3173 u3174 h3172 => ?_)
  obtain ⟨rfl, rfl⟩ := h3172
  refine z_if_ne_t (tgt := 30) b dX12_kin_25 (by decide) (by decide) ?_
  refine z_aload_n b dX12_kin_30 rfl rfl ?_
  refine z_aload_n b dX12_kin_31 rfl rfl ?_
  refine z_get (q0 := 0) (k9 := 6) (v := .long (fl S 0)) b (mw_0 cy a S) rfl in_X12 (by decide) wf_X12_153 rfl dX12_kin_32 ?_
  refine z_eql h_l_0 ?_
  refine z_callv b (z_runV (q0 := 0) (As := [.long 1649317774848]) (st := []) b (c_X12_takes S h_a_4_7 h_a_1_7 h_a_4_6 h_a_1_6 h_a_3_6 h_a_3_2 h_a_2_2 h_a_0_2 h_a_4_3 h_a_1_3 h_a_4_5 h_a_1_5 h_a_3_5 h_a_3_7 h_a_2_1 h_a_0_1 h_a_4_2 h_a_1_2 h_a_4_1 h_a_1_1 h_a_3_1 h_a_3_3 h_a_2_0 h_a_0_0 h_i_0) cf_X12_takes (mw_0 cy a S) rfl wm_X12_174 wi_X12_takes ws_X12_takes dX12_kin_35 rfl (Nat.le_of_ble_eq_true rfl) ⟨by decide, by decide, by decide, by decide⟩) (fun u3177 h3175 => ?_)
  obtain rfl := h3175
  refine z_iload_n b dX12_kin_38 rfl rfl ?_
  refine z_iconst (v := 1) b dX12_kin_39 (by decide) ?_
  refine z_icmp_ne_t (tgt := 58) b dX12_kin_40 (by decide) (by decide) ?_
  refine z_aload_n b dX12_kin_58 rfl rfl ?_
  refine z_get (q0 := 0) (k9 := 3) (v := .ref (a 4)) b (mw_0 cy a S) rfl in_X12 (by decide) wf_X12_23 rfl dX12_kin_59 ?_
  refine z_iconst (v := 3) b dX12_kin_62 (by decide) ?_
  refine z_iload_n b dX12_kin_63 rfl rfl ?_
  refine z_imul (v := 6) b dX12_kin_64 (by decide) ?_
  refine z_iload_n b dX12_kin_65 rfl rfl ?_
  refine z_iadd (v := 7) b dX12_kin_66 (by decide) ?_
  refine z_iload b dX12_kin_67 rfl ?_
  refine y_zast (q0 := 4) (j := 7) b (mw_4 cy a S) (by decide) (by decide) dX12_kin_69 (mwa_4 cy a S 7 1) ?_
  refine z_aload_n b dX12_kin_70 rfl rfl ?_
  refine z_get (q0 := 0) (k9 := 3) (v := .ref (a 4)) b (mw_0 cy a (su S 3 7 1)) rfl in_X12 (by decide) wf_X12_23 rfl dX12_kin_71 ?_
  refine z_iconst (v := 3) b dX12_kin_74 (by decide) ?_
  refine z_iload_n b dX12_kin_75 rfl rfl ?_
  refine z_imul (v := 3) b dX12_kin_76 (by decide) ?_
  refine z_iload_n b dX12_kin_77 rfl rfl ?_
  refine z_iadd (v := 5) b dX12_kin_78 (by decide) ?_
  refine z_iload b dX12_kin_79 rfl ?_
  refine y_zast (q0 := 4) (j := 5) b (mw_4 cy a (su S 3 7 1)) (by decide) (by decide) dX12_kin_81 (mwa_4 cy a (su S 3 7 1) 5 1) ?_
  refine z_aload_n b dX12_kin_82 rfl rfl ?_
  refine z_calli b (z_runV (q0 := 0) (As := []) (st := []) b (c_X12_told_20 (su (su S 3 7 1) 3 5 1) h_i_0 h_a_0_0 h_a_2_0 h_a_3_1 h_a_1_1 h_a_4_1 h_a_1_2 h_a_4_2 h_a_0_1 h_a_2_1 rfl h_a_1_5 h_a_4_5 h_a_1_3 h_a_4_3 h_a_0_2 h_a_2_2 h_a_3_6 h_a_1_6 h_a_4_6 h_a_1_7 h_a_4_7) cf_X12_told (mw_0 cy a (su (su S 3 7 1) 3 5 1)) rfl wm_X12_178 wi_X12_told ws_X12_told dX12_kin_83 rfl (Nat.le_of_ble_eq_true rfl) ⟨by decide, by decide, by decide, by decide⟩) (fun r3179 u3180 h3178 => ?_)
  obtain ⟨rfl, rfl⟩ := h3178
  exact z_zret (u := (sl (su (su S 3 7 1) 3 5 1) 0 1649326163456)) b rfl (by decide) dX12_kin_86 ⟨rfl, rfl⟩ rfl (by decide) (by decide)

set_option maxHeartbeats 4000000 in
set_option maxRecDepth 100000 in
theorem c_X9_set_36 {l : Launch} {D : va_G} {cy : Nat → ClassId} {T0 tB tE : Nat} {a : Nat → Nat} {rw : Nat → Option Nat} (S : GS)  (h_a_4_37 : ar S 4 37 = 0) : Ct l D cy T0 tB tE yX9_set cX9_set 3 none 0 0 0 0 (cw cy tE a rw S) [.ref (a 14), .int 37, .int 0] (QV D (U := GS) (fun u => S = u) (cw cy tE a rw)) := by
  refine Ct.ofZ RX9 "set" [(0, .ref (a 14)), (1, .int 37), (2, .int 0)] rfl rfl rfl rfl (Nat.le_of_ble_eq_true rfl) ?_
  intro p e R s m args below meth c A b
  refine z_iload_n b dX9_set_0 rfl rfl ?_
  refine z_if_lt_f (tgt := 20) b dX9_set_1 (by decide) (by decide) ?_
  refine z_iload_n b dX9_set_4 rfl rfl ?_
  refine z_aload_n b dX9_set_5 rfl rfl ?_
  refine z_get (q0 := 14) (k9 := 0) (v := .ref (a 15)) b (cw_14 cy tE a rw S) rfl in_X9 (by decide) wf_X9_11 rfl dX9_set_6 ?_
  refine z_alen (q0 := 15) (t0 := 0) (v := 51) b (cw_15 cy tE a rw S) rfl rfl dX9_set_9 ?_
  refine z_icmp_ge_f (tgt := 20) b dX9_set_10 (by decide) (by decide) ?_
  refine z_aload_n b dX9_set_13 rfl rfl ?_
  refine z_get (q0 := 14) (k9 := 0) (v := .ref (a 15)) b (cw_14 cy tE a rw S) rfl in_X9 (by decide) wf_X9_11 rfl dX9_set_14 ?_
  refine z_iload_n b dX9_set_17 rfl rfl ?_
  refine z_iload_n b dX9_set_18 rfl rfl ?_
  refine y_iast (q0 := 15) (j := 37) b (cw_15 cy tE a rw S) (by decide) dX9_set_19 ((cwa_15 cy tE a rw S 37 0).trans (congrArg (cw cy tE a rw) (su_same h_a_4_37))) ?_
  exact z_vret (u := S) b rfl dX9_set_20 rfl rfl (by decide) (by decide)

set_option maxHeartbeats 4000000 in
set_option maxRecDepth 100000 in
theorem c_X11_kin_67 {l : Launch} {D : va_G} {cy : Nat → ClassId} {T0 tB tE : Nat} {a : Nat → Nat} {rw : Nat → Option Nat} (S : GS)  (h_a_4_37 : ar S 4 37 = 0) (h_i_24 : fi S 24 = 0) : Ct l D cy T0 tB tE yX11_kin cX11_kin 6 (some .boolean) 2 41 0 0 (cw cy tE a rw S) [.ref (a 0), .int 2, .int 1, .int 1, .int 0] (QI D (U := GS) (fun r u => 1 = r ∧ S = u) (cw cy tE a rw)) := by
  refine Ct.ofZ RX11 "kin" [(0, .ref (a 0)), (1, .int 2), (2, .int 1), (3, .int 1), (4, .int 0)] rfl rfl rfl rfl (Nat.le_of_ble_eq_true rfl) ?_
  intro p e R s m args below meth c A b
  refine z_iload_n b dX11_kin_0 rfl rfl ?_
  refine z_iload_n b dX11_kin_1 rfl rfl ?_
  refine z_calli b (z_runS (As := [.int 2, .int 1]) (st := []) b (c_X11_arePair_17 S ) cf_X11_arePair wm_X11_84 ws_X11_arePair dX11_kin_2 rfl (Nat.le_of_ble_eq_true rfl) ⟨by decide, by decide, by decide, by decide⟩) (fun r3182 u3183 h3181 => ?_)
  obtain ⟨rfl, rfl⟩ := h3181
  refine z_if_eq_f (tgt := 16) b dX11_kin_5 (by decide) (by decide) ?_
  refine z_iload_n b dX11_kin_8 rfl rfl ?_
  refine z_iconst (v := 1) b dX11_kin_9 (by decide) ?_
  refine z_calli b (z_runS (As := [.int 1, .int 1]) (st := []) b (c_X11_isWithin_12 S ) cf_X11_isWithin wm_X11_73 ws_X11_isWithin dX11_kin_10 rfl (Nat.le_of_ble_eq_true rfl) ⟨by decide, by decide, by decide, by decide⟩) (fun r3185 u3186 h3184 => ?_)
  obtain ⟨rfl, rfl⟩ := h3184
  refine z_if_ne_t (tgt := 18) b dX11_kin_13 (by decide) (by decide) ?_
  refine z_iload b dX11_kin_18 rfl ?_
  refine z_if_eq_t (tgt := 27) b dX11_kin_20 (by decide) (by decide) ?_
  refine z_iconst (v := 0) b dX11_kin_27 (by decide) ?_
  refine z_istore (lv' := [(5, .int 0), (0, .ref (a 0)), (1, .int 2), (2, .int 1), (3, .int 1), (4, .int 0)]) b dX11_kin_28 (by decide) rfl ?_
  refine z_iload_n b dX11_kin_30 rfl rfl ?_
  refine z_if_ne_t (tgt := 71) b dX11_kin_31 (by decide) (by decide) ?_
  refine z_aload_n b dX11_kin_71 rfl rfl ?_
  refine z_get (q0 := 0) (k9 := 4) (v := .ref (a 14)) b (cw_0 cy tE a rw S) rfl in_X11 (by decide) wf_X11_34 rfl dX11_kin_72 ?_
  refine z_bipush (v := 30) b dX11_kin_75 (by decide) ?_
  refine z_iconst (v := 3) b dX11_kin_77 (by decide) ?_
  refine z_iload_n b dX11_kin_78 rfl rfl ?_
  refine z_imul (v := 6) b dX11_kin_79 (by decide) ?_
  refine z_iadd (v := 36) b dX11_kin_80 (by decide) ?_
  refine z_iload_n b dX11_kin_81 rfl rfl ?_
  refine z_iadd (v := 37) b dX11_kin_82 (by decide) ?_
  refine z_iload b dX11_kin_83 rfl ?_
  refine z_callv b (z_runV (q0 := 14) (As := [.int 37, .int 0]) (st := []) b (c_X9_set_36 S h_a_4_37) cf_X9_set (cw_14 cy tE a rw S) rfl wm_X11_77 wi_X9_set ws_X9_set dX11_kin_85 rfl (Nat.le_of_ble_eq_true rfl) ⟨by decide, by decide, by decide, by decide⟩) (fun u3189 h3187 => ?_)
  obtain rfl := h3187
  refine z_aload_n b dX11_kin_88 rfl rfl ?_
  refine z_get (q0 := 0) (k9 := 6) (v := .ref (a 25)) b (cw_0 cy tE a rw S) rfl in_X11 (by decide) wf_X11_52 rfl dX11_kin_89 ?_
  refine z_callv b (z_runV (q0 := 25) (As := []) (st := []) b (c_X8_forget S h_i_24) cf_X8_forget (cw_25 cy tE a rw S) rfl wm_X11_81 wi_X8_forget ws_X8_forget dX11_kin_92 rfl (Nat.le_of_ble_eq_true rfl) ⟨by decide, by decide, by decide, by decide⟩) (fun u3192 h3190 => ?_)
  obtain rfl := h3190
  refine z_iconst (v := 1) b dX11_kin_95 (by decide) ?_
  exact z_zret (u := S) b rfl (by decide) dX11_kin_96 ⟨rfl, rfl⟩ rfl (by decide) (by decide)

set_option maxHeartbeats 4000000 in
set_option maxRecDepth 100000 in
theorem c_X12_kin_67 {l : Launch} {D : va_G} {cy : Nat → ClassId} {T0 tB tE : Nat} {a : Nat → Nat} (S : GS)  (h_l_0 : fl S 0 = 1649317774848) (h_a_4_7 : ar S 4 7 = 0) (h_a_1_7 : ar S 1 7 = 0) (h_a_4_6 : ar S 4 6 = 0) (h_a_1_6 : ar S 1 6 = 0) (h_a_3_6 : ar S 3 6 = 0) (h_a_3_2 : ar S 3 2 = 0) (h_a_2_2 : ar S 2 2 = 3) (h_a_0_2 : ar S 0 2 = 0) (h_a_4_3 : ar S 4 3 = 0) (h_a_1_3 : ar S 1 3 = 0) (h_a_4_5 : ar S 4 5 = 0) (h_a_1_5 : ar S 1 5 = 0) (h_a_3_5 : ar S 3 5 = 0) (h_a_3_7 : ar S 3 7 = 0) (h_a_2_1 : ar S 2 1 = 3) (h_a_0_1 : ar S 0 1 = 0) (h_a_4_2 : ar S 4 2 = 0) (h_a_1_2 : ar S 1 2 = 0) (h_a_4_1 : ar S 4 1 = 0) (h_a_1_1 : ar S 1 1 = 0) (h_a_3_1 : ar S 3 1 = 0) (h_a_3_3 : ar S 3 3 = 0) (h_a_2_0 : ar S 2 0 = 3) (h_a_0_0 : ar S 0 0 = 0) (h_i_0 : fi S 0 = 0) : Ct l D cy T0 tB tE yX12_kin cX12_kin 5 (some .boolean) 3 65 0 0 (mw cy a S) [.ref (a 0), .int 2, .int 1, .int 1, .int 0] (QI D (U := GS) (fun r u => 1 = r ∧ S = u) (mw cy a)) := by
  refine Ct.ofZ RX12 "kin" [(0, .ref (a 0)), (1, .int 2), (2, .int 1), (3, .int 1), (4, .int 0)] rfl rfl rfl rfl (Nat.le_of_ble_eq_true rfl) ?_
  intro p e R s m args below meth c A b
  refine z_iload_n b dX12_kin_0 rfl rfl ?_
  refine z_calli b (z_runS (As := [.int 2]) (st := []) b (c_X12_isOne_5 S ) cf_X12_isOne wm_X12_170 ws_X12_isOne dX12_kin_1 rfl (Nat.le_of_ble_eq_true rfl) ⟨by decide, by decide, by decide, by decide⟩) (fun r3194 u3195 h3193 => ?_)
  obtain ⟨rfl, rfl⟩ := h3193
  refine z_if_eq_f (tgt := 28) b dX12_kin_4 (by decide) (by decide) ?_
  refine z_iload_n b dX12_kin_7 rfl rfl ?_
  refine z_calli b (z_runS (As := [.int 1]) (st := []) b (c_X12_isOne_4 S ) cf_X12_isOne wm_X12_170 ws_X12_isOne dX12_kin_8 rfl (Nat.le_of_ble_eq_true rfl) ⟨by decide, by decide, by decide, by decide⟩) (fun r3197 u3198 h3196 => ?_)
  obtain ⟨rfl, rfl⟩ := h3196
  refine z_if_eq_f (tgt := 28) b dX12_kin_11 (by decide) (by decide) ?_
  refine z_iload_n b dX12_kin_14 rfl rfl ?_
  refine z_iload_n b dX12_kin_15 rfl rfl ?_
  refine z_icmp_eq_f (tgt := 28) b dX12_kin_16 (by decide) (by decide) ?_
  refine z_iload_n b dX12_kin_19 rfl rfl ?_
  refine z_iconst (v := 0) b dX12_kin_20 (by decide) ?_
  refine z_iconst (v := 1) b dX12_kin_21 (by decide) ?_
  refine z_calli b (z_runS (As := [.int 1, .int 0, .int 1]) (st := []) b (c_X12_isIn_17 S ) cf_X12_isIn wm_X12_1 ws_X12_isIn dX12_kin_22 rfl (Nat.le_of_ble_eq_true rfl) ⟨by decide, by decide, by decide, by decide⟩) (fun r3200 u3201 h3199 => ?_)
  obtain ⟨rfl, rfl⟩ := h3199
  refine z_if_ne_t (tgt := 30) b dX12_kin_25 (by decide) (by decide) ?_
  refine z_aload_n b dX12_kin_30 rfl rfl ?_
  refine z_aload_n b dX12_kin_31 rfl rfl ?_
  refine z_get (q0 := 0) (k9 := 6) (v := .long (fl S 0)) b (mw_0 cy a S) rfl in_X12 (by decide) wf_X12_153 rfl dX12_kin_32 ?_
  refine z_eql h_l_0 ?_
  refine z_callv b (z_runV (q0 := 0) (As := [.long 1649317774848]) (st := []) b (c_X12_takes S h_a_4_7 h_a_1_7 h_a_4_6 h_a_1_6 h_a_3_6 h_a_3_2 h_a_2_2 h_a_0_2 h_a_4_3 h_a_1_3 h_a_4_5 h_a_1_5 h_a_3_5 h_a_3_7 h_a_2_1 h_a_0_1 h_a_4_2 h_a_1_2 h_a_4_1 h_a_1_1 h_a_3_1 h_a_3_3 h_a_2_0 h_a_0_0 h_i_0) cf_X12_takes (mw_0 cy a S) rfl wm_X12_174 wi_X12_takes ws_X12_takes dX12_kin_35 rfl (Nat.le_of_ble_eq_true rfl) ⟨by decide, by decide, by decide, by decide⟩) (fun u3204 h3202 => ?_)
  obtain rfl := h3202
  refine z_iload_n b dX12_kin_38 rfl rfl ?_
  refine z_iconst (v := 1) b dX12_kin_39 (by decide) ?_
  refine z_icmp_ne_f (tgt := 58) b dX12_kin_40 (by decide) (by decide) ?_
  refine z_aload_n b dX12_kin_43 rfl rfl ?_
  refine z_get (q0 := 0) (k9 := 4) (v := .ref (a 5)) b (mw_0 cy a S) rfl in_X12 (by decide) wf_X12_27 rfl dX12_kin_44 ?_
  refine z_iconst (v := 3) b dX12_kin_47 (by decide) ?_
  refine z_iload_n b dX12_kin_48 rfl rfl ?_
  refine z_imul (v := 6) b dX12_kin_49 (by decide) ?_
  refine z_iload_n b dX12_kin_50 rfl rfl ?_
  refine z_iadd (v := 7) b dX12_kin_51 (by decide) ?_
  refine z_iload b dX12_kin_52 rfl ?_
  refine y_zast (q0 := 5) (j := 7) b (mw_5 cy a S) (by decide) (by decide) dX12_kin_54 ((mwa_5 cy a S 7 0).trans (congrArg (mw cy a) (su_same h_a_4_7))) ?_
  refine z_goto (tgt := 82) b dX12_kin_55 (by decide) ?_
  refine z_aload_n b dX12_kin_82 rfl rfl ?_
  refine z_calli b (z_runV (q0 := 0) (As := []) (st := []) b (c_X12_told_14 S h_i_0 h_a_0_0 h_a_2_0 h_a_3_1 h_a_1_1 h_a_4_1 h_a_1_2 h_a_4_2 h_a_0_1 h_a_2_1 h_a_3_5 h_a_1_5 h_a_4_5 h_a_1_3 h_a_4_3 h_a_0_2 h_a_2_2 h_a_3_6 h_a_1_6 h_a_4_6 h_a_1_7 h_a_4_7 h_l_0) cf_X12_told (mw_0 cy a S) rfl wm_X12_178 wi_X12_told ws_X12_told dX12_kin_83 rfl (Nat.le_of_ble_eq_true rfl) ⟨by decide, by decide, by decide, by decide⟩) (fun r3206 u3207 h3205 => ?_)
  obtain ⟨rfl, rfl⟩ := h3205
  exact z_zret (u := S) b rfl (by decide) dX12_kin_86 ⟨rfl, rfl⟩ rfl (by decide) (by decide)

set_option maxHeartbeats 4000000 in
set_option maxRecDepth 100000 in
theorem c_X9_set_37 {l : Launch} {D : va_G} {cy : Nat → ClassId} {T0 tB tE : Nat} {a : Nat → Nat} {rw : Nat → Option Nat} (S : GS)   : Ct l D cy T0 tB tE yX9_set cX9_set 3 none 0 0 0 0 (cw cy tE a rw S) [.ref (a 14), .int 37, .int 1] (QV D (U := GS) (fun u => su S 4 37 1 = u) (cw cy tE a rw)) := by
  refine Ct.ofZ RX9 "set" [(0, .ref (a 14)), (1, .int 37), (2, .int 1)] rfl rfl rfl rfl (Nat.le_of_ble_eq_true rfl) ?_
  intro p e R s m args below meth c A b
  refine z_iload_n b dX9_set_0 rfl rfl ?_
  refine z_if_lt_f (tgt := 20) b dX9_set_1 (by decide) (by decide) ?_
  refine z_iload_n b dX9_set_4 rfl rfl ?_
  refine z_aload_n b dX9_set_5 rfl rfl ?_
  refine z_get (q0 := 14) (k9 := 0) (v := .ref (a 15)) b (cw_14 cy tE a rw S) rfl in_X9 (by decide) wf_X9_11 rfl dX9_set_6 ?_
  refine z_alen (q0 := 15) (t0 := 0) (v := 51) b (cw_15 cy tE a rw S) rfl rfl dX9_set_9 ?_
  refine z_icmp_ge_f (tgt := 20) b dX9_set_10 (by decide) (by decide) ?_
  refine z_aload_n b dX9_set_13 rfl rfl ?_
  refine z_get (q0 := 14) (k9 := 0) (v := .ref (a 15)) b (cw_14 cy tE a rw S) rfl in_X9 (by decide) wf_X9_11 rfl dX9_set_14 ?_
  refine z_iload_n b dX9_set_17 rfl rfl ?_
  refine z_iload_n b dX9_set_18 rfl rfl ?_
  refine y_iast (q0 := 15) (j := 37) b (cw_15 cy tE a rw S) (by decide) dX9_set_19 (cwa_15 cy tE a rw S 37 1) ?_
  exact z_vret (u := (su S 4 37 1)) b rfl dX9_set_20 rfl rfl (by decide) (by decide)

set_option maxHeartbeats 4000000 in
set_option maxRecDepth 100000 in
theorem c_X11_kin_68 {l : Launch} {D : va_G} {cy : Nat → ClassId} {T0 tB tE : Nat} {a : Nat → Nat} {rw : Nat → Option Nat} (S : GS)  (h_i_24 : fi S 24 = 0) : Ct l D cy T0 tB tE yX11_kin cX11_kin 6 (some .boolean) 2 41 0 0 (cw cy tE a rw S) [.ref (a 0), .int 2, .int 1, .int 1, .int 1] (QI D (U := GS) (fun r u => 1 = r ∧ (su S 4 37 1) = u) (cw cy tE a rw)) := by
  refine Ct.ofZ RX11 "kin" [(0, .ref (a 0)), (1, .int 2), (2, .int 1), (3, .int 1), (4, .int 1)] rfl rfl rfl rfl (Nat.le_of_ble_eq_true rfl) ?_
  intro p e R s m args below meth c A b
  refine z_iload_n b dX11_kin_0 rfl rfl ?_
  refine z_iload_n b dX11_kin_1 rfl rfl ?_
  refine z_calli b (z_runS (As := [.int 2, .int 1]) (st := []) b (c_X11_arePair_17 S ) cf_X11_arePair wm_X11_84 ws_X11_arePair dX11_kin_2 rfl (Nat.le_of_ble_eq_true rfl) ⟨by decide, by decide, by decide, by decide⟩) (fun r3209 u3210 h3208 => ?_)
  obtain ⟨rfl, rfl⟩ := h3208
  refine z_if_eq_f (tgt := 16) b dX11_kin_5 (by decide) (by decide) ?_
  refine z_iload_n b dX11_kin_8 rfl rfl ?_
  refine z_iconst (v := 1) b dX11_kin_9 (by decide) ?_
  refine z_calli b (z_runS (As := [.int 1, .int 1]) (st := []) b (c_X11_isWithin_12 S ) cf_X11_isWithin wm_X11_73 ws_X11_isWithin dX11_kin_10 rfl (Nat.le_of_ble_eq_true rfl) ⟨by decide, by decide, by decide, by decide⟩) (fun r3212 u3213 h3211 => ?_)
  obtain ⟨rfl, rfl⟩ := h3211
  refine z_if_ne_t (tgt := 18) b dX11_kin_13 (by decide) (by decide) ?_
  refine z_iload b dX11_kin_18 rfl ?_
  refine z_if_eq_f (tgt := 27) b dX11_kin_20 (by decide) (by decide) ?_
  refine z_iconst (v := 1) b dX11_kin_23 (by decide) ?_
  refine z_goto (tgt := 28) b dX11_kin_24 (by decide) ?_
  refine z_istore (lv' := [(5, .int 1), (0, .ref (a 0)), (1, .int 2), (2, .int 1), (3, .int 1), (4, .int 1)]) b dX11_kin_28 (by decide) rfl ?_
  refine z_iload_n b dX11_kin_30 rfl rfl ?_
  refine z_if_ne_t (tgt := 71) b dX11_kin_31 (by decide) (by decide) ?_
  refine z_aload_n b dX11_kin_71 rfl rfl ?_
  refine z_get (q0 := 0) (k9 := 4) (v := .ref (a 14)) b (cw_0 cy tE a rw S) rfl in_X11 (by decide) wf_X11_34 rfl dX11_kin_72 ?_
  refine z_bipush (v := 30) b dX11_kin_75 (by decide) ?_
  refine z_iconst (v := 3) b dX11_kin_77 (by decide) ?_
  refine z_iload_n b dX11_kin_78 rfl rfl ?_
  refine z_imul (v := 6) b dX11_kin_79 (by decide) ?_
  refine z_iadd (v := 36) b dX11_kin_80 (by decide) ?_
  refine z_iload_n b dX11_kin_81 rfl rfl ?_
  refine z_iadd (v := 37) b dX11_kin_82 (by decide) ?_
  refine z_iload b dX11_kin_83 rfl ?_
  refine z_callv b (z_runV (q0 := 14) (As := [.int 37, .int 1]) (st := []) b (c_X9_set_37 S ) cf_X9_set (cw_14 cy tE a rw S) rfl wm_X11_77 wi_X9_set ws_X9_set dX11_kin_85 rfl (Nat.le_of_ble_eq_true rfl) ⟨by decide, by decide, by decide, by decide⟩) (fun u3216 h3214 => ?_)
  obtain rfl := h3214
  refine z_aload_n b dX11_kin_88 rfl rfl ?_
  refine z_get (q0 := 0) (k9 := 6) (v := .ref (a 25)) b (cw_0 cy tE a rw (su S 4 37 1)) rfl in_X11 (by decide) wf_X11_52 rfl dX11_kin_89 ?_
  refine z_callv b (z_runV (q0 := 25) (As := []) (st := []) b (c_X8_forget (su S 4 37 1) h_i_24) cf_X8_forget (cw_25 cy tE a rw (su S 4 37 1)) rfl wm_X11_81 wi_X8_forget ws_X8_forget dX11_kin_92 rfl (Nat.le_of_ble_eq_true rfl) ⟨by decide, by decide, by decide, by decide⟩) (fun u3219 h3217 => ?_)
  obtain rfl := h3217
  refine z_iconst (v := 1) b dX11_kin_95 (by decide) ?_
  exact z_zret (u := (su S 4 37 1)) b rfl (by decide) dX11_kin_96 ⟨rfl, rfl⟩ rfl (by decide) (by decide)

set_option maxHeartbeats 4000000 in
set_option maxRecDepth 100000 in
theorem ch_X12_packs_48 {p : Program} {l : Launch} {e : Env} {R : Room} {s : State} {m : MethodId} {args : Array Value} {below : List Frame} {meth : Method} {c : Code} {D : va_G} {cy : Nat → ClassId} {T0 tB tE : Nat} {A : Nat → Prop} {Q : State → Prop} {a : Nat → Nat} (S : GS)  (h_a_0_0 : ar S 0 0 = 0) (h_a_1_1 : ar S 1 1 = 0) (h_a_1_2 : ar S 1 2 = 0) (h_a_2_0 : ar S 2 0 = 3) (h_a_3_1 : ar S 3 1 = 0) (h_a_4_1 : ar S 4 1 = 0) (h_a_4_2 : ar S 4 2 = 0) (h_i_0 : fi S 0 = 0) (b : Bz p R s m args meth c D cy T0 tB tE A 5 cX12_packs RX12 (some .long) "packs" 1 21 0 0) (k : Z p l e R s m args below meth c D A 5 Q 0 0 (mw cy a S) [(3, .int 1), (4, .int 2), (1, .long 1536), (0, .ref (a 0))] 21 [.int 1, .ref (a 1), .long 24576]) : Z p l e R s m args below meth c D A 5 Q 0 0 (mw cy a S) [(0, .ref (a 0))] 0 [] := by
  refine z_aload_n b dX12_packs_0 rfl rfl ?_
  refine z_get (q0 := 0) (k9 := 5) (v := .int (fi S 0)) b (mw_0 cy a S) rfl in_X12 (by decide) wf_X12_157 rfl dX12_packs_1 ?_
  refine z_eqi h_i_0 ?_
  refine z_i2l (v := 0) b dX12_packs_4 (by decide) ?_
  refine z_lstore_n (lv' := [(1, .long 0), (0, .ref (a 0))]) b dX12_packs_5 rfl (by decide) rfl ?_
  refine z_iconst (v := 0) b dX12_packs_6 (by decide) ?_
  refine z_istore_n (lv' := [(3, .int 0), (1, .long 0), (0, .ref (a 0))]) b dX12_packs_7 rfl (by decide) rfl ?_
  refine z_iload_n b dX12_packs_8 rfl rfl ?_
  refine z_iconst (v := 3) b dX12_packs_9 (by decide) ?_
  refine z_icmp_ge_f (tgt := 134) b dX12_packs_10 (by decide) (by decide) ?_
  refine z_lload_n b dX12_packs_13 rfl rfl ?_
  refine z_iconst (v := 4) b dX12_packs_14 (by decide) ?_
  refine z_lshl (v := 0) b dX12_packs_15 (by decide) ?_
  refine z_aload_n b dX12_packs_16 rfl rfl ?_
  refine z_get (q0 := 0) (k9 := 0) (v := .ref (a 1)) b (mw_0 cy a S) rfl in_X12 (by decide) wf_X12_13 rfl dX12_packs_17 ?_
  refine z_iload_n b dX12_packs_20 rfl rfl ?_
  refine y_iald (q0 := 1) (j := 0) (v := (ar S 0 0)) b (mw_1 cy a S) (by decide) rfl dX12_packs_21 ?_
  refine z_eqi h_a_0_0 ?_
  refine z_i2l (v := 0) b dX12_packs_22 (by decide) ?_
  refine z_lor (v := 0) b dX12_packs_23 (by decide) ?_
  refine z_lstore_n (lv' := [(1, .long 0), (3, .int 0), (0, .ref (a 0))]) b dX12_packs_24 rfl (by decide) rfl ?_
  refine z_lload_n b dX12_packs_25 rfl rfl ?_
  refine z_iconst (v := 2) b dX12_packs_26 (by decide) ?_
  refine z_lshl (v := 0) b dX12_packs_27 (by decide) ?_
  refine z_aload_n b dX12_packs_28 rfl rfl ?_
  refine z_get (q0 := 0) (k9 := 2) (v := .ref (a 3)) b (mw_0 cy a S) rfl in_X12 (by decide) wf_X12_20 rfl dX12_packs_29 ?_
  refine z_iload_n b dX12_packs_32 rfl rfl ?_
  refine y_iald (q0 := 3) (j := 0) (v := (ar S 2 0)) b (mw_3 cy a S) (by decide) rfl dX12_packs_33 ?_
  refine z_eqi h_a_2_0 ?_
  refine z_i2l (v := 3) b dX12_packs_34 (by decide) ?_
  refine z_lor (v := 3) b dX12_packs_35 (by decide) ?_
  refine z_lstore_n (lv' := [(1, .long 3), (3, .int 0), (0, .ref (a 0))]) b dX12_packs_36 rfl (by decide) rfl ?_
  refine z_lload_n b dX12_packs_37 rfl rfl ?_
  refine z_iconst (v := 1) b dX12_packs_38 (by decide) ?_
  refine z_lshl (v := 6) b dX12_packs_39 (by decide) ?_
  refine z_aload_n b dX12_packs_40 rfl rfl ?_
  refine z_get (q0 := 0) (k9 := 3) (v := .ref (a 4)) b (mw_0 cy a S) rfl in_X12 (by decide) wf_X12_23 rfl dX12_packs_41 ?_
  refine z_iconst (v := 3) b dX12_packs_44 (by decide) ?_
  refine z_iload_n b dX12_packs_45 rfl rfl ?_
  refine z_imul (v := 0) b dX12_packs_46 (by decide) ?_
  refine z_iload_n b dX12_packs_47 rfl rfl ?_
  refine z_iconst (v := 0) b dX12_packs_48 (by decide) ?_
  refine z_calli b (z_runS (As := [.int 0, .int 0]) (st := [.int 0, .ref (a 4), .long 6]) b (c_X12_other_6 S ) cf_X12_other wm_X12_160 ws_X12_other dX12_packs_49 rfl (Nat.le_of_ble_eq_true rfl) ⟨by decide, by decide, by decide, by decide⟩) (fun r3233 u3234 h3232 => ?_)
  obtain ⟨rfl, rfl⟩ := h3232
  refine z_iadd (v := 1) b dX12_packs_52 (by decide) ?_
  refine y_zald (q0 := 4) (j := 1) (v := (ar S 3 1)) b (mw_4 cy a S) (by decide) rfl dX12_packs_53 ?_
  refine z_eqi h_a_3_1 ?_
  refine z_if_eq_t (tgt := 61) b dX12_packs_54 (by decide) (by decide) ?_
  refine z_lconst (v := 0) b dX12_packs_61 (by decide) ?_
  refine z_lor (v := 6) b dX12_packs_62 (by decide) ?_
  refine z_lstore_n (lv' := [(1, .long 6), (3, .int 0), (0, .ref (a 0))]) b dX12_packs_63 rfl (by decide) rfl ?_
  refine z_iconst (v := 0) b dX12_packs_64 (by decide) ?_
  refine z_istore (lv' := [(4, .int 0), (1, .long 6), (3, .int 0), (0, .ref (a 0))]) b dX12_packs_65 (by decide) rfl ?_
  refine z_iload b dX12_packs_67 rfl ?_
  refine z_iconst (v := 2) b dX12_packs_69 (by decide) ?_
  refine z_icmp_ge_f (tgt := 128) b dX12_packs_70 (by decide) (by decide) ?_
  refine z_lload_n b dX12_packs_73 rfl rfl ?_
  refine z_iconst (v := 3) b dX12_packs_74 (by decide) ?_
  refine z_lshl (v := 48) b dX12_packs_75 (by decide) ?_
  refine z_aload_n b dX12_packs_76 rfl rfl ?_
  refine z_get (q0 := 0) (k9 := 1) (v := .ref (a 2)) b (mw_0 cy a S) rfl in_X12 (by decide) wf_X12_17 rfl dX12_packs_77 ?_
  refine z_iconst (v := 3) b dX12_packs_80 (by decide) ?_
  refine z_iload_n b dX12_packs_81 rfl rfl ?_
  refine z_imul (v := 0) b dX12_packs_82 (by decide) ?_
  refine z_iload_n b dX12_packs_83 rfl rfl ?_
  refine z_iload b dX12_packs_84 rfl ?_
  refine z_calli b (z_runS (As := [.int 0, .int 0]) (st := [.int 0, .ref (a 2), .long 48]) b (c_X12_other_6 S ) cf_X12_other wm_X12_160 ws_X12_other dX12_packs_86 rfl (Nat.le_of_ble_eq_true rfl) ⟨by decide, by decide, by decide, by decide⟩) (fun r3236 u3237 h3235 => ?_)
  obtain ⟨rfl, rfl⟩ := h3235
  refine z_iadd (v := 1) b dX12_packs_89 (by decide) ?_
  refine y_iald (q0 := 2) (j := 1) (v := (ar S 1 1)) b (mw_2 cy a S) (by decide) rfl dX12_packs_90 ?_
  refine z_eqi h_a_1_1 ?_
  refine z_i2l (v := 0) b dX12_packs_91 (by decide) ?_
  refine z_lor (v := 48) b dX12_packs_92 (by decide) ?_
  refine z_lstore_n (lv' := [(1, .long 48), (4, .int 0), (3, .int 0), (0, .ref (a 0))]) b dX12_packs_93 rfl (by decide) rfl ?_
  refine z_lload_n b dX12_packs_94 rfl rfl ?_
  refine z_iconst (v := 1) b dX12_packs_95 (by decide) ?_
  refine z_lshl (v := 96) b dX12_packs_96 (by decide) ?_
  refine z_aload_n b dX12_packs_97 rfl rfl ?_
  refine z_get (q0 := 0) (k9 := 4) (v := .ref (a 5)) b (mw_0 cy a S) rfl in_X12 (by decide) wf_X12_27 rfl dX12_packs_98 ?_
  refine z_iconst (v := 3) b dX12_packs_101 (by decide) ?_
  refine z_iload_n b dX12_packs_102 rfl rfl ?_
  refine z_imul (v := 0) b dX12_packs_103 (by decide) ?_
  refine z_iload_n b dX12_packs_104 rfl rfl ?_
  refine z_iload b dX12_packs_105 rfl ?_
  refine z_calli b (z_runS (As := [.int 0, .int 0]) (st := [.int 0, .ref (a 5), .long 96]) b (c_X12_other_6 S ) cf_X12_other wm_X12_160 ws_X12_other dX12_packs_107 rfl (Nat.le_of_ble_eq_true rfl) ⟨by decide, by decide, by decide, by decide⟩) (fun r3239 u3240 h3238 => ?_)
  obtain ⟨rfl, rfl⟩ := h3238
  refine z_iadd (v := 1) b dX12_packs_110 (by decide) ?_
  refine y_zald (q0 := 5) (j := 1) (v := (ar S 4 1)) b (mw_5 cy a S) (by decide) rfl dX12_packs_111 ?_
  refine z_eqi h_a_4_1 ?_
  refine z_if_eq_t (tgt := 119) b dX12_packs_112 (by decide) (by decide) ?_
  refine z_lconst (v := 0) b dX12_packs_119 (by decide) ?_
  refine z_lor (v := 96) b dX12_packs_120 (by decide) ?_
  refine z_lstore_n (lv' := [(1, .long 96), (4, .int 0), (3, .int 0), (0, .ref (a 0))]) b dX12_packs_121 rfl (by decide) rfl ?_
  refine z_iinc (k9 := 1) (v := 1) (lv' := [(4, .int 1), (1, .long 96), (3, .int 0), (0, .ref (a 0))]) b dX12_packs_122 rfl (by decide) (by decide) rfl ?_
  refine z_goto (tgt := 67) b dX12_packs_125 (by decide) ?_
  refine z_iload b dX12_packs_67 rfl ?_
  refine z_iconst (v := 2) b dX12_packs_69 (by decide) ?_
  refine z_icmp_ge_f (tgt := 128) b dX12_packs_70 (by decide) (by decide) ?_
  refine z_lload_n b dX12_packs_73 rfl rfl ?_
  refine z_iconst (v := 3) b dX12_packs_74 (by decide) ?_
  refine z_lshl (v := 768) b dX12_packs_75 (by decide) ?_
  refine z_aload_n b dX12_packs_76 rfl rfl ?_
  refine z_get (q0 := 0) (k9 := 1) (v := .ref (a 2)) b (mw_0 cy a S) rfl in_X12 (by decide) wf_X12_17 rfl dX12_packs_77 ?_
  refine z_iconst (v := 3) b dX12_packs_80 (by decide) ?_
  refine z_iload_n b dX12_packs_81 rfl rfl ?_
  refine z_imul (v := 0) b dX12_packs_82 (by decide) ?_
  refine z_iload_n b dX12_packs_83 rfl rfl ?_
  refine z_iload b dX12_packs_84 rfl ?_
  refine z_calli b (z_runS (As := [.int 0, .int 1]) (st := [.int 0, .ref (a 2), .long 768]) b (c_X12_other_5 S ) cf_X12_other wm_X12_160 ws_X12_other dX12_packs_86 rfl (Nat.le_of_ble_eq_true rfl) ⟨by decide, by decide, by decide, by decide⟩) (fun r3242 u3243 h3241 => ?_)
  obtain ⟨rfl, rfl⟩ := h3241
  refine z_iadd (v := 2) b dX12_packs_89 (by decide) ?_
  refine y_iald (q0 := 2) (j := 2) (v := (ar S 1 2)) b (mw_2 cy a S) (by decide) rfl dX12_packs_90 ?_
  refine z_eqi h_a_1_2 ?_
  refine z_i2l (v := 0) b dX12_packs_91 (by decide) ?_
  refine z_lor (v := 768) b dX12_packs_92 (by decide) ?_
  refine z_lstore_n (lv' := [(1, .long 768), (4, .int 1), (3, .int 0), (0, .ref (a 0))]) b dX12_packs_93 rfl (by decide) rfl ?_
  refine z_lload_n b dX12_packs_94 rfl rfl ?_
  refine z_iconst (v := 1) b dX12_packs_95 (by decide) ?_
  refine z_lshl (v := 1536) b dX12_packs_96 (by decide) ?_
  refine z_aload_n b dX12_packs_97 rfl rfl ?_
  refine z_get (q0 := 0) (k9 := 4) (v := .ref (a 5)) b (mw_0 cy a S) rfl in_X12 (by decide) wf_X12_27 rfl dX12_packs_98 ?_
  refine z_iconst (v := 3) b dX12_packs_101 (by decide) ?_
  refine z_iload_n b dX12_packs_102 rfl rfl ?_
  refine z_imul (v := 0) b dX12_packs_103 (by decide) ?_
  refine z_iload_n b dX12_packs_104 rfl rfl ?_
  refine z_iload b dX12_packs_105 rfl ?_
  refine z_calli b (z_runS (As := [.int 0, .int 1]) (st := [.int 0, .ref (a 5), .long 1536]) b (c_X12_other_5 S ) cf_X12_other wm_X12_160 ws_X12_other dX12_packs_107 rfl (Nat.le_of_ble_eq_true rfl) ⟨by decide, by decide, by decide, by decide⟩) (fun r3245 u3246 h3244 => ?_)
  obtain ⟨rfl, rfl⟩ := h3244
  refine z_iadd (v := 2) b dX12_packs_110 (by decide) ?_
  refine y_zald (q0 := 5) (j := 2) (v := (ar S 4 2)) b (mw_5 cy a S) (by decide) rfl dX12_packs_111 ?_
  refine z_eqi h_a_4_2 ?_
  refine z_if_eq_t (tgt := 119) b dX12_packs_112 (by decide) (by decide) ?_
  refine z_lconst (v := 0) b dX12_packs_119 (by decide) ?_
  refine z_lor (v := 1536) b dX12_packs_120 (by decide) ?_
  refine z_lstore_n (lv' := [(1, .long 1536), (4, .int 1), (3, .int 0), (0, .ref (a 0))]) b dX12_packs_121 rfl (by decide) rfl ?_
  refine z_iinc (k9 := 1) (v := 2) (lv' := [(4, .int 2), (1, .long 1536), (3, .int 0), (0, .ref (a 0))]) b dX12_packs_122 rfl (by decide) (by decide) rfl ?_
  refine z_goto (tgt := 67) b dX12_packs_125 (by decide) ?_
  refine z_iload b dX12_packs_67 rfl ?_
  refine z_iconst (v := 2) b dX12_packs_69 (by decide) ?_
  refine z_icmp_ge_t (tgt := 128) b dX12_packs_70 (by decide) (by decide) ?_
  refine z_iinc (k9 := 2) (v := 1) (lv' := [(3, .int 1), (4, .int 2), (1, .long 1536), (0, .ref (a 0))]) b dX12_packs_128 rfl (by decide) (by decide) rfl ?_
  refine z_goto (tgt := 8) b dX12_packs_131 (by decide) ?_
  refine z_iload_n b dX12_packs_8 rfl rfl ?_
  refine z_iconst (v := 3) b dX12_packs_9 (by decide) ?_
  refine z_icmp_ge_f (tgt := 134) b dX12_packs_10 (by decide) (by decide) ?_
  refine z_lload_n b dX12_packs_13 rfl rfl ?_
  refine z_iconst (v := 4) b dX12_packs_14 (by decide) ?_
  refine z_lshl (v := 24576) b dX12_packs_15 (by decide) ?_
  refine z_aload_n b dX12_packs_16 rfl rfl ?_
  refine z_get (q0 := 0) (k9 := 0) (v := .ref (a 1)) b (mw_0 cy a S) rfl in_X12 (by decide) wf_X12_13 rfl dX12_packs_17 ?_
  refine z_iload_n b dX12_packs_20 rfl rfl ?_
  exact k

set_option maxHeartbeats 4000000 in
set_option maxRecDepth 100000 in
theorem ch_X12_packs_49 {p : Program} {l : Launch} {e : Env} {R : Room} {s : State} {m : MethodId} {args : Array Value} {below : List Frame} {meth : Method} {c : Code} {D : va_G} {cy : Nat → ClassId} {T0 tB tE : Nat} {A : Nat → Prop} {Q : State → Prop} {a : Nat → Nat} (S : GS)  (h_a_0_1 : ar S 0 1 = 0) (h_a_0_2 : ar S 0 2 = 0) (h_a_1_3 : ar S 1 3 = 0) (h_a_1_5 : ar S 1 5 = 0) (h_a_2_1 : ar S 2 1 = 3) (h_a_2_2 : ar S 2 2 = 3) (h_a_3_5 : ar S 3 5 = 0) (h_a_4_3 : ar S 4 3 = 0) (h_a_4_5 : ar S 4 5 = 0) (b : Bz p R s m args meth c D cy T0 tB tE A 5 cX12_packs RX12 (some .long) "packs" 1 21 0 0) (k : Z p l e R s m args below meth c D A 5 Q 0 0 (mw cy a S) [(1, .long 3221323779), (3, .int 2), (4, .int 2), (0, .ref (a 0))] 37 []) : Z p l e R s m args below meth c D A 5 Q 0 0 (mw cy a S) [(3, .int 1), (4, .int 2), (1, .long 1536), (0, .ref (a 0))] 21 [.int 1, .ref (a 1), .long 24576] := by
  refine y_iald (q0 := 1) (j := 1) (v := (ar S 0 1)) b (mw_1 cy a S) (by decide) rfl dX12_packs_21 ?_
  refine z_eqi h_a_0_1 ?_
  refine z_i2l (v := 0) b dX12_packs_22 (by decide) ?_
  refine z_lor (v := 24576) b dX12_packs_23 (by decide) ?_
  refine z_lstore_n (lv' := [(1, .long 24576), (3, .int 1), (4, .int 2), (0, .ref (a 0))]) b dX12_packs_24 rfl (by decide) rfl ?_
  refine z_lload_n b dX12_packs_25 rfl rfl ?_
  refine z_iconst (v := 2) b dX12_packs_26 (by decide) ?_
  refine z_lshl (v := 98304) b dX12_packs_27 (by decide) ?_
  refine z_aload_n b dX12_packs_28 rfl rfl ?_
  refine z_get (q0 := 0) (k9 := 2) (v := .ref (a 3)) b (mw_0 cy a S) rfl in_X12 (by decide) wf_X12_20 rfl dX12_packs_29 ?_
  refine z_iload_n b dX12_packs_32 rfl rfl ?_
  refine y_iald (q0 := 3) (j := 1) (v := (ar S 2 1)) b (mw_3 cy a S) (by decide) rfl dX12_packs_33 ?_
  refine z_eqi h_a_2_1 ?_
  refine z_i2l (v := 3) b dX12_packs_34 (by decide) ?_
  refine z_lor (v := 98307) b dX12_packs_35 (by decide) ?_
  refine z_lstore_n (lv' := [(1, .long 98307), (3, .int 1), (4, .int 2), (0, .ref (a 0))]) b dX12_packs_36 rfl (by decide) rfl ?_
  refine z_lload_n b dX12_packs_37 rfl rfl ?_
  refine z_iconst (v := 1) b dX12_packs_38 (by decide) ?_
  refine z_lshl (v := 196614) b dX12_packs_39 (by decide) ?_
  refine z_aload_n b dX12_packs_40 rfl rfl ?_
  refine z_get (q0 := 0) (k9 := 3) (v := .ref (a 4)) b (mw_0 cy a S) rfl in_X12 (by decide) wf_X12_23 rfl dX12_packs_41 ?_
  refine z_iconst (v := 3) b dX12_packs_44 (by decide) ?_
  refine z_iload_n b dX12_packs_45 rfl rfl ?_
  refine z_imul (v := 3) b dX12_packs_46 (by decide) ?_
  refine z_iload_n b dX12_packs_47 rfl rfl ?_
  refine z_iconst (v := 0) b dX12_packs_48 (by decide) ?_
  refine z_calli b (z_runS (As := [.int 1, .int 0]) (st := [.int 3, .ref (a 4), .long 196614]) b (c_X12_other_4 S ) cf_X12_other wm_X12_160 ws_X12_other dX12_packs_49 rfl (Nat.le_of_ble_eq_true rfl) ⟨by decide, by decide, by decide, by decide⟩) (fun r3248 u3249 h3247 => ?_)
  obtain ⟨rfl, rfl⟩ := h3247
  refine z_iadd (v := 5) b dX12_packs_52 (by decide) ?_
  refine y_zald (q0 := 4) (j := 5) (v := (ar S 3 5)) b (mw_4 cy a S) (by decide) rfl dX12_packs_53 ?_
  refine z_eqi h_a_3_5 ?_
  refine z_if_eq_t (tgt := 61) b dX12_packs_54 (by decide) (by decide) ?_
  refine z_lconst (v := 0) b dX12_packs_61 (by decide) ?_
  refine z_lor (v := 196614) b dX12_packs_62 (by decide) ?_
  refine z_lstore_n (lv' := [(1, .long 196614), (3, .int 1), (4, .int 2), (0, .ref (a 0))]) b dX12_packs_63 rfl (by decide) rfl ?_
  refine z_iconst (v := 0) b dX12_packs_64 (by decide) ?_
  refine z_istore (lv' := [(4, .int 0), (1, .long 196614), (3, .int 1), (0, .ref (a 0))]) b dX12_packs_65 (by decide) rfl ?_
  refine z_iload b dX12_packs_67 rfl ?_
  refine z_iconst (v := 2) b dX12_packs_69 (by decide) ?_
  refine z_icmp_ge_f (tgt := 128) b dX12_packs_70 (by decide) (by decide) ?_
  refine z_lload_n b dX12_packs_73 rfl rfl ?_
  refine z_iconst (v := 3) b dX12_packs_74 (by decide) ?_
  refine z_lshl (v := 1572912) b dX12_packs_75 (by decide) ?_
  refine z_aload_n b dX12_packs_76 rfl rfl ?_
  refine z_get (q0 := 0) (k9 := 1) (v := .ref (a 2)) b (mw_0 cy a S) rfl in_X12 (by decide) wf_X12_17 rfl dX12_packs_77 ?_
  refine z_iconst (v := 3) b dX12_packs_80 (by decide) ?_
  refine z_iload_n b dX12_packs_81 rfl rfl ?_
  refine z_imul (v := 3) b dX12_packs_82 (by decide) ?_
  refine z_iload_n b dX12_packs_83 rfl rfl ?_
  refine z_iload b dX12_packs_84 rfl ?_
  refine z_calli b (z_runS (As := [.int 1, .int 0]) (st := [.int 3, .ref (a 2), .long 1572912]) b (c_X12_other_4 S ) cf_X12_other wm_X12_160 ws_X12_other dX12_packs_86 rfl (Nat.le_of_ble_eq_true rfl) ⟨by decide, by decide, by decide, by decide⟩) (fun r3251 u3252 h3250 => ?_)
  obtain ⟨rfl, rfl⟩ := h3250
  refine z_iadd (v := 5) b dX12_packs_89 (by decide) ?_
  refine y_iald (q0 := 2) (j := 5) (v := (ar S 1 5)) b (mw_2 cy a S) (by decide) rfl dX12_packs_90 ?_
  refine z_eqi h_a_1_5 ?_
  refine z_i2l (v := 0) b dX12_packs_91 (by decide) ?_
  refine z_lor (v := 1572912) b dX12_packs_92 (by decide) ?_
  refine z_lstore_n (lv' := [(1, .long 1572912), (4, .int 0), (3, .int 1), (0, .ref (a 0))]) b dX12_packs_93 rfl (by decide) rfl ?_
  refine z_lload_n b dX12_packs_94 rfl rfl ?_
  refine z_iconst (v := 1) b dX12_packs_95 (by decide) ?_
  refine z_lshl (v := 3145824) b dX12_packs_96 (by decide) ?_
  refine z_aload_n b dX12_packs_97 rfl rfl ?_
  refine z_get (q0 := 0) (k9 := 4) (v := .ref (a 5)) b (mw_0 cy a S) rfl in_X12 (by decide) wf_X12_27 rfl dX12_packs_98 ?_
  refine z_iconst (v := 3) b dX12_packs_101 (by decide) ?_
  refine z_iload_n b dX12_packs_102 rfl rfl ?_
  refine z_imul (v := 3) b dX12_packs_103 (by decide) ?_
  refine z_iload_n b dX12_packs_104 rfl rfl ?_
  refine z_iload b dX12_packs_105 rfl ?_
  refine z_calli b (z_runS (As := [.int 1, .int 0]) (st := [.int 3, .ref (a 5), .long 3145824]) b (c_X12_other_4 S ) cf_X12_other wm_X12_160 ws_X12_other dX12_packs_107 rfl (Nat.le_of_ble_eq_true rfl) ⟨by decide, by decide, by decide, by decide⟩) (fun r3254 u3255 h3253 => ?_)
  obtain ⟨rfl, rfl⟩ := h3253
  refine z_iadd (v := 5) b dX12_packs_110 (by decide) ?_
  refine y_zald (q0 := 5) (j := 5) (v := (ar S 4 5)) b (mw_5 cy a S) (by decide) rfl dX12_packs_111 ?_
  refine z_eqi h_a_4_5 ?_
  refine z_if_eq_t (tgt := 119) b dX12_packs_112 (by decide) (by decide) ?_
  refine z_lconst (v := 0) b dX12_packs_119 (by decide) ?_
  refine z_lor (v := 3145824) b dX12_packs_120 (by decide) ?_
  refine z_lstore_n (lv' := [(1, .long 3145824), (4, .int 0), (3, .int 1), (0, .ref (a 0))]) b dX12_packs_121 rfl (by decide) rfl ?_
  refine z_iinc (k9 := 1) (v := 1) (lv' := [(4, .int 1), (1, .long 3145824), (3, .int 1), (0, .ref (a 0))]) b dX12_packs_122 rfl (by decide) (by decide) rfl ?_
  refine z_goto (tgt := 67) b dX12_packs_125 (by decide) ?_
  refine z_iload b dX12_packs_67 rfl ?_
  refine z_iconst (v := 2) b dX12_packs_69 (by decide) ?_
  refine z_icmp_ge_f (tgt := 128) b dX12_packs_70 (by decide) (by decide) ?_
  refine z_lload_n b dX12_packs_73 rfl rfl ?_
  refine z_iconst (v := 3) b dX12_packs_74 (by decide) ?_
  refine z_lshl (v := 25166592) b dX12_packs_75 (by decide) ?_
  refine z_aload_n b dX12_packs_76 rfl rfl ?_
  refine z_get (q0 := 0) (k9 := 1) (v := .ref (a 2)) b (mw_0 cy a S) rfl in_X12 (by decide) wf_X12_17 rfl dX12_packs_77 ?_
  refine z_iconst (v := 3) b dX12_packs_80 (by decide) ?_
  refine z_iload_n b dX12_packs_81 rfl rfl ?_
  refine z_imul (v := 3) b dX12_packs_82 (by decide) ?_
  refine z_iload_n b dX12_packs_83 rfl rfl ?_
  refine z_iload b dX12_packs_84 rfl ?_
  refine z_calli b (z_runS (As := [.int 1, .int 1]) (st := [.int 3, .ref (a 2), .long 25166592]) b (c_X12_other_3 S ) cf_X12_other wm_X12_160 ws_X12_other dX12_packs_86 rfl (Nat.le_of_ble_eq_true rfl) ⟨by decide, by decide, by decide, by decide⟩) (fun r3257 u3258 h3256 => ?_)
  obtain ⟨rfl, rfl⟩ := h3256
  refine z_iadd (v := 3) b dX12_packs_89 (by decide) ?_
  refine y_iald (q0 := 2) (j := 3) (v := (ar S 1 3)) b (mw_2 cy a S) (by decide) rfl dX12_packs_90 ?_
  refine z_eqi h_a_1_3 ?_
  refine z_i2l (v := 0) b dX12_packs_91 (by decide) ?_
  refine z_lor (v := 25166592) b dX12_packs_92 (by decide) ?_
  refine z_lstore_n (lv' := [(1, .long 25166592), (4, .int 1), (3, .int 1), (0, .ref (a 0))]) b dX12_packs_93 rfl (by decide) rfl ?_
  refine z_lload_n b dX12_packs_94 rfl rfl ?_
  refine z_iconst (v := 1) b dX12_packs_95 (by decide) ?_
  refine z_lshl (v := 50333184) b dX12_packs_96 (by decide) ?_
  refine z_aload_n b dX12_packs_97 rfl rfl ?_
  refine z_get (q0 := 0) (k9 := 4) (v := .ref (a 5)) b (mw_0 cy a S) rfl in_X12 (by decide) wf_X12_27 rfl dX12_packs_98 ?_
  refine z_iconst (v := 3) b dX12_packs_101 (by decide) ?_
  refine z_iload_n b dX12_packs_102 rfl rfl ?_
  refine z_imul (v := 3) b dX12_packs_103 (by decide) ?_
  refine z_iload_n b dX12_packs_104 rfl rfl ?_
  refine z_iload b dX12_packs_105 rfl ?_
  refine z_calli b (z_runS (As := [.int 1, .int 1]) (st := [.int 3, .ref (a 5), .long 50333184]) b (c_X12_other_3 S ) cf_X12_other wm_X12_160 ws_X12_other dX12_packs_107 rfl (Nat.le_of_ble_eq_true rfl) ⟨by decide, by decide, by decide, by decide⟩) (fun r3260 u3261 h3259 => ?_)
  obtain ⟨rfl, rfl⟩ := h3259
  refine z_iadd (v := 3) b dX12_packs_110 (by decide) ?_
  refine y_zald (q0 := 5) (j := 3) (v := (ar S 4 3)) b (mw_5 cy a S) (by decide) rfl dX12_packs_111 ?_
  refine z_eqi h_a_4_3 ?_
  refine z_if_eq_t (tgt := 119) b dX12_packs_112 (by decide) (by decide) ?_
  refine z_lconst (v := 0) b dX12_packs_119 (by decide) ?_
  refine z_lor (v := 50333184) b dX12_packs_120 (by decide) ?_
  refine z_lstore_n (lv' := [(1, .long 50333184), (4, .int 1), (3, .int 1), (0, .ref (a 0))]) b dX12_packs_121 rfl (by decide) rfl ?_
  refine z_iinc (k9 := 1) (v := 2) (lv' := [(4, .int 2), (1, .long 50333184), (3, .int 1), (0, .ref (a 0))]) b dX12_packs_122 rfl (by decide) (by decide) rfl ?_
  refine z_goto (tgt := 67) b dX12_packs_125 (by decide) ?_
  refine z_iload b dX12_packs_67 rfl ?_
  refine z_iconst (v := 2) b dX12_packs_69 (by decide) ?_
  refine z_icmp_ge_t (tgt := 128) b dX12_packs_70 (by decide) (by decide) ?_
  refine z_iinc (k9 := 2) (v := 2) (lv' := [(3, .int 2), (4, .int 2), (1, .long 50333184), (0, .ref (a 0))]) b dX12_packs_128 rfl (by decide) (by decide) rfl ?_
  refine z_goto (tgt := 8) b dX12_packs_131 (by decide) ?_
  refine z_iload_n b dX12_packs_8 rfl rfl ?_
  refine z_iconst (v := 3) b dX12_packs_9 (by decide) ?_
  refine z_icmp_ge_f (tgt := 134) b dX12_packs_10 (by decide) (by decide) ?_
  refine z_lload_n b dX12_packs_13 rfl rfl ?_
  refine z_iconst (v := 4) b dX12_packs_14 (by decide) ?_
  refine z_lshl (v := 805330944) b dX12_packs_15 (by decide) ?_
  refine z_aload_n b dX12_packs_16 rfl rfl ?_
  refine z_get (q0 := 0) (k9 := 0) (v := .ref (a 1)) b (mw_0 cy a S) rfl in_X12 (by decide) wf_X12_13 rfl dX12_packs_17 ?_
  refine z_iload_n b dX12_packs_20 rfl rfl ?_
  refine y_iald (q0 := 1) (j := 2) (v := (ar S 0 2)) b (mw_1 cy a S) (by decide) rfl dX12_packs_21 ?_
  refine z_eqi h_a_0_2 ?_
  refine z_i2l (v := 0) b dX12_packs_22 (by decide) ?_
  refine z_lor (v := 805330944) b dX12_packs_23 (by decide) ?_
  refine z_lstore_n (lv' := [(1, .long 805330944), (3, .int 2), (4, .int 2), (0, .ref (a 0))]) b dX12_packs_24 rfl (by decide) rfl ?_
  refine z_lload_n b dX12_packs_25 rfl rfl ?_
  refine z_iconst (v := 2) b dX12_packs_26 (by decide) ?_
  refine z_lshl (v := 3221323776) b dX12_packs_27 (by decide) ?_
  refine z_aload_n b dX12_packs_28 rfl rfl ?_
  refine z_get (q0 := 0) (k9 := 2) (v := .ref (a 3)) b (mw_0 cy a S) rfl in_X12 (by decide) wf_X12_20 rfl dX12_packs_29 ?_
  refine z_iload_n b dX12_packs_32 rfl rfl ?_
  refine y_iald (q0 := 3) (j := 2) (v := (ar S 2 2)) b (mw_3 cy a S) (by decide) rfl dX12_packs_33 ?_
  refine z_eqi h_a_2_2 ?_
  refine z_i2l (v := 3) b dX12_packs_34 (by decide) ?_
  refine z_lor (v := 3221323779) b dX12_packs_35 (by decide) ?_
  refine z_lstore_n (lv' := [(1, .long 3221323779), (3, .int 2), (4, .int 2), (0, .ref (a 0))]) b dX12_packs_36 rfl (by decide) rfl ?_
  exact k

set_option maxHeartbeats 4000000 in
set_option maxRecDepth 100000 in
theorem c_X12_packs_23 {l : Launch} {D : va_G} {cy : Nat → ClassId} {T0 tB tE : Nat} {a : Nat → Nat} (S : GS)  (h_i_0 : fi S 0 = 0) (h_a_0_0 : ar S 0 0 = 0) (h_a_2_0 : ar S 2 0 = 3) (h_a_3_1 : ar S 3 1 = 0) (h_a_1_1 : ar S 1 1 = 0) (h_a_4_1 : ar S 4 1 = 0) (h_a_1_2 : ar S 1 2 = 0) (h_a_4_2 : ar S 4 2 = 0) (h_a_0_1 : ar S 0 1 = 0) (h_a_2_1 : ar S 2 1 = 3) (h_a_3_5 : ar S 3 5 = 0) (h_a_1_5 : ar S 1 5 = 0) (h_a_4_5 : ar S 4 5 = 0) (h_a_1_3 : ar S 1 3 = 0) (h_a_4_3 : ar S 4 3 = 0) (h_a_0_2 : ar S 0 2 = 0) (h_a_2_2 : ar S 2 2 = 3) (h_a_3_6 : ar S 3 6 = 0) (h_a_1_6 : ar S 1 6 = 0) (h_a_4_6 : ar S 4 6 = 0) (h_a_1_7 : ar S 1 7 = 0) (h_a_4_7 : ar S 4 7 = 1) : Ct l D cy T0 tB tE yX12_packs cX12_packs 5 (some .long) 1 21 0 0 (mw cy a S) [.ref (a 0)] (QL D (U := GS) (fun r u => 1649317774849 = r ∧ S = u) (mw cy a)) := by
  refine Ct.ofZ RX12 "packs" [(0, .ref (a 0))] rfl rfl rfl rfl (Nat.le_of_ble_eq_true rfl) ?_
  intro p e R s m args below meth c A b
  refine ch_X12_packs_48 S  h_a_0_0 h_a_1_1 h_a_1_2 h_a_2_0 h_a_3_1 h_a_4_1 h_a_4_2 h_i_0  b ?_
  refine ch_X12_packs_49 S  h_a_0_1 h_a_0_2 h_a_1_3 h_a_1_5 h_a_2_1 h_a_2_2 h_a_3_5 h_a_4_3 h_a_4_5  b ?_
  refine z_lload_n b dX12_packs_37 rfl rfl ?_
  refine z_iconst (v := 1) b dX12_packs_38 (by decide) ?_
  refine z_lshl (v := 6442647558) b dX12_packs_39 (by decide) ?_
  refine z_aload_n b dX12_packs_40 rfl rfl ?_
  refine z_get (q0 := 0) (k9 := 3) (v := .ref (a 4)) b (mw_0 cy a S) rfl in_X12 (by decide) wf_X12_23 rfl dX12_packs_41 ?_
  refine z_iconst (v := 3) b dX12_packs_44 (by decide) ?_
  refine z_iload_n b dX12_packs_45 rfl rfl ?_
  refine z_imul (v := 6) b dX12_packs_46 (by decide) ?_
  refine z_iload_n b dX12_packs_47 rfl rfl ?_
  refine z_iconst (v := 0) b dX12_packs_48 (by decide) ?_
  refine z_calli b (z_runS (As := [.int 2, .int 0]) (st := [.int 6, .ref (a 4), .long 6442647558]) b (c_X12_other_2 S ) cf_X12_other wm_X12_160 ws_X12_other dX12_packs_49 rfl (Nat.le_of_ble_eq_true rfl) ⟨by decide, by decide, by decide, by decide⟩) (fun r3263 u3264 h3262 => ?_)
  obtain ⟨rfl, rfl⟩ := h3262
  refine z_iadd (v := 6) b dX12_packs_52 (by decide) ?_
  refine y_zald (q0 := 4) (j := 6) (v := (ar S 3 6)) b (mw_4 cy a S) (by decide) rfl dX12_packs_53 ?_
  refine z_eqi h_a_3_6 ?_
  refine z_if_eq_t (tgt := 61) b dX12_packs_54 (by decide) (by decide) ?_
  refine z_lconst (v := 0) b dX12_packs_61 (by decide) ?_
  refine z_lor (v := 6442647558) b dX12_packs_62 (by decide) ?_
  refine z_lstore_n (lv' := [(1, .long 6442647558), (3, .int 2), (4, .int 2), (0, .ref (a 0))]) b dX12_packs_63 rfl (by decide) rfl ?_
  refine z_iconst (v := 0) b dX12_packs_64 (by decide) ?_
  refine z_istore (lv' := [(4, .int 0), (1, .long 6442647558), (3, .int 2), (0, .ref (a 0))]) b dX12_packs_65 (by decide) rfl ?_
  refine z_iload b dX12_packs_67 rfl ?_
  refine z_iconst (v := 2) b dX12_packs_69 (by decide) ?_
  refine z_icmp_ge_f (tgt := 128) b dX12_packs_70 (by decide) (by decide) ?_
  refine z_lload_n b dX12_packs_73 rfl rfl ?_
  refine z_iconst (v := 3) b dX12_packs_74 (by decide) ?_
  refine z_lshl (v := 51541180464) b dX12_packs_75 (by decide) ?_
  refine z_aload_n b dX12_packs_76 rfl rfl ?_
  refine z_get (q0 := 0) (k9 := 1) (v := .ref (a 2)) b (mw_0 cy a S) rfl in_X12 (by decide) wf_X12_17 rfl dX12_packs_77 ?_
  refine z_iconst (v := 3) b dX12_packs_80 (by decide) ?_
  refine z_iload_n b dX12_packs_81 rfl rfl ?_
  refine z_imul (v := 6) b dX12_packs_82 (by decide) ?_
  refine z_iload_n b dX12_packs_83 rfl rfl ?_
  refine z_iload b dX12_packs_84 rfl ?_
  refine z_calli b (z_runS (As := [.int 2, .int 0]) (st := [.int 6, .ref (a 2), .long 51541180464]) b (c_X12_other_2 S ) cf_X12_other wm_X12_160 ws_X12_other dX12_packs_86 rfl (Nat.le_of_ble_eq_true rfl) ⟨by decide, by decide, by decide, by decide⟩) (fun r3266 u3267 h3265 => ?_)
  obtain ⟨rfl, rfl⟩ := h3265
  refine z_iadd (v := 6) b dX12_packs_89 (by decide) ?_
  refine y_iald (q0 := 2) (j := 6) (v := (ar S 1 6)) b (mw_2 cy a S) (by decide) rfl dX12_packs_90 ?_
  refine z_eqi h_a_1_6 ?_
  refine z_i2l (v := 0) b dX12_packs_91 (by decide) ?_
  refine z_lor (v := 51541180464) b dX12_packs_92 (by decide) ?_
  refine z_lstore_n (lv' := [(1, .long 51541180464), (4, .int 0), (3, .int 2), (0, .ref (a 0))]) b dX12_packs_93 rfl (by decide) rfl ?_
  refine z_lload_n b dX12_packs_94 rfl rfl ?_
  refine z_iconst (v := 1) b dX12_packs_95 (by decide) ?_
  refine z_lshl (v := 103082360928) b dX12_packs_96 (by decide) ?_
  refine z_aload_n b dX12_packs_97 rfl rfl ?_
  refine z_get (q0 := 0) (k9 := 4) (v := .ref (a 5)) b (mw_0 cy a S) rfl in_X12 (by decide) wf_X12_27 rfl dX12_packs_98 ?_
  refine z_iconst (v := 3) b dX12_packs_101 (by decide) ?_
  refine z_iload_n b dX12_packs_102 rfl rfl ?_
  refine z_imul (v := 6) b dX12_packs_103 (by decide) ?_
  refine z_iload_n b dX12_packs_104 rfl rfl ?_
  refine z_iload b dX12_packs_105 rfl ?_
  refine z_calli b (z_runS (As := [.int 2, .int 0]) (st := [.int 6, .ref (a 5), .long 103082360928]) b (c_X12_other_2 S ) cf_X12_other wm_X12_160 ws_X12_other dX12_packs_107 rfl (Nat.le_of_ble_eq_true rfl) ⟨by decide, by decide, by decide, by decide⟩) (fun r3269 u3270 h3268 => ?_)
  obtain ⟨rfl, rfl⟩ := h3268
  refine z_iadd (v := 6) b dX12_packs_110 (by decide) ?_
  refine y_zald (q0 := 5) (j := 6) (v := (ar S 4 6)) b (mw_5 cy a S) (by decide) rfl dX12_packs_111 ?_
  refine z_eqi h_a_4_6 ?_
  refine z_if_eq_t (tgt := 119) b dX12_packs_112 (by decide) (by decide) ?_
  refine z_lconst (v := 0) b dX12_packs_119 (by decide) ?_
  refine z_lor (v := 103082360928) b dX12_packs_120 (by decide) ?_
  refine z_lstore_n (lv' := [(1, .long 103082360928), (4, .int 0), (3, .int 2), (0, .ref (a 0))]) b dX12_packs_121 rfl (by decide) rfl ?_
  refine z_iinc (k9 := 1) (v := 1) (lv' := [(4, .int 1), (1, .long 103082360928), (3, .int 2), (0, .ref (a 0))]) b dX12_packs_122 rfl (by decide) (by decide) rfl ?_
  refine z_goto (tgt := 67) b dX12_packs_125 (by decide) ?_
  refine z_iload b dX12_packs_67 rfl ?_
  refine z_iconst (v := 2) b dX12_packs_69 (by decide) ?_
  refine z_icmp_ge_f (tgt := 128) b dX12_packs_70 (by decide) (by decide) ?_
  refine z_lload_n b dX12_packs_73 rfl rfl ?_
  refine z_iconst (v := 3) b dX12_packs_74 (by decide) ?_
  refine z_lshl (v := 824658887424) b dX12_packs_75 (by decide) ?_
  refine z_aload_n b dX12_packs_76 rfl rfl ?_
  refine z_get (q0 := 0) (k9 := 1) (v := .ref (a 2)) b (mw_0 cy a S) rfl in_X12 (by decide) wf_X12_17 rfl dX12_packs_77 ?_
  refine z_iconst (v := 3) b dX12_packs_80 (by decide) ?_
  refine z_iload_n b dX12_packs_81 rfl rfl ?_
  refine z_imul (v := 6) b dX12_packs_82 (by decide) ?_
  refine z_iload_n b dX12_packs_83 rfl rfl ?_
  refine z_iload b dX12_packs_84 rfl ?_
  refine z_calli b (z_runS (As := [.int 2, .int 1]) (st := [.int 6, .ref (a 2), .long 824658887424]) b (c_X12_other S ) cf_X12_other wm_X12_160 ws_X12_other dX12_packs_86 rfl (Nat.le_of_ble_eq_true rfl) ⟨by decide, by decide, by decide, by decide⟩) (fun r3272 u3273 h3271 => ?_)
  obtain ⟨rfl, rfl⟩ := h3271
  refine z_iadd (v := 7) b dX12_packs_89 (by decide) ?_
  refine y_iald (q0 := 2) (j := 7) (v := (ar S 1 7)) b (mw_2 cy a S) (by decide) rfl dX12_packs_90 ?_
  refine z_eqi h_a_1_7 ?_
  refine z_i2l (v := 0) b dX12_packs_91 (by decide) ?_
  refine z_lor (v := 824658887424) b dX12_packs_92 (by decide) ?_
  refine z_lstore_n (lv' := [(1, .long 824658887424), (4, .int 1), (3, .int 2), (0, .ref (a 0))]) b dX12_packs_93 rfl (by decide) rfl ?_
  refine z_lload_n b dX12_packs_94 rfl rfl ?_
  refine z_iconst (v := 1) b dX12_packs_95 (by decide) ?_
  refine z_lshl (v := 1649317774848) b dX12_packs_96 (by decide) ?_
  refine z_aload_n b dX12_packs_97 rfl rfl ?_
  refine z_get (q0 := 0) (k9 := 4) (v := .ref (a 5)) b (mw_0 cy a S) rfl in_X12 (by decide) wf_X12_27 rfl dX12_packs_98 ?_
  refine z_iconst (v := 3) b dX12_packs_101 (by decide) ?_
  refine z_iload_n b dX12_packs_102 rfl rfl ?_
  refine z_imul (v := 6) b dX12_packs_103 (by decide) ?_
  refine z_iload_n b dX12_packs_104 rfl rfl ?_
  refine z_iload b dX12_packs_105 rfl ?_
  refine z_calli b (z_runS (As := [.int 2, .int 1]) (st := [.int 6, .ref (a 5), .long 1649317774848]) b (c_X12_other S ) cf_X12_other wm_X12_160 ws_X12_other dX12_packs_107 rfl (Nat.le_of_ble_eq_true rfl) ⟨by decide, by decide, by decide, by decide⟩) (fun r3275 u3276 h3274 => ?_)
  obtain ⟨rfl, rfl⟩ := h3274
  refine z_iadd (v := 7) b dX12_packs_110 (by decide) ?_
  refine y_zald (q0 := 5) (j := 7) (v := (ar S 4 7)) b (mw_5 cy a S) (by decide) rfl dX12_packs_111 ?_
  refine z_eqi h_a_4_7 ?_
  refine z_if_eq_f (tgt := 119) b dX12_packs_112 (by decide) (by decide) ?_
  refine z_lconst (v := 1) b dX12_packs_115 (by decide) ?_
  refine z_goto (tgt := 120) b dX12_packs_116 (by decide) ?_
  refine z_lor (v := 1649317774849) b dX12_packs_120 (by decide) ?_
  refine z_lstore_n (lv' := [(1, .long 1649317774849), (4, .int 1), (3, .int 2), (0, .ref (a 0))]) b dX12_packs_121 rfl (by decide) rfl ?_
  refine z_iinc (k9 := 1) (v := 2) (lv' := [(4, .int 2), (1, .long 1649317774849), (3, .int 2), (0, .ref (a 0))]) b dX12_packs_122 rfl (by decide) (by decide) rfl ?_
  refine z_goto (tgt := 67) b dX12_packs_125 (by decide) ?_
  refine z_iload b dX12_packs_67 rfl ?_
  refine z_iconst (v := 2) b dX12_packs_69 (by decide) ?_
  refine z_icmp_ge_t (tgt := 128) b dX12_packs_70 (by decide) (by decide) ?_
  refine z_iinc (k9 := 2) (v := 3) (lv' := [(3, .int 3), (4, .int 2), (1, .long 1649317774849), (0, .ref (a 0))]) b dX12_packs_128 rfl (by decide) (by decide) rfl ?_
  refine z_goto (tgt := 8) b dX12_packs_131 (by decide) ?_
  refine z_iload_n b dX12_packs_8 rfl rfl ?_
  refine z_iconst (v := 3) b dX12_packs_9 (by decide) ?_
  refine z_icmp_ge_t (tgt := 134) b dX12_packs_10 (by decide) (by decide) ?_
  refine z_lload_n b dX12_packs_134 rfl rfl ?_
  exact z_lret (u := S) b rfl dX12_packs_135 ⟨rfl, rfl⟩ rfl (by decide) (by decide)

set_option maxHeartbeats 4000000 in
set_option maxRecDepth 100000 in
theorem c_X12_told_23 {l : Launch} {D : va_G} {cy : Nat → ClassId} {T0 tB tE : Nat} {a : Nat → Nat} (S : GS)  (h_i_0 : fi S 0 = 0) (h_a_0_0 : ar S 0 0 = 0) (h_a_2_0 : ar S 2 0 = 3) (h_a_3_1 : ar S 3 1 = 0) (h_a_1_1 : ar S 1 1 = 0) (h_a_4_1 : ar S 4 1 = 0) (h_a_1_2 : ar S 1 2 = 0) (h_a_4_2 : ar S 4 2 = 0) (h_a_0_1 : ar S 0 1 = 0) (h_a_2_1 : ar S 2 1 = 3) (h_a_3_5 : ar S 3 5 = 0) (h_a_1_5 : ar S 1 5 = 0) (h_a_4_5 : ar S 4 5 = 0) (h_a_1_3 : ar S 1 3 = 0) (h_a_4_3 : ar S 4 3 = 0) (h_a_0_2 : ar S 0 2 = 0) (h_a_2_2 : ar S 2 2 = 3) (h_a_3_6 : ar S 3 6 = 0) (h_a_1_6 : ar S 1 6 = 0) (h_a_4_6 : ar S 4 6 = 0) (h_a_1_7 : ar S 1 7 = 0) (h_a_4_7 : ar S 4 7 = 1) : Ct l D cy T0 tB tE yX12_told cX12_told 1 (some .boolean) 2 45 0 0 (mw cy a S) [.ref (a 0)] (QI D (U := GS) (fun r u => 1 = r ∧ sl S 0 1649317774849 = u) (mw cy a)) := by
  refine Ct.ofZ RX12 "told" [(0, .ref (a 0))] rfl rfl rfl rfl (Nat.le_of_ble_eq_true rfl) ?_
  intro p e R s m args below meth c A b
  refine z_aload_n b dX12_told_0 rfl rfl ?_
  refine z_aload_n b dX12_told_1 rfl rfl ?_
  refine z_calll b (z_runV (q0 := 0) (As := []) (st := [.ref (a 0)]) b (c_X12_packs_23 S h_i_0 h_a_0_0 h_a_2_0 h_a_3_1 h_a_1_1 h_a_4_1 h_a_1_2 h_a_4_2 h_a_0_1 h_a_2_1 h_a_3_5 h_a_1_5 h_a_4_5 h_a_1_3 h_a_4_3 h_a_0_2 h_a_2_2 h_a_3_6 h_a_1_6 h_a_4_6 h_a_1_7 h_a_4_7) cf_X12_packs (mw_0 cy a S) rfl wm_X12_149 wi_X12_packs ws_X12_packs dX12_told_2 rfl (Nat.le_of_ble_eq_true rfl) ⟨by decide, by decide, by decide, by decide⟩) (fun r3278 u3279 h3277 => ?_)
  obtain ⟨rfl, rfl⟩ := h3277
  refine z_put (q0 := 0) (k9 := 6) tyX12 b (mw_0 cy a S) rfl in_X12 tyX12_ok nmX12 (by decide) wf_X12_153 rfl rfl rfl rfl (Nat.le_of_ble_eq_true rfl) dX12_told_5 (mwp_0_6 cy a S 1649317774849) ?_
  refine z_iconst (v := 1) b dX12_told_8 (by decide) ?_
  exact z_zret (u := (sl S 0 1649317774849)) b rfl (by decide) dX12_told_9 ⟨rfl, rfl⟩ rfl (by decide) (by decide)

set_option maxHeartbeats 4000000 in
set_option maxRecDepth 100000 in
theorem c_X12_kin_68 {l : Launch} {D : va_G} {cy : Nat → ClassId} {T0 tB tE : Nat} {a : Nat → Nat} (S : GS)  (h_l_0 : fl S 0 = 1649317774848) (h_a_4_7 : ar S 4 7 = 0) (h_a_1_7 : ar S 1 7 = 0) (h_a_4_6 : ar S 4 6 = 0) (h_a_1_6 : ar S 1 6 = 0) (h_a_3_6 : ar S 3 6 = 0) (h_a_3_2 : ar S 3 2 = 0) (h_a_2_2 : ar S 2 2 = 3) (h_a_0_2 : ar S 0 2 = 0) (h_a_4_3 : ar S 4 3 = 0) (h_a_1_3 : ar S 1 3 = 0) (h_a_4_5 : ar S 4 5 = 0) (h_a_1_5 : ar S 1 5 = 0) (h_a_3_5 : ar S 3 5 = 0) (h_a_3_7 : ar S 3 7 = 0) (h_a_2_1 : ar S 2 1 = 3) (h_a_0_1 : ar S 0 1 = 0) (h_a_4_2 : ar S 4 2 = 0) (h_a_1_2 : ar S 1 2 = 0) (h_a_4_1 : ar S 4 1 = 0) (h_a_1_1 : ar S 1 1 = 0) (h_a_3_1 : ar S 3 1 = 0) (h_a_3_3 : ar S 3 3 = 0) (h_a_2_0 : ar S 2 0 = 3) (h_a_0_0 : ar S 0 0 = 0) (h_i_0 : fi S 0 = 0) : Ct l D cy T0 tB tE yX12_kin cX12_kin 5 (some .boolean) 3 65 0 0 (mw cy a S) [.ref (a 0), .int 2, .int 1, .int 1, .int 1] (QI D (U := GS) (fun r u => 1 = r ∧ sl (su S 4 7 1) 0 1649317774849 = u) (mw cy a)) := by
  refine Ct.ofZ RX12 "kin" [(0, .ref (a 0)), (1, .int 2), (2, .int 1), (3, .int 1), (4, .int 1)] rfl rfl rfl rfl (Nat.le_of_ble_eq_true rfl) ?_
  intro p e R s m args below meth c A b
  refine z_iload_n b dX12_kin_0 rfl rfl ?_
  refine z_calli b (z_runS (As := [.int 2]) (st := []) b (c_X12_isOne_5 S ) cf_X12_isOne wm_X12_170 ws_X12_isOne dX12_kin_1 rfl (Nat.le_of_ble_eq_true rfl) ⟨by decide, by decide, by decide, by decide⟩) (fun r3221 u3222 h3220 => ?_)
  obtain ⟨rfl, rfl⟩ := h3220
  refine z_if_eq_f (tgt := 28) b dX12_kin_4 (by decide) (by decide) ?_
  refine z_iload_n b dX12_kin_7 rfl rfl ?_
  refine z_calli b (z_runS (As := [.int 1]) (st := []) b (c_X12_isOne_4 S ) cf_X12_isOne wm_X12_170 ws_X12_isOne dX12_kin_8 rfl (Nat.le_of_ble_eq_true rfl) ⟨by decide, by decide, by decide, by decide⟩) (fun r3224 u3225 h3223 => ?_)
  obtain ⟨rfl, rfl⟩ := h3223
  refine z_if_eq_f (tgt := 28) b dX12_kin_11 (by decide) (by decide) ?_
  refine z_iload_n b dX12_kin_14 rfl rfl ?_
  refine z_iload_n b dX12_kin_15 rfl rfl ?_
  refine z_icmp_eq_f (tgt := 28) b dX12_kin_16 (by decide) (by decide) ?_
  refine z_iload_n b dX12_kin_19 rfl rfl ?_
  refine z_iconst (v := 0) b dX12_kin_20 (by decide) ?_
  refine z_iconst (v := 1) b dX12_kin_21 (by decide) ?_
  refine z_calli b (z_runS (As := [.int 1, .int 0, .int 1]) (st := []) b (c_X12_isIn_17 S ) cf_X12_isIn wm_X12_1 ws_X12_isIn dX12_kin_22 rfl (Nat.le_of_ble_eq_true rfl) ⟨by decide, by decide, by decide, by decide⟩) (fun r3227 u3228 h3226 => ?_)
  obtain ⟨rfl, rfl⟩ := h3226
  refine z_if_ne_t (tgt := 30) b dX12_kin_25 (by decide) (by decide) ?_
  refine z_aload_n b dX12_kin_30 rfl rfl ?_
  refine z_aload_n b dX12_kin_31 rfl rfl ?_
  refine z_get (q0 := 0) (k9 := 6) (v := .long (fl S 0)) b (mw_0 cy a S) rfl in_X12 (by decide) wf_X12_153 rfl dX12_kin_32 ?_
  refine z_eql h_l_0 ?_
  refine z_callv b (z_runV (q0 := 0) (As := [.long 1649317774848]) (st := []) b (c_X12_takes S h_a_4_7 h_a_1_7 h_a_4_6 h_a_1_6 h_a_3_6 h_a_3_2 h_a_2_2 h_a_0_2 h_a_4_3 h_a_1_3 h_a_4_5 h_a_1_5 h_a_3_5 h_a_3_7 h_a_2_1 h_a_0_1 h_a_4_2 h_a_1_2 h_a_4_1 h_a_1_1 h_a_3_1 h_a_3_3 h_a_2_0 h_a_0_0 h_i_0) cf_X12_takes (mw_0 cy a S) rfl wm_X12_174 wi_X12_takes ws_X12_takes dX12_kin_35 rfl (Nat.le_of_ble_eq_true rfl) ⟨by decide, by decide, by decide, by decide⟩) (fun u3231 h3229 => ?_)
  obtain rfl := h3229
  refine z_iload_n b dX12_kin_38 rfl rfl ?_
  refine z_iconst (v := 1) b dX12_kin_39 (by decide) ?_
  refine z_icmp_ne_f (tgt := 58) b dX12_kin_40 (by decide) (by decide) ?_
  refine z_aload_n b dX12_kin_43 rfl rfl ?_
  refine z_get (q0 := 0) (k9 := 4) (v := .ref (a 5)) b (mw_0 cy a S) rfl in_X12 (by decide) wf_X12_27 rfl dX12_kin_44 ?_
  refine z_iconst (v := 3) b dX12_kin_47 (by decide) ?_
  refine z_iload_n b dX12_kin_48 rfl rfl ?_
  refine z_imul (v := 6) b dX12_kin_49 (by decide) ?_
  refine z_iload_n b dX12_kin_50 rfl rfl ?_
  refine z_iadd (v := 7) b dX12_kin_51 (by decide) ?_
  refine z_iload b dX12_kin_52 rfl ?_
  refine y_zast (q0 := 5) (j := 7) b (mw_5 cy a S) (by decide) (by decide) dX12_kin_54 (mwa_5 cy a S 7 1) ?_
  refine z_goto (tgt := 82) b dX12_kin_55 (by decide) ?_
  refine z_aload_n b dX12_kin_82 rfl rfl ?_
  refine z_calli b (z_runV (q0 := 0) (As := []) (st := []) b (c_X12_told_23 (su S 4 7 1) h_i_0 h_a_0_0 h_a_2_0 h_a_3_1 h_a_1_1 h_a_4_1 h_a_1_2 h_a_4_2 h_a_0_1 h_a_2_1 h_a_3_5 h_a_1_5 h_a_4_5 h_a_1_3 h_a_4_3 h_a_0_2 h_a_2_2 h_a_3_6 h_a_1_6 h_a_4_6 h_a_1_7 rfl) cf_X12_told (mw_0 cy a (su S 4 7 1)) rfl wm_X12_178 wi_X12_told ws_X12_told dX12_kin_83 rfl (Nat.le_of_ble_eq_true rfl) ⟨by decide, by decide, by decide, by decide⟩) (fun r3281 u3282 h3280 => ?_)
  obtain ⟨rfl, rfl⟩ := h3280
  exact z_zret (u := (sl (su S 4 7 1) 0 1649317774849)) b rfl (by decide) dX12_kin_86 ⟨rfl, rfl⟩ rfl (by decide) (by decide)

set_option maxHeartbeats 4000000 in
set_option maxRecDepth 100000 in
theorem c_X11_kin_69 {l : Launch} {D : va_G} {cy : Nat → ClassId} {T0 tB tE : Nat} {a : Nat → Nat} {rw : Nat → Option Nat} (S : GS) (p0 : Int32)  (hr_p0 : 2 ≤ p0.toInt ∧ p0.toInt ≤ 2147483647) : Ct l D cy T0 tB tE yX11_kin cX11_kin 6 (some .boolean) 2 41 0 0 (cw cy tE a rw S) [.ref (a 0), .int 2, .int 1, .int p0, .int 0] (QI D (U := GS) (fun r u => 0 = r ∧ S = u) (cw cy tE a rw)) := by
  refine Ct.ofZ RX11 "kin" [(0, .ref (a 0)), (1, .int 2), (2, .int 1), (3, .int p0), (4, .int 0)] rfl rfl rfl rfl (Nat.le_of_ble_eq_true rfl) ?_
  intro p e R s m args below meth c A b
  refine z_iload_n b dX11_kin_0 rfl rfl ?_
  refine z_iload_n b dX11_kin_1 rfl rfl ?_
  refine z_calli b (z_runS (As := [.int 2, .int 1]) (st := []) b (c_X11_arePair_17 S ) cf_X11_arePair wm_X11_84 ws_X11_arePair dX11_kin_2 rfl (Nat.le_of_ble_eq_true rfl) ⟨by decide, by decide, by decide, by decide⟩) (fun r3284 u3285 h3283 => ?_)
  obtain ⟨rfl, rfl⟩ := h3283
  refine z_if_eq_f (tgt := 16) b dX11_kin_5 (by decide) (by decide) ?_
  refine z_iload_n b dX11_kin_8 rfl rfl ?_
  refine z_iconst (v := 1) b dX11_kin_9 (by decide) ?_
  refine z_calli b (z_runS (As := [.int p0, .int 1]) (st := []) b (c_X11_isWithin_13 S p0 ⟨by omega, by omega⟩) cf_X11_isWithin wm_X11_73 ws_X11_isWithin dX11_kin_10 rfl (Nat.le_of_ble_eq_true rfl) ⟨by decide, by decide, by decide, by decide⟩) (fun r3287 u3288 h3286 => ?_)
  obtain ⟨rfl, rfl⟩ := h3286
  refine z_if_ne_f (tgt := 18) b dX11_kin_13 (by decide) (by decide) ?_
  refine z_iconst (v := 0) b dX11_kin_16 (by decide) ?_
  exact z_zret (u := S) b rfl (by decide) dX11_kin_17 ⟨rfl, rfl⟩ rfl (by decide) (by decide)

set_option maxHeartbeats 4000000 in
set_option maxRecDepth 100000 in
theorem c_X12_kin_69 {l : Launch} {D : va_G} {cy : Nat → ClassId} {T0 tB tE : Nat} {a : Nat → Nat} (S : GS) (p0 : Int32)  (hr_p0 : 2 ≤ p0.toInt ∧ p0.toInt ≤ 2147483647) : Ct l D cy T0 tB tE yX12_kin cX12_kin 5 (some .boolean) 2 42 0 0 (mw cy a S) [.ref (a 0), .int 2, .int 1, .int p0, .int 0] (QI D (U := GS) (fun r u => 0 = r ∧ S = u) (mw cy a)) := by
  refine Ct.ofZ RX12 "kin" [(0, .ref (a 0)), (1, .int 2), (2, .int 1), (3, .int p0), (4, .int 0)] rfl rfl rfl rfl (Nat.le_of_ble_eq_true rfl) ?_
  intro p e R s m args below meth c A b
  refine z_iload_n b dX12_kin_0 rfl rfl ?_
  refine z_calli b (z_runS (As := [.int 2]) (st := []) b (c_X12_isOne_5 S ) cf_X12_isOne wm_X12_170 ws_X12_isOne dX12_kin_1 rfl (Nat.le_of_ble_eq_true rfl) ⟨by decide, by decide, by decide, by decide⟩) (fun r3290 u3291 h3289 => ?_)
  obtain ⟨rfl, rfl⟩ := h3289
  refine z_if_eq_f (tgt := 28) b dX12_kin_4 (by decide) (by decide) ?_
  refine z_iload_n b dX12_kin_7 rfl rfl ?_
  refine z_calli b (z_runS (As := [.int 1]) (st := []) b (c_X12_isOne_4 S ) cf_X12_isOne wm_X12_170 ws_X12_isOne dX12_kin_8 rfl (Nat.le_of_ble_eq_true rfl) ⟨by decide, by decide, by decide, by decide⟩) (fun r3293 u3294 h3292 => ?_)
  obtain ⟨rfl, rfl⟩ := h3292
  refine z_if_eq_f (tgt := 28) b dX12_kin_11 (by decide) (by decide) ?_
  refine z_iload_n b dX12_kin_14 rfl rfl ?_
  refine z_iload_n b dX12_kin_15 rfl rfl ?_
  refine z_icmp_eq_f (tgt := 28) b dX12_kin_16 (by decide) (by decide) ?_
  refine z_iload_n b dX12_kin_19 rfl rfl ?_
  refine z_iconst (v := 0) b dX12_kin_20 (by decide) ?_
  refine z_iconst (v := 1) b dX12_kin_21 (by decide) ?_
  refine z_calli b (z_runS (As := [.int p0, .int 0, .int 1]) (st := []) b (c_X12_isIn_18 S p0 ⟨by omega, by omega⟩) cf_X12_isIn wm_X12_1 ws_X12_isIn dX12_kin_22 rfl (Nat.le_of_ble_eq_true rfl) ⟨by decide, by decide, by decide, by decide⟩) (fun r3296 u3297 h3295 => ?_)
  obtain ⟨rfl, rfl⟩ := h3295
  refine z_if_ne_f (tgt := 30) b dX12_kin_25 (by decide) (by decide) ?_
  refine z_iconst (v := 0) b dX12_kin_28 (by decide) ?_
  exact z_zret (u := S) b rfl (by decide) dX12_kin_29 ⟨rfl, rfl⟩ rfl (by decide) (by decide)

set_option maxHeartbeats 4000000 in
set_option maxRecDepth 100000 in
theorem c_X11_kin_70 {l : Launch} {D : va_G} {cy : Nat → ClassId} {T0 tB tE : Nat} {a : Nat → Nat} {rw : Nat → Option Nat} (S : GS) (p0 : Int32)  (hr_p0 : 2 ≤ p0.toInt ∧ p0.toInt ≤ 2147483647) : Ct l D cy T0 tB tE yX11_kin cX11_kin 6 (some .boolean) 2 41 0 0 (cw cy tE a rw S) [.ref (a 0), .int 2, .int 1, .int p0, .int 1] (QI D (U := GS) (fun r u => 0 = r ∧ S = u) (cw cy tE a rw)) := by
  refine Ct.ofZ RX11 "kin" [(0, .ref (a 0)), (1, .int 2), (2, .int 1), (3, .int p0), (4, .int 1)] rfl rfl rfl rfl (Nat.le_of_ble_eq_true rfl) ?_
  intro p e R s m args below meth c A b
  refine z_iload_n b dX11_kin_0 rfl rfl ?_
  refine z_iload_n b dX11_kin_1 rfl rfl ?_
  refine z_calli b (z_runS (As := [.int 2, .int 1]) (st := []) b (c_X11_arePair_17 S ) cf_X11_arePair wm_X11_84 ws_X11_arePair dX11_kin_2 rfl (Nat.le_of_ble_eq_true rfl) ⟨by decide, by decide, by decide, by decide⟩) (fun r3299 u3300 h3298 => ?_)
  obtain ⟨rfl, rfl⟩ := h3298
  refine z_if_eq_f (tgt := 16) b dX11_kin_5 (by decide) (by decide) ?_
  refine z_iload_n b dX11_kin_8 rfl rfl ?_
  refine z_iconst (v := 1) b dX11_kin_9 (by decide) ?_
  refine z_calli b (z_runS (As := [.int p0, .int 1]) (st := []) b (c_X11_isWithin_13 S p0 ⟨by omega, by omega⟩) cf_X11_isWithin wm_X11_73 ws_X11_isWithin dX11_kin_10 rfl (Nat.le_of_ble_eq_true rfl) ⟨by decide, by decide, by decide, by decide⟩) (fun r3302 u3303 h3301 => ?_)
  obtain ⟨rfl, rfl⟩ := h3301
  refine z_if_ne_f (tgt := 18) b dX11_kin_13 (by decide) (by decide) ?_
  refine z_iconst (v := 0) b dX11_kin_16 (by decide) ?_
  exact z_zret (u := S) b rfl (by decide) dX11_kin_17 ⟨rfl, rfl⟩ rfl (by decide) (by decide)

set_option maxHeartbeats 4000000 in
set_option maxRecDepth 100000 in
theorem c_X12_kin_70 {l : Launch} {D : va_G} {cy : Nat → ClassId} {T0 tB tE : Nat} {a : Nat → Nat} (S : GS) (p0 : Int32)  (hr_p0 : 2 ≤ p0.toInt ∧ p0.toInt ≤ 2147483647) : Ct l D cy T0 tB tE yX12_kin cX12_kin 5 (some .boolean) 2 42 0 0 (mw cy a S) [.ref (a 0), .int 2, .int 1, .int p0, .int 1] (QI D (U := GS) (fun r u => 0 = r ∧ S = u) (mw cy a)) := by
  refine Ct.ofZ RX12 "kin" [(0, .ref (a 0)), (1, .int 2), (2, .int 1), (3, .int p0), (4, .int 1)] rfl rfl rfl rfl (Nat.le_of_ble_eq_true rfl) ?_
  intro p e R s m args below meth c A b
  refine z_iload_n b dX12_kin_0 rfl rfl ?_
  refine z_calli b (z_runS (As := [.int 2]) (st := []) b (c_X12_isOne_5 S ) cf_X12_isOne wm_X12_170 ws_X12_isOne dX12_kin_1 rfl (Nat.le_of_ble_eq_true rfl) ⟨by decide, by decide, by decide, by decide⟩) (fun r3305 u3306 h3304 => ?_)
  obtain ⟨rfl, rfl⟩ := h3304
  refine z_if_eq_f (tgt := 28) b dX12_kin_4 (by decide) (by decide) ?_
  refine z_iload_n b dX12_kin_7 rfl rfl ?_
  refine z_calli b (z_runS (As := [.int 1]) (st := []) b (c_X12_isOne_4 S ) cf_X12_isOne wm_X12_170 ws_X12_isOne dX12_kin_8 rfl (Nat.le_of_ble_eq_true rfl) ⟨by decide, by decide, by decide, by decide⟩) (fun r3308 u3309 h3307 => ?_)
  obtain ⟨rfl, rfl⟩ := h3307
  refine z_if_eq_f (tgt := 28) b dX12_kin_11 (by decide) (by decide) ?_
  refine z_iload_n b dX12_kin_14 rfl rfl ?_
  refine z_iload_n b dX12_kin_15 rfl rfl ?_
  refine z_icmp_eq_f (tgt := 28) b dX12_kin_16 (by decide) (by decide) ?_
  refine z_iload_n b dX12_kin_19 rfl rfl ?_
  refine z_iconst (v := 0) b dX12_kin_20 (by decide) ?_
  refine z_iconst (v := 1) b dX12_kin_21 (by decide) ?_
  refine z_calli b (z_runS (As := [.int p0, .int 0, .int 1]) (st := []) b (c_X12_isIn_18 S p0 ⟨by omega, by omega⟩) cf_X12_isIn wm_X12_1 ws_X12_isIn dX12_kin_22 rfl (Nat.le_of_ble_eq_true rfl) ⟨by decide, by decide, by decide, by decide⟩) (fun r3311 u3312 h3310 => ?_)
  obtain ⟨rfl, rfl⟩ := h3310
  refine z_if_ne_f (tgt := 30) b dX12_kin_25 (by decide) (by decide) ?_
  refine z_iconst (v := 0) b dX12_kin_28 (by decide) ?_
  exact z_zret (u := S) b rfl (by decide) dX12_kin_29 ⟨rfl, rfl⟩ rfl (by decide) (by decide)

